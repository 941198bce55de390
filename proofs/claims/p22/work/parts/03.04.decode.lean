section
def dtX7_isReserved_169_0 : List (Nat × Instr × Nat) := [(169, .ldc 180, 2), (171, .invokevirtual 140, 3), (174, .ifCond .ne 12, 3), (177, .aload_n 0, 1), (178, .ldc 182, 2), (180, .invokevirtual 140, 3), (183, .ifCond .eq 7, 3), (186, .iconst 1, 1), (187, .goto 4, 3), (190, .iconst 0, 1), (191, .ireturn, 1)]
theorem dtX7_isReserved_169_0_ok : dcAll cX7_isReserved dtX7_isReserved_169_0 = true := sorry
theorem dX7_isReserved_169 : decode cX7_isReserved 169 = .ok (.ldc 180, 2) := sorry
theorem dX7_isReserved_171 : decode cX7_isReserved 171 = .ok (.invokevirtual 140, 3) := sorry
theorem dX7_isReserved_174 : decode cX7_isReserved 174 = .ok (.ifCond .ne 12, 3) := sorry
theorem dX7_isReserved_177 : decode cX7_isReserved 177 = .ok (.aload_n 0, 1) := sorry
theorem dX7_isReserved_178 : decode cX7_isReserved 178 = .ok (.ldc 182, 2) := sorry
theorem dX7_isReserved_180 : decode cX7_isReserved 180 = .ok (.invokevirtual 140, 3) := sorry
theorem dX7_isReserved_183 : decode cX7_isReserved 183 = .ok (.ifCond .eq 7, 3) := sorry
theorem dX7_isReserved_186 : decode cX7_isReserved 186 = .ok (.iconst 1, 1) := sorry
theorem dX7_isReserved_187 : decode cX7_isReserved 187 = .ok (.goto 4, 3) := sorry
theorem dX7_isReserved_190 : decode cX7_isReserved 190 = .ok (.iconst 0, 1) := sorry
theorem dX7_isReserved_191 : decode cX7_isReserved 191 = .ok (.ireturn, 1) := sorry
def dtX7_named_0_0 : List (Nat × Instr × Nat) := [(0, .iconst 0, 1), (1, .istore_n 3, 1), (2, .iload_n 3, 1), (3, .aload_n 0, 1), (4, .getfield 184, 3), (7, .if_icmp .ge 22, 3), (10, .aload_n 0, 1), (11, .getfield 20, 3), (14, .iload_n 3, 1), (15, .laload, 1), (16, .lload_n 1, 1), (17, .lcmp, 1), (18, .ifCond .ne 5, 3), (21, .iload_n 3, 1), (22, .ireturn, 1), (23, .iinc 3 1, 3), (26, .goto (-24), 3), (29, .iconst (-1), 1), (30, .ireturn, 1)]
theorem dtX7_named_0_0_ok : dcAll cX7_named dtX7_named_0_0 = true := sorry
theorem dX7_named_0 : decode cX7_named 0 = .ok (.iconst 0, 1) := sorry
theorem dX7_named_1 : decode cX7_named 1 = .ok (.istore_n 3, 1) := sorry
theorem dX7_named_2 : decode cX7_named 2 = .ok (.iload_n 3, 1) := sorry
theorem dX7_named_3 : decode cX7_named 3 = .ok (.aload_n 0, 1) := sorry
theorem dX7_named_4 : decode cX7_named 4 = .ok (.getfield 184, 3) := sorry
theorem dX7_named_7 : decode cX7_named 7 = .ok (.if_icmp .ge 22, 3) := sorry
theorem dX7_named_10 : decode cX7_named 10 = .ok (.aload_n 0, 1) := sorry
theorem dX7_named_11 : decode cX7_named 11 = .ok (.getfield 20, 3) := sorry
theorem dX7_named_14 : decode cX7_named 14 = .ok (.iload_n 3, 1) := sorry
theorem dX7_named_15 : decode cX7_named 15 = .ok (.laload, 1) := sorry
theorem dX7_named_16 : decode cX7_named 16 = .ok (.lload_n 1, 1) := sorry
theorem dX7_named_17 : decode cX7_named 17 = .ok (.lcmp, 1) := sorry
theorem dX7_named_18 : decode cX7_named 18 = .ok (.ifCond .ne 5, 3) := sorry
theorem dX7_named_21 : decode cX7_named 21 = .ok (.iload_n 3, 1) := sorry
theorem dX7_named_22 : decode cX7_named 22 = .ok (.ireturn, 1) := sorry
theorem dX7_named_23 : decode cX7_named 23 = .ok (.iinc 3 1, 3) := sorry
theorem dX7_named_26 : decode cX7_named 26 = .ok (.goto (-24), 3) := sorry
theorem dX7_named_29 : decode cX7_named 29 = .ok (.iconst (-1), 1) := sorry
theorem dX7_named_30 : decode cX7_named 30 = .ok (.ireturn, 1) := sorry
def dtX7_newName_0_0 : List (Nat × Instr × Nat) := [(0, .aload_n 0, 1), (1, .getfield 81, 3), (4, .ifCond .ne 23, 3), (7, .aload_n 0, 1), (8, .getfield 94, 3), (11, .iconst 2, 1), (12, .if_icmp .ne 10, 3), (15, .aload_n 0, 1), (16, .invokevirtual 187, 3), (19, .ifCond .eq 8, 3), (22, .aload_n 0, 1), (23, .iconst 1, 1), (24, .invokevirtual 134, 3), (27, .aload_n 0, 1), (28, .getfield 81, 3), (31, .ifCond .ne 19, 3), (34, .aload_n 0, 1), (35, .aload_n 0, 1), (36, .getfield 111, 3), (39, .invokevirtual 191, 3), (42, .ifCond .lt 8, 3), (45, .aload_n 0, 1), (46, .iconst 3, 1), (47, .invokevirtual 134, 3), (50, .aload_n 0, 1), (51, .getfield 81, 3), (54, .ifCond .ne 16, 3), (57, .aload_n 0, 1), (58, .getfield 20, 3), (61, .aload_n 0, 1), (62, .getfield 184, 3), (65, .aload_n 0, 1)]
theorem dtX7_newName_0_0_ok : dcAll cX7_newName dtX7_newName_0_0 = true := sorry
theorem dX7_newName_0 : decode cX7_newName 0 = .ok (.aload_n 0, 1) := sorry
theorem dX7_newName_1 : decode cX7_newName 1 = .ok (.getfield 81, 3) := sorry
theorem dX7_newName_4 : decode cX7_newName 4 = .ok (.ifCond .ne 23, 3) := sorry
theorem dX7_newName_7 : decode cX7_newName 7 = .ok (.aload_n 0, 1) := sorry
theorem dX7_newName_8 : decode cX7_newName 8 = .ok (.getfield 94, 3) := sorry
theorem dX7_newName_11 : decode cX7_newName 11 = .ok (.iconst 2, 1) := sorry
theorem dX7_newName_12 : decode cX7_newName 12 = .ok (.if_icmp .ne 10, 3) := sorry
theorem dX7_newName_15 : decode cX7_newName 15 = .ok (.aload_n 0, 1) := sorry
theorem dX7_newName_16 : decode cX7_newName 16 = .ok (.invokevirtual 187, 3) := sorry
theorem dX7_newName_19 : decode cX7_newName 19 = .ok (.ifCond .eq 8, 3) := sorry
theorem dX7_newName_22 : decode cX7_newName 22 = .ok (.aload_n 0, 1) := sorry
theorem dX7_newName_23 : decode cX7_newName 23 = .ok (.iconst 1, 1) := sorry
theorem dX7_newName_24 : decode cX7_newName 24 = .ok (.invokevirtual 134, 3) := sorry
theorem dX7_newName_27 : decode cX7_newName 27 = .ok (.aload_n 0, 1) := sorry
theorem dX7_newName_28 : decode cX7_newName 28 = .ok (.getfield 81, 3) := sorry
theorem dX7_newName_31 : decode cX7_newName 31 = .ok (.ifCond .ne 19, 3) := sorry
theorem dX7_newName_34 : decode cX7_newName 34 = .ok (.aload_n 0, 1) := sorry
theorem dX7_newName_35 : decode cX7_newName 35 = .ok (.aload_n 0, 1) := sorry
theorem dX7_newName_36 : decode cX7_newName 36 = .ok (.getfield 111, 3) := sorry
theorem dX7_newName_39 : decode cX7_newName 39 = .ok (.invokevirtual 191, 3) := sorry
theorem dX7_newName_42 : decode cX7_newName 42 = .ok (.ifCond .lt 8, 3) := sorry
theorem dX7_newName_45 : decode cX7_newName 45 = .ok (.aload_n 0, 1) := sorry
theorem dX7_newName_46 : decode cX7_newName 46 = .ok (.iconst 3, 1) := sorry
theorem dX7_newName_47 : decode cX7_newName 47 = .ok (.invokevirtual 134, 3) := sorry
theorem dX7_newName_50 : decode cX7_newName 50 = .ok (.aload_n 0, 1) := sorry
theorem dX7_newName_51 : decode cX7_newName 51 = .ok (.getfield 81, 3) := sorry
theorem dX7_newName_54 : decode cX7_newName 54 = .ok (.ifCond .ne 16, 3) := sorry
theorem dX7_newName_57 : decode cX7_newName 57 = .ok (.aload_n 0, 1) := sorry
theorem dX7_newName_58 : decode cX7_newName 58 = .ok (.getfield 20, 3) := sorry
theorem dX7_newName_61 : decode cX7_newName 61 = .ok (.aload_n 0, 1) := sorry
theorem dX7_newName_62 : decode cX7_newName 62 = .ok (.getfield 184, 3) := sorry
theorem dX7_newName_65 : decode cX7_newName 65 = .ok (.aload_n 0, 1) := sorry
def dtX7_newName_66_1 : List (Nat × Instr × Nat) := [(66, .getfield 111, 3), (69, .lastore, 1), (70, .aload_n 0, 1), (71, .invokevirtual 137, 3), (74, .return_, 1)]
theorem dtX7_newName_66_1_ok : dcAll cX7_newName dtX7_newName_66_1 = true := sorry
theorem dX7_newName_66 : decode cX7_newName 66 = .ok (.getfield 111, 3) := sorry
theorem dX7_newName_69 : decode cX7_newName 69 = .ok (.lastore, 1) := sorry
theorem dX7_newName_70 : decode cX7_newName 70 = .ok (.aload_n 0, 1) := sorry
theorem dX7_newName_71 : decode cX7_newName 71 = .ok (.invokevirtual 137, 3) := sorry
theorem dX7_newName_74 : decode cX7_newName 74 = .ok (.return_, 1) := sorry
def dtX7_relation_0_0 : List (Nat × Instr × Nat) := [(0, .aload_n 0, 1), (1, .getfield 81, 3), (4, .ifCond .ne 23, 3), (7, .aload_n 0, 1), (8, .getfield 94, 3), (11, .iconst 2, 1), (12, .if_icmp .ne 10, 3), (15, .aload_n 0, 1), (16, .invokevirtual 187, 3), (19, .ifCond .eq 8, 3), (22, .aload_n 0, 1), (23, .iconst 1, 1), (24, .invokevirtual 134, 3), (27, .aload_n 0, 1), (28, .getfield 81, 3), (31, .ifCond .le 7, 3), (34, .iconst (-1), 1), (35, .goto 11, 3), (38, .aload_n 0, 1), (39, .aload_n 0, 1), (40, .getfield 111, 3), (43, .invokevirtual 191, 3), (46, .istore_n 1, 1), (47, .iload_n 1, 1), (48, .ifCond .ge 8, 3), (51, .aload_n 0, 1), (52, .iconst 3, 1), (53, .invokevirtual 134, 3), (56, .aload_n 0, 1), (57, .invokevirtual 137, 3), (60, .iload_n 1, 1), (61, .ifCond .ge 7, 3)]
theorem dtX7_relation_0_0_ok : dcAll cX7_relation dtX7_relation_0_0 = true := sorry
theorem dX7_relation_0 : decode cX7_relation 0 = .ok (.aload_n 0, 1) := sorry
theorem dX7_relation_1 : decode cX7_relation 1 = .ok (.getfield 81, 3) := sorry
theorem dX7_relation_4 : decode cX7_relation 4 = .ok (.ifCond .ne 23, 3) := sorry
theorem dX7_relation_7 : decode cX7_relation 7 = .ok (.aload_n 0, 1) := sorry
theorem dX7_relation_8 : decode cX7_relation 8 = .ok (.getfield 94, 3) := sorry
theorem dX7_relation_11 : decode cX7_relation 11 = .ok (.iconst 2, 1) := sorry
theorem dX7_relation_12 : decode cX7_relation 12 = .ok (.if_icmp .ne 10, 3) := sorry
theorem dX7_relation_15 : decode cX7_relation 15 = .ok (.aload_n 0, 1) := sorry
theorem dX7_relation_16 : decode cX7_relation 16 = .ok (.invokevirtual 187, 3) := sorry
theorem dX7_relation_19 : decode cX7_relation 19 = .ok (.ifCond .eq 8, 3) := sorry
theorem dX7_relation_22 : decode cX7_relation 22 = .ok (.aload_n 0, 1) := sorry
theorem dX7_relation_23 : decode cX7_relation 23 = .ok (.iconst 1, 1) := sorry
theorem dX7_relation_24 : decode cX7_relation 24 = .ok (.invokevirtual 134, 3) := sorry
theorem dX7_relation_27 : decode cX7_relation 27 = .ok (.aload_n 0, 1) := sorry
theorem dX7_relation_28 : decode cX7_relation 28 = .ok (.getfield 81, 3) := sorry
theorem dX7_relation_31 : decode cX7_relation 31 = .ok (.ifCond .le 7, 3) := sorry
theorem dX7_relation_34 : decode cX7_relation 34 = .ok (.iconst (-1), 1) := sorry
theorem dX7_relation_35 : decode cX7_relation 35 = .ok (.goto 11, 3) := sorry
theorem dX7_relation_38 : decode cX7_relation 38 = .ok (.aload_n 0, 1) := sorry
theorem dX7_relation_39 : decode cX7_relation 39 = .ok (.aload_n 0, 1) := sorry
theorem dX7_relation_40 : decode cX7_relation 40 = .ok (.getfield 111, 3) := sorry
theorem dX7_relation_43 : decode cX7_relation 43 = .ok (.invokevirtual 191, 3) := sorry
theorem dX7_relation_46 : decode cX7_relation 46 = .ok (.istore_n 1, 1) := sorry
theorem dX7_relation_47 : decode cX7_relation 47 = .ok (.iload_n 1, 1) := sorry
theorem dX7_relation_48 : decode cX7_relation 48 = .ok (.ifCond .ge 8, 3) := sorry
theorem dX7_relation_51 : decode cX7_relation 51 = .ok (.aload_n 0, 1) := sorry
theorem dX7_relation_52 : decode cX7_relation 52 = .ok (.iconst 3, 1) := sorry
theorem dX7_relation_53 : decode cX7_relation 53 = .ok (.invokevirtual 134, 3) := sorry
theorem dX7_relation_56 : decode cX7_relation 56 = .ok (.aload_n 0, 1) := sorry
theorem dX7_relation_57 : decode cX7_relation 57 = .ok (.invokevirtual 137, 3) := sorry
theorem dX7_relation_60 : decode cX7_relation 60 = .ok (.iload_n 1, 1) := sorry
theorem dX7_relation_61 : decode cX7_relation 61 = .ok (.ifCond .ge 7, 3) := sorry
def dtX7_relation_64_1 : List (Nat × Instr × Nat) := [(64, .iconst 0, 1), (65, .goto 4, 3), (68, .iload_n 1, 1), (69, .ireturn, 1)]
theorem dtX7_relation_64_1_ok : dcAll cX7_relation dtX7_relation_64_1 = true := sorry
theorem dX7_relation_64 : decode cX7_relation 64 = .ok (.iconst 0, 1) := sorry
theorem dX7_relation_65 : decode cX7_relation 65 = .ok (.goto 4, 3) := sorry
theorem dX7_relation_68 : decode cX7_relation 68 = .ok (.iload_n 1, 1) := sorry
theorem dX7_relation_69 : decode cX7_relation 69 = .ok (.ireturn, 1) := sorry
def dtX7_columns_0_0 : List (Nat × Instr × Nat) := [(0, .aload_n 0, 1), (1, .getfield 17, 3), (4, .bipush 40, 2), (6, .iload_n 1, 1), (7, .imul, 1), (8, .iconst 1, 1), (9, .iadd, 1), (10, .iaload, 1), (11, .ireturn, 1)]
theorem dtX7_columns_0_0_ok : dcAll cX7_columns dtX7_columns_0_0 = true := sorry
theorem dX7_columns_0 : decode cX7_columns 0 = .ok (.aload_n 0, 1) := sorry
theorem dX7_columns_1 : decode cX7_columns 1 = .ok (.getfield 17, 3) := sorry
theorem dX7_columns_4 : decode cX7_columns 4 = .ok (.bipush 40, 2) := sorry
theorem dX7_columns_6 : decode cX7_columns 6 = .ok (.iload_n 1, 1) := sorry
theorem dX7_columns_7 : decode cX7_columns 7 = .ok (.imul, 1) := sorry
theorem dX7_columns_8 : decode cX7_columns 8 = .ok (.iconst 1, 1) := sorry
theorem dX7_columns_9 : decode cX7_columns 9 = .ok (.iadd, 1) := sorry
theorem dX7_columns_10 : decode cX7_columns 10 = .ok (.iaload, 1) := sorry
theorem dX7_columns_11 : decode cX7_columns 11 = .ok (.ireturn, 1) := sorry
def dtX7_column_0_0 : List (Nat × Instr × Nat) := [(0, .aload_n 0, 1), (1, .getfield 81, 3), (4, .ifCond .ne 16, 3), (7, .aload_n 0, 1), (8, .getfield 94, 3), (11, .iconst 1, 1), (12, .if_icmp .eq 8, 3), (15, .aload_n 0, 1), (16, .iconst 1, 1), (17, .invokevirtual 134, 3), (20, .aload_n 0, 1), (21, .getfield 81, 3), (24, .ifCond .ne 16, 3), (27, .aload_n 0, 1), (28, .getfield 97, 3), (31, .iload_n 1, 1), (32, .if_icmp .lt 8, 3), (35, .aload_n 0, 1), (36, .iconst 2, 1), (37, .invokevirtual 134, 3), (40, .aload_n 0, 1), (41, .getfield 97, 3), (44, .istore_n 2, 1), (45, .aload_n 0, 1), (46, .invokevirtual 137, 3), (49, .iload_n 2, 1), (50, .ireturn, 1)]
theorem dtX7_column_0_0_ok : dcAll cX7_column dtX7_column_0_0 = true := sorry
theorem dX7_column_0 : decode cX7_column 0 = .ok (.aload_n 0, 1) := sorry
theorem dX7_column_1 : decode cX7_column 1 = .ok (.getfield 81, 3) := sorry
theorem dX7_column_4 : decode cX7_column 4 = .ok (.ifCond .ne 16, 3) := sorry
theorem dX7_column_7 : decode cX7_column 7 = .ok (.aload_n 0, 1) := sorry
theorem dX7_column_8 : decode cX7_column 8 = .ok (.getfield 94, 3) := sorry
theorem dX7_column_11 : decode cX7_column 11 = .ok (.iconst 1, 1) := sorry
theorem dX7_column_12 : decode cX7_column 12 = .ok (.if_icmp .eq 8, 3) := sorry
theorem dX7_column_15 : decode cX7_column 15 = .ok (.aload_n 0, 1) := sorry
theorem dX7_column_16 : decode cX7_column 16 = .ok (.iconst 1, 1) := sorry
theorem dX7_column_17 : decode cX7_column 17 = .ok (.invokevirtual 134, 3) := sorry
theorem dX7_column_20 : decode cX7_column 20 = .ok (.aload_n 0, 1) := sorry
theorem dX7_column_21 : decode cX7_column 21 = .ok (.getfield 81, 3) := sorry
theorem dX7_column_24 : decode cX7_column 24 = .ok (.ifCond .ne 16, 3) := sorry
theorem dX7_column_27 : decode cX7_column 27 = .ok (.aload_n 0, 1) := sorry
theorem dX7_column_28 : decode cX7_column 28 = .ok (.getfield 97, 3) := sorry
theorem dX7_column_31 : decode cX7_column 31 = .ok (.iload_n 1, 1) := sorry
theorem dX7_column_32 : decode cX7_column 32 = .ok (.if_icmp .lt 8, 3) := sorry
theorem dX7_column_35 : decode cX7_column 35 = .ok (.aload_n 0, 1) := sorry
theorem dX7_column_36 : decode cX7_column 36 = .ok (.iconst 2, 1) := sorry
theorem dX7_column_37 : decode cX7_column 37 = .ok (.invokevirtual 134, 3) := sorry
theorem dX7_column_40 : decode cX7_column 40 = .ok (.aload_n 0, 1) := sorry
theorem dX7_column_41 : decode cX7_column 41 = .ok (.getfield 97, 3) := sorry
theorem dX7_column_44 : decode cX7_column 44 = .ok (.istore_n 2, 1) := sorry
theorem dX7_column_45 : decode cX7_column 45 = .ok (.aload_n 0, 1) := sorry
theorem dX7_column_46 : decode cX7_column 46 = .ok (.invokevirtual 137, 3) := sorry
theorem dX7_column_49 : decode cX7_column 49 = .ok (.iload_n 2, 1) := sorry
theorem dX7_column_50 : decode cX7_column 50 = .ok (.ireturn, 1) := sorry
def dtX7_numberTold_0_0 : List (Nat × Instr × Nat) := [(0, .aload_n 0, 1), (1, .getfield 81, 3), (4, .ifCond .ne 16, 3), (7, .aload_n 0, 1), (8, .getfield 94, 3), (11, .iconst 3, 1), (12, .if_icmp .eq 8, 3), (15, .aload_n 0, 1), (16, .iconst 1, 1), (17, .invokevirtual 134, 3), (20, .aload_n 0, 1), (21, .getfield 97, 3), (24, .istore_n 1, 1), (25, .aload_n 0, 1), (26, .invokevirtual 137, 3), (29, .iload_n 1, 1), (30, .ireturn, 1)]
theorem dtX7_numberTold_0_0_ok : dcAll cX7_numberTold dtX7_numberTold_0_0 = true := sorry
theorem dX7_numberTold_0 : decode cX7_numberTold 0 = .ok (.aload_n 0, 1) := sorry
theorem dX7_numberTold_1 : decode cX7_numberTold 1 = .ok (.getfield 81, 3) := sorry
theorem dX7_numberTold_4 : decode cX7_numberTold 4 = .ok (.ifCond .ne 16, 3) := sorry
theorem dX7_numberTold_7 : decode cX7_numberTold 7 = .ok (.aload_n 0, 1) := sorry
theorem dX7_numberTold_8 : decode cX7_numberTold 8 = .ok (.getfield 94, 3) := sorry
theorem dX7_numberTold_11 : decode cX7_numberTold 11 = .ok (.iconst 3, 1) := sorry
theorem dX7_numberTold_12 : decode cX7_numberTold 12 = .ok (.if_icmp .eq 8, 3) := sorry
theorem dX7_numberTold_15 : decode cX7_numberTold 15 = .ok (.aload_n 0, 1) := sorry
theorem dX7_numberTold_16 : decode cX7_numberTold 16 = .ok (.iconst 1, 1) := sorry
theorem dX7_numberTold_17 : decode cX7_numberTold 17 = .ok (.invokevirtual 134, 3) := sorry
theorem dX7_numberTold_20 : decode cX7_numberTold 20 = .ok (.aload_n 0, 1) := sorry
theorem dX7_numberTold_21 : decode cX7_numberTold 21 = .ok (.getfield 97, 3) := sorry
theorem dX7_numberTold_24 : decode cX7_numberTold 24 = .ok (.istore_n 1, 1) := sorry
theorem dX7_numberTold_25 : decode cX7_numberTold 25 = .ok (.aload_n 0, 1) := sorry
theorem dX7_numberTold_26 : decode cX7_numberTold 26 = .ok (.invokevirtual 137, 3) := sorry
theorem dX7_numberTold_29 : decode cX7_numberTold 29 = .ok (.iload_n 1, 1) := sorry
theorem dX7_numberTold_30 : decode cX7_numberTold 30 = .ok (.ireturn, 1) := sorry
def dtX7_sets_0_0 : List (Nat × Instr × Nat) := [(0, .aload_n 0, 1), (1, .getfield 81, 3), (4, .ifCond .ne 18, 3), (7, .aload_n 0, 1), (8, .getfield 17, 3), (11, .bipush 40, 2), (13, .aload_n 0, 1), (14, .getfield 184, 3), (17, .imul, 1), (18, .iload_n 1, 1), (19, .iadd, 1), (20, .iload_n 2, 1), (21, .iastore, 1), (22, .return_, 1)]
theorem dtX7_sets_0_0_ok : dcAll cX7_sets dtX7_sets_0_0 = true := sorry
theorem dX7_sets_0 : decode cX7_sets 0 = .ok (.aload_n 0, 1) := sorry
theorem dX7_sets_1 : decode cX7_sets 1 = .ok (.getfield 81, 3) := sorry
theorem dX7_sets_4 : decode cX7_sets 4 = .ok (.ifCond .ne 18, 3) := sorry
theorem dX7_sets_7 : decode cX7_sets 7 = .ok (.aload_n 0, 1) := sorry
theorem dX7_sets_8 : decode cX7_sets 8 = .ok (.getfield 17, 3) := sorry
theorem dX7_sets_11 : decode cX7_sets 11 = .ok (.bipush 40, 2) := sorry
theorem dX7_sets_13 : decode cX7_sets 13 = .ok (.aload_n 0, 1) := sorry
theorem dX7_sets_14 : decode cX7_sets 14 = .ok (.getfield 184, 3) := sorry
theorem dX7_sets_17 : decode cX7_sets 17 = .ok (.imul, 1) := sorry
theorem dX7_sets_18 : decode cX7_sets 18 = .ok (.iload_n 1, 1) := sorry
theorem dX7_sets_19 : decode cX7_sets 19 = .ok (.iadd, 1) := sorry
theorem dX7_sets_20 : decode cX7_sets 20 = .ok (.iload_n 2, 1) := sorry
theorem dX7_sets_21 : decode cX7_sets 21 = .ok (.iastore, 1) := sorry
theorem dX7_sets_22 : decode cX7_sets 22 = .ok (.return_, 1) := sorry
def dtX7_setsPart_0_0 : List (Nat × Instr × Nat) := [(0, .aload_n 0, 1), (1, .getfield 81, 3), (4, .ifCond .le 4, 3), (7, .return_, 1), (8, .bipush 40, 2), (10, .aload_n 0, 1), (11, .getfield 184, 3), (14, .imul, 1), (15, .bipush 6, 2), (17, .iadd, 1), (18, .iconst 4, 1), (19, .iload_n 1, 1), (20, .imul, 1), (21, .iadd, 1), (22, .istore 6, 2), (24, .aload_n 0, 1), (25, .getfield 17, 3), (28, .iload 6, 2), (30, .iload_n 2, 1), (31, .iastore, 1), (32, .aload_n 0, 1), (33, .getfield 17, 3), (36, .iload 6, 2), (38, .iconst 1, 1), (39, .iadd, 1), (40, .iload_n 3, 1), (41, .iastore, 1), (42, .aload_n 0, 1), (43, .getfield 17, 3), (46, .iload 6, 2), (48, .iconst 2, 1), (49, .iadd, 1)]
theorem dtX7_setsPart_0_0_ok : dcAll cX7_setsPart dtX7_setsPart_0_0 = true := sorry
theorem dX7_setsPart_0 : decode cX7_setsPart 0 = .ok (.aload_n 0, 1) := sorry
theorem dX7_setsPart_1 : decode cX7_setsPart 1 = .ok (.getfield 81, 3) := sorry
theorem dX7_setsPart_4 : decode cX7_setsPart 4 = .ok (.ifCond .le 4, 3) := sorry
theorem dX7_setsPart_7 : decode cX7_setsPart 7 = .ok (.return_, 1) := sorry
theorem dX7_setsPart_8 : decode cX7_setsPart 8 = .ok (.bipush 40, 2) := sorry
theorem dX7_setsPart_10 : decode cX7_setsPart 10 = .ok (.aload_n 0, 1) := sorry
theorem dX7_setsPart_11 : decode cX7_setsPart 11 = .ok (.getfield 184, 3) := sorry
theorem dX7_setsPart_14 : decode cX7_setsPart 14 = .ok (.imul, 1) := sorry
theorem dX7_setsPart_15 : decode cX7_setsPart 15 = .ok (.bipush 6, 2) := sorry
theorem dX7_setsPart_17 : decode cX7_setsPart 17 = .ok (.iadd, 1) := sorry
theorem dX7_setsPart_18 : decode cX7_setsPart 18 = .ok (.iconst 4, 1) := sorry
theorem dX7_setsPart_19 : decode cX7_setsPart 19 = .ok (.iload_n 1, 1) := sorry
theorem dX7_setsPart_20 : decode cX7_setsPart 20 = .ok (.imul, 1) := sorry
theorem dX7_setsPart_21 : decode cX7_setsPart 21 = .ok (.iadd, 1) := sorry
theorem dX7_setsPart_22 : decode cX7_setsPart 22 = .ok (.istore 6, 2) := sorry
theorem dX7_setsPart_24 : decode cX7_setsPart 24 = .ok (.aload_n 0, 1) := sorry
theorem dX7_setsPart_25 : decode cX7_setsPart 25 = .ok (.getfield 17, 3) := sorry
theorem dX7_setsPart_28 : decode cX7_setsPart 28 = .ok (.iload 6, 2) := sorry
theorem dX7_setsPart_30 : decode cX7_setsPart 30 = .ok (.iload_n 2, 1) := sorry
theorem dX7_setsPart_31 : decode cX7_setsPart 31 = .ok (.iastore, 1) := sorry
theorem dX7_setsPart_32 : decode cX7_setsPart 32 = .ok (.aload_n 0, 1) := sorry
theorem dX7_setsPart_33 : decode cX7_setsPart 33 = .ok (.getfield 17, 3) := sorry
theorem dX7_setsPart_36 : decode cX7_setsPart 36 = .ok (.iload 6, 2) := sorry
theorem dX7_setsPart_38 : decode cX7_setsPart 38 = .ok (.iconst 1, 1) := sorry
theorem dX7_setsPart_39 : decode cX7_setsPart 39 = .ok (.iadd, 1) := sorry
theorem dX7_setsPart_40 : decode cX7_setsPart 40 = .ok (.iload_n 3, 1) := sorry
theorem dX7_setsPart_41 : decode cX7_setsPart 41 = .ok (.iastore, 1) := sorry
theorem dX7_setsPart_42 : decode cX7_setsPart 42 = .ok (.aload_n 0, 1) := sorry
theorem dX7_setsPart_43 : decode cX7_setsPart 43 = .ok (.getfield 17, 3) := sorry
theorem dX7_setsPart_46 : decode cX7_setsPart 46 = .ok (.iload 6, 2) := sorry
theorem dX7_setsPart_48 : decode cX7_setsPart 48 = .ok (.iconst 2, 1) := sorry
theorem dX7_setsPart_49 : decode cX7_setsPart 49 = .ok (.iadd, 1) := sorry
def dtX7_setsPart_50_1 : List (Nat × Instr × Nat) := [(50, .iload 4, 2), (52, .iastore, 1), (53, .aload_n 0, 1), (54, .getfield 17, 3), (57, .iload 6, 2), (59, .iconst 3, 1), (60, .iadd, 1), (61, .iload 5, 2), (63, .iastore, 1), (64, .return_, 1)]
theorem dtX7_setsPart_50_1_ok : dcAll cX7_setsPart dtX7_setsPart_50_1 = true := sorry
theorem dX7_setsPart_50 : decode cX7_setsPart 50 = .ok (.iload 4, 2) := sorry
theorem dX7_setsPart_52 : decode cX7_setsPart 52 = .ok (.iastore, 1) := sorry
theorem dX7_setsPart_53 : decode cX7_setsPart 53 = .ok (.aload_n 0, 1) := sorry
theorem dX7_setsPart_54 : decode cX7_setsPart 54 = .ok (.getfield 17, 3) := sorry
theorem dX7_setsPart_57 : decode cX7_setsPart 57 = .ok (.iload 6, 2) := sorry
theorem dX7_setsPart_59 : decode cX7_setsPart 59 = .ok (.iconst 3, 1) := sorry
theorem dX7_setsPart_60 : decode cX7_setsPart 60 = .ok (.iadd, 1) := sorry
theorem dX7_setsPart_61 : decode cX7_setsPart 61 = .ok (.iload 5, 2) := sorry
theorem dX7_setsPart_63 : decode cX7_setsPart 63 = .ok (.iastore, 1) := sorry
theorem dX7_setsPart_64 : decode cX7_setsPart 64 = .ok (.return_, 1) := sorry
def dtX7_header_0_0 : List (Nat × Instr × Nat) := [(0, .aload_n 0, 1), (1, .iconst 0, 1), (2, .iload_n 1, 1), (3, .invokevirtual 195, 3), (6, .aload_n 0, 1), (7, .iconst 1, 1), (8, .iload_n 2, 1), (9, .invokevirtual 195, 3), (12, .aload_n 0, 1), (13, .iconst 2, 1), (14, .iload_n 3, 1), (15, .invokevirtual 195, 3), (18, .aload_n 0, 1), (19, .iconst 3, 1), (20, .iload 4, 2), (22, .invokevirtual 195, 3), (25, .aload_n 0, 1), (26, .iconst 4, 1), (27, .iload 5, 2), (29, .invokevirtual 195, 3), (32, .return_, 1)]
theorem dtX7_header_0_0_ok : dcAll cX7_header dtX7_header_0_0 = true := sorry
theorem dX7_header_0 : decode cX7_header 0 = .ok (.aload_n 0, 1) := sorry
theorem dX7_header_1 : decode cX7_header 1 = .ok (.iconst 0, 1) := sorry
theorem dX7_header_2 : decode cX7_header 2 = .ok (.iload_n 1, 1) := sorry
theorem dX7_header_3 : decode cX7_header 3 = .ok (.invokevirtual 195, 3) := sorry
theorem dX7_header_6 : decode cX7_header 6 = .ok (.aload_n 0, 1) := sorry
theorem dX7_header_7 : decode cX7_header 7 = .ok (.iconst 1, 1) := sorry
theorem dX7_header_8 : decode cX7_header 8 = .ok (.iload_n 2, 1) := sorry
theorem dX7_header_9 : decode cX7_header 9 = .ok (.invokevirtual 195, 3) := sorry
theorem dX7_header_12 : decode cX7_header 12 = .ok (.aload_n 0, 1) := sorry
theorem dX7_header_13 : decode cX7_header 13 = .ok (.iconst 2, 1) := sorry
theorem dX7_header_14 : decode cX7_header 14 = .ok (.iload_n 3, 1) := sorry
theorem dX7_header_15 : decode cX7_header 15 = .ok (.invokevirtual 195, 3) := sorry
theorem dX7_header_18 : decode cX7_header 18 = .ok (.aload_n 0, 1) := sorry
theorem dX7_header_19 : decode cX7_header 19 = .ok (.iconst 3, 1) := sorry
theorem dX7_header_20 : decode cX7_header 20 = .ok (.iload 4, 2) := sorry
theorem dX7_header_22 : decode cX7_header 22 = .ok (.invokevirtual 195, 3) := sorry
theorem dX7_header_25 : decode cX7_header 25 = .ok (.aload_n 0, 1) := sorry
theorem dX7_header_26 : decode cX7_header 26 = .ok (.iconst 4, 1) := sorry
theorem dX7_header_27 : decode cX7_header 27 = .ok (.iload 5, 2) := sorry
theorem dX7_header_29 : decode cX7_header 29 = .ok (.invokevirtual 195, 3) := sorry
theorem dX7_header_32 : decode cX7_header 32 = .ok (.return_, 1) := sorry
def dtX7_selectTold_0_0 : List (Nat × Instr × Nat) := [(0, .aload_n 0, 1), (1, .invokevirtual 199, 3), (4, .istore_n 1, 1), (5, .aload_n 0, 1), (6, .ldc 150, 2), (8, .invokevirtual 202, 3), (11, .iconst 0, 1), (12, .istore_n 2, 1), (13, .iconst 1, 1), (14, .istore_n 3, 1), (15, .iload_n 3, 1), (16, .ifCond .eq 204, 3), (19, .aload_n 0, 1), (20, .getfield 81, 3), (23, .ifCond .ne 197, 3), (26, .iload_n 2, 1), (27, .bipush 8, 2), (29, .if_icmp .ne 44, 3), (32, .aload_n 0, 1), (33, .aload_n 0, 1), (34, .getfield 94, 3), (37, .iconst 1, 1), (38, .if_icmp .ne 19, 3), (41, .aload_n 0, 1), (42, .getfield 97, 3), (45, .aload_n 0, 1), (46, .iload_n 1, 1), (47, .invokevirtual 206, 3), (50, .if_icmp .lt 7, 3), (53, .iconst 2, 1), (54, .goto 16, 3), (57, .aload_n 0, 1)]
theorem dtX7_selectTold_0_0_ok : dcAll cX7_selectTold dtX7_selectTold_0_0 = true := sorry
theorem dX7_selectTold_0 : decode cX7_selectTold 0 = .ok (.aload_n 0, 1) := sorry
theorem dX7_selectTold_1 : decode cX7_selectTold 1 = .ok (.invokevirtual 199, 3) := sorry
theorem dX7_selectTold_4 : decode cX7_selectTold 4 = .ok (.istore_n 1, 1) := sorry
theorem dX7_selectTold_5 : decode cX7_selectTold 5 = .ok (.aload_n 0, 1) := sorry
theorem dX7_selectTold_6 : decode cX7_selectTold 6 = .ok (.ldc 150, 2) := sorry
theorem dX7_selectTold_8 : decode cX7_selectTold 8 = .ok (.invokevirtual 202, 3) := sorry
theorem dX7_selectTold_11 : decode cX7_selectTold 11 = .ok (.iconst 0, 1) := sorry
theorem dX7_selectTold_12 : decode cX7_selectTold 12 = .ok (.istore_n 2, 1) := sorry
theorem dX7_selectTold_13 : decode cX7_selectTold 13 = .ok (.iconst 1, 1) := sorry
theorem dX7_selectTold_14 : decode cX7_selectTold 14 = .ok (.istore_n 3, 1) := sorry
theorem dX7_selectTold_15 : decode cX7_selectTold 15 = .ok (.iload_n 3, 1) := sorry
theorem dX7_selectTold_16 : decode cX7_selectTold 16 = .ok (.ifCond .eq 204, 3) := sorry
theorem dX7_selectTold_19 : decode cX7_selectTold 19 = .ok (.aload_n 0, 1) := sorry
theorem dX7_selectTold_20 : decode cX7_selectTold 20 = .ok (.getfield 81, 3) := sorry
theorem dX7_selectTold_23 : decode cX7_selectTold 23 = .ok (.ifCond .ne 197, 3) := sorry
theorem dX7_selectTold_26 : decode cX7_selectTold 26 = .ok (.iload_n 2, 1) := sorry
theorem dX7_selectTold_27 : decode cX7_selectTold 27 = .ok (.bipush 8, 2) := sorry
theorem dX7_selectTold_29 : decode cX7_selectTold 29 = .ok (.if_icmp .ne 44, 3) := sorry
theorem dX7_selectTold_32 : decode cX7_selectTold 32 = .ok (.aload_n 0, 1) := sorry
theorem dX7_selectTold_33 : decode cX7_selectTold 33 = .ok (.aload_n 0, 1) := sorry
theorem dX7_selectTold_34 : decode cX7_selectTold 34 = .ok (.getfield 94, 3) := sorry
theorem dX7_selectTold_37 : decode cX7_selectTold 37 = .ok (.iconst 1, 1) := sorry
theorem dX7_selectTold_38 : decode cX7_selectTold 38 = .ok (.if_icmp .ne 19, 3) := sorry
theorem dX7_selectTold_41 : decode cX7_selectTold 41 = .ok (.aload_n 0, 1) := sorry
theorem dX7_selectTold_42 : decode cX7_selectTold 42 = .ok (.getfield 97, 3) := sorry
theorem dX7_selectTold_45 : decode cX7_selectTold 45 = .ok (.aload_n 0, 1) := sorry
theorem dX7_selectTold_46 : decode cX7_selectTold 46 = .ok (.iload_n 1, 1) := sorry
theorem dX7_selectTold_47 : decode cX7_selectTold 47 = .ok (.invokevirtual 206, 3) := sorry
theorem dX7_selectTold_50 : decode cX7_selectTold 50 = .ok (.if_icmp .lt 7, 3) := sorry
theorem dX7_selectTold_53 : decode cX7_selectTold 53 = .ok (.iconst 2, 1) := sorry
theorem dX7_selectTold_54 : decode cX7_selectTold 54 = .ok (.goto 16, 3) := sorry
theorem dX7_selectTold_57 : decode cX7_selectTold 57 = .ok (.aload_n 0, 1) := sorry
def dtX7_selectTold_58_1 : List (Nat × Instr × Nat) := [(58, .getfield 94, 3), (61, .iconst 1, 1), (62, .if_icmp .ne 7, 3), (65, .iconst 4, 1), (66, .goto 4, 3), (69, .iconst 1, 1), (70, .invokevirtual 134, 3), (73, .aload_n 0, 1), (74, .aload_n 0, 1), (75, .iload_n 1, 1), (76, .invokevirtual 206, 3), (79, .invokevirtual 209, 3), (82, .istore 4, 2), (84, .aload_n 0, 1), (85, .bipush 61, 2), (87, .invokevirtual 131, 3), (90, .ifCond .eq 7, 3), (93, .iconst 0, 1), (94, .goto 30, 3), (97, .aload_n 0, 1), (98, .bipush 60, 2), (100, .invokevirtual 131, 3), (103, .ifCond .eq 7, 3), (106, .iconst 1, 1), (107, .goto 17, 3), (110, .aload_n 0, 1), (111, .bipush 62, 2), (113, .invokevirtual 131, 3), (116, .ifCond .eq 7, 3), (119, .iconst 2, 1), (120, .goto 4, 3), (123, .iconst (-1), 1)]
theorem dtX7_selectTold_58_1_ok : dcAll cX7_selectTold dtX7_selectTold_58_1 = true := sorry
theorem dX7_selectTold_58 : decode cX7_selectTold 58 = .ok (.getfield 94, 3) := sorry
theorem dX7_selectTold_61 : decode cX7_selectTold 61 = .ok (.iconst 1, 1) := sorry
theorem dX7_selectTold_62 : decode cX7_selectTold 62 = .ok (.if_icmp .ne 7, 3) := sorry
theorem dX7_selectTold_65 : decode cX7_selectTold 65 = .ok (.iconst 4, 1) := sorry
theorem dX7_selectTold_66 : decode cX7_selectTold 66 = .ok (.goto 4, 3) := sorry
theorem dX7_selectTold_69 : decode cX7_selectTold 69 = .ok (.iconst 1, 1) := sorry
theorem dX7_selectTold_70 : decode cX7_selectTold 70 = .ok (.invokevirtual 134, 3) := sorry
theorem dX7_selectTold_73 : decode cX7_selectTold 73 = .ok (.aload_n 0, 1) := sorry
theorem dX7_selectTold_74 : decode cX7_selectTold 74 = .ok (.aload_n 0, 1) := sorry
theorem dX7_selectTold_75 : decode cX7_selectTold 75 = .ok (.iload_n 1, 1) := sorry
theorem dX7_selectTold_76 : decode cX7_selectTold 76 = .ok (.invokevirtual 206, 3) := sorry
theorem dX7_selectTold_79 : decode cX7_selectTold 79 = .ok (.invokevirtual 209, 3) := sorry
theorem dX7_selectTold_82 : decode cX7_selectTold 82 = .ok (.istore 4, 2) := sorry
theorem dX7_selectTold_84 : decode cX7_selectTold 84 = .ok (.aload_n 0, 1) := sorry
theorem dX7_selectTold_85 : decode cX7_selectTold 85 = .ok (.bipush 61, 2) := sorry
theorem dX7_selectTold_87 : decode cX7_selectTold 87 = .ok (.invokevirtual 131, 3) := sorry
theorem dX7_selectTold_90 : decode cX7_selectTold 90 = .ok (.ifCond .eq 7, 3) := sorry
theorem dX7_selectTold_93 : decode cX7_selectTold 93 = .ok (.iconst 0, 1) := sorry
theorem dX7_selectTold_94 : decode cX7_selectTold 94 = .ok (.goto 30, 3) := sorry
theorem dX7_selectTold_97 : decode cX7_selectTold 97 = .ok (.aload_n 0, 1) := sorry
theorem dX7_selectTold_98 : decode cX7_selectTold 98 = .ok (.bipush 60, 2) := sorry
theorem dX7_selectTold_100 : decode cX7_selectTold 100 = .ok (.invokevirtual 131, 3) := sorry
theorem dX7_selectTold_103 : decode cX7_selectTold 103 = .ok (.ifCond .eq 7, 3) := sorry
theorem dX7_selectTold_106 : decode cX7_selectTold 106 = .ok (.iconst 1, 1) := sorry
theorem dX7_selectTold_107 : decode cX7_selectTold 107 = .ok (.goto 17, 3) := sorry
theorem dX7_selectTold_110 : decode cX7_selectTold 110 = .ok (.aload_n 0, 1) := sorry
theorem dX7_selectTold_111 : decode cX7_selectTold 111 = .ok (.bipush 62, 2) := sorry
theorem dX7_selectTold_113 : decode cX7_selectTold 113 = .ok (.invokevirtual 131, 3) := sorry
theorem dX7_selectTold_116 : decode cX7_selectTold 116 = .ok (.ifCond .eq 7, 3) := sorry
theorem dX7_selectTold_119 : decode cX7_selectTold 119 = .ok (.iconst 2, 1) := sorry
theorem dX7_selectTold_120 : decode cX7_selectTold 120 = .ok (.goto 4, 3) := sorry
theorem dX7_selectTold_123 : decode cX7_selectTold 123 = .ok (.iconst (-1), 1) := sorry
def dtX7_selectTold_124_2 : List (Nat × Instr × Nat) := [(124, .istore 5, 2), (126, .iload 5, 2), (128, .ifCond .ge 8, 3), (131, .aload_n 0, 1), (132, .iconst 1, 1), (133, .invokevirtual 134, 3), (136, .aload_n 0, 1), (137, .invokevirtual 137, 3), (140, .aload_n 0, 1), (141, .getfield 94, 3), (144, .iconst 1, 1), (145, .if_icmp .ne 7, 3), (148, .iconst 1, 1), (149, .goto 4, 3), (152, .iconst 0, 1), (153, .istore 6, 2), (155, .iload 6, 2), (157, .ifCond .eq 15, 3), (160, .aload_n 0, 1), (161, .aload_n 0, 1), (162, .iload_n 1, 1), (163, .invokevirtual 206, 3), (166, .invokevirtual 209, 3), (169, .goto 7, 3), (172, .aload_n 0, 1), (173, .invokevirtual 212, 3), (176, .istore 7, 2), (178, .aload_n 0, 1), (179, .iload_n 2, 1), (180, .iload 4, 2), (182, .iload 5, 2), (184, .iload 6, 2)]
theorem dtX7_selectTold_124_2_ok : dcAll cX7_selectTold dtX7_selectTold_124_2 = true := sorry
theorem dX7_selectTold_124 : decode cX7_selectTold 124 = .ok (.istore 5, 2) := sorry
theorem dX7_selectTold_126 : decode cX7_selectTold 126 = .ok (.iload 5, 2) := sorry
theorem dX7_selectTold_128 : decode cX7_selectTold 128 = .ok (.ifCond .ge 8, 3) := sorry
theorem dX7_selectTold_131 : decode cX7_selectTold 131 = .ok (.aload_n 0, 1) := sorry
theorem dX7_selectTold_132 : decode cX7_selectTold 132 = .ok (.iconst 1, 1) := sorry
theorem dX7_selectTold_133 : decode cX7_selectTold 133 = .ok (.invokevirtual 134, 3) := sorry
theorem dX7_selectTold_136 : decode cX7_selectTold 136 = .ok (.aload_n 0, 1) := sorry
theorem dX7_selectTold_137 : decode cX7_selectTold 137 = .ok (.invokevirtual 137, 3) := sorry
theorem dX7_selectTold_140 : decode cX7_selectTold 140 = .ok (.aload_n 0, 1) := sorry
theorem dX7_selectTold_141 : decode cX7_selectTold 141 = .ok (.getfield 94, 3) := sorry
theorem dX7_selectTold_144 : decode cX7_selectTold 144 = .ok (.iconst 1, 1) := sorry
theorem dX7_selectTold_145 : decode cX7_selectTold 145 = .ok (.if_icmp .ne 7, 3) := sorry
theorem dX7_selectTold_148 : decode cX7_selectTold 148 = .ok (.iconst 1, 1) := sorry
theorem dX7_selectTold_149 : decode cX7_selectTold 149 = .ok (.goto 4, 3) := sorry
theorem dX7_selectTold_152 : decode cX7_selectTold 152 = .ok (.iconst 0, 1) := sorry
theorem dX7_selectTold_153 : decode cX7_selectTold 153 = .ok (.istore 6, 2) := sorry
theorem dX7_selectTold_155 : decode cX7_selectTold 155 = .ok (.iload 6, 2) := sorry
theorem dX7_selectTold_157 : decode cX7_selectTold 157 = .ok (.ifCond .eq 15, 3) := sorry
theorem dX7_selectTold_160 : decode cX7_selectTold 160 = .ok (.aload_n 0, 1) := sorry
theorem dX7_selectTold_161 : decode cX7_selectTold 161 = .ok (.aload_n 0, 1) := sorry
theorem dX7_selectTold_162 : decode cX7_selectTold 162 = .ok (.iload_n 1, 1) := sorry
theorem dX7_selectTold_163 : decode cX7_selectTold 163 = .ok (.invokevirtual 206, 3) := sorry
theorem dX7_selectTold_166 : decode cX7_selectTold 166 = .ok (.invokevirtual 209, 3) := sorry
theorem dX7_selectTold_169 : decode cX7_selectTold 169 = .ok (.goto 7, 3) := sorry
theorem dX7_selectTold_172 : decode cX7_selectTold 172 = .ok (.aload_n 0, 1) := sorry
theorem dX7_selectTold_173 : decode cX7_selectTold 173 = .ok (.invokevirtual 212, 3) := sorry
theorem dX7_selectTold_176 : decode cX7_selectTold 176 = .ok (.istore 7, 2) := sorry
theorem dX7_selectTold_178 : decode cX7_selectTold 178 = .ok (.aload_n 0, 1) := sorry
theorem dX7_selectTold_179 : decode cX7_selectTold 179 = .ok (.iload_n 2, 1) := sorry
theorem dX7_selectTold_180 : decode cX7_selectTold 180 = .ok (.iload 4, 2) := sorry
theorem dX7_selectTold_182 : decode cX7_selectTold 182 = .ok (.iload 5, 2) := sorry
theorem dX7_selectTold_184 : decode cX7_selectTold 184 = .ok (.iload 6, 2) := sorry
def dtX7_selectTold_186_3 : List (Nat × Instr × Nat) := [(186, .ifCond .eq 7, 3), (189, .iconst 1, 1), (190, .goto 4, 3), (193, .iconst 0, 1), (194, .iload 7, 2), (196, .invokevirtual 215, 3), (199, .iinc 2 1, 3), (202, .aload_n 0, 1), (203, .ldc 152, 2), (205, .invokevirtual 140, 3), (208, .istore_n 3, 1), (209, .iload_n 3, 1), (210, .ifCond .eq 7, 3), (213, .aload_n 0, 1), (214, .invokevirtual 137, 3), (217, .goto (-202), 3), (220, .aload_n 0, 1), (221, .iconst 1, 1), (222, .aload_n 0, 1), (223, .iload_n 1, 1), (224, .invokevirtual 206, 3), (227, .iload_n 1, 1), (228, .iconst (-1), 1), (229, .iload_n 2, 1), (230, .invokevirtual 219, 3), (233, .return_, 1)]
theorem dtX7_selectTold_186_3_ok : dcAll cX7_selectTold dtX7_selectTold_186_3 = true := sorry
theorem dX7_selectTold_186 : decode cX7_selectTold 186 = .ok (.ifCond .eq 7, 3) := sorry
theorem dX7_selectTold_189 : decode cX7_selectTold 189 = .ok (.iconst 1, 1) := sorry
theorem dX7_selectTold_190 : decode cX7_selectTold 190 = .ok (.goto 4, 3) := sorry
theorem dX7_selectTold_193 : decode cX7_selectTold 193 = .ok (.iconst 0, 1) := sorry
theorem dX7_selectTold_194 : decode cX7_selectTold 194 = .ok (.iload 7, 2) := sorry
theorem dX7_selectTold_196 : decode cX7_selectTold 196 = .ok (.invokevirtual 215, 3) := sorry
theorem dX7_selectTold_199 : decode cX7_selectTold 199 = .ok (.iinc 2 1, 3) := sorry
theorem dX7_selectTold_202 : decode cX7_selectTold 202 = .ok (.aload_n 0, 1) := sorry
theorem dX7_selectTold_203 : decode cX7_selectTold 203 = .ok (.ldc 152, 2) := sorry
theorem dX7_selectTold_205 : decode cX7_selectTold 205 = .ok (.invokevirtual 140, 3) := sorry
theorem dX7_selectTold_208 : decode cX7_selectTold 208 = .ok (.istore_n 3, 1) := sorry
theorem dX7_selectTold_209 : decode cX7_selectTold 209 = .ok (.iload_n 3, 1) := sorry
theorem dX7_selectTold_210 : decode cX7_selectTold 210 = .ok (.ifCond .eq 7, 3) := sorry
theorem dX7_selectTold_213 : decode cX7_selectTold 213 = .ok (.aload_n 0, 1) := sorry
theorem dX7_selectTold_214 : decode cX7_selectTold 214 = .ok (.invokevirtual 137, 3) := sorry
theorem dX7_selectTold_217 : decode cX7_selectTold 217 = .ok (.goto (-202), 3) := sorry
theorem dX7_selectTold_220 : decode cX7_selectTold 220 = .ok (.aload_n 0, 1) := sorry
theorem dX7_selectTold_221 : decode cX7_selectTold 221 = .ok (.iconst 1, 1) := sorry
theorem dX7_selectTold_222 : decode cX7_selectTold 222 = .ok (.aload_n 0, 1) := sorry
theorem dX7_selectTold_223 : decode cX7_selectTold 223 = .ok (.iload_n 1, 1) := sorry
theorem dX7_selectTold_224 : decode cX7_selectTold 224 = .ok (.invokevirtual 206, 3) := sorry
theorem dX7_selectTold_227 : decode cX7_selectTold 227 = .ok (.iload_n 1, 1) := sorry
theorem dX7_selectTold_228 : decode cX7_selectTold 228 = .ok (.iconst (-1), 1) := sorry
theorem dX7_selectTold_229 : decode cX7_selectTold 229 = .ok (.iload_n 2, 1) := sorry
theorem dX7_selectTold_230 : decode cX7_selectTold 230 = .ok (.invokevirtual 219, 3) := sorry
theorem dX7_selectTold_233 : decode cX7_selectTold 233 = .ok (.return_, 1) := sorry
def dtX7_termsTold_0_0 : List (Nat × Instr × Nat) := [(0, .iconst 0, 1), (1, .istore_n 3, 1), (2, .iconst 1, 1), (3, .istore 4, 2), (5, .iload 4, 2), (7, .ifCond .eq 174, 3), (10, .aload_n 0, 1), (11, .getfield 81, 3), (14, .ifCond .ne 167, 3), (17, .iload_n 3, 1), (18, .iconst 4, 1), (19, .if_icmp .ne 44, 3), (22, .aload_n 0, 1), (23, .aload_n 0, 1), (24, .getfield 94, 3), (27, .iconst 1, 1), (28, .if_icmp .ne 19, 3), (31, .aload_n 0, 1), (32, .getfield 97, 3), (35, .iload_n 1, 1), (36, .if_icmp .lt 7, 3), (39, .iconst 2, 1), (40, .goto 20, 3), (43, .iconst 4, 1), (44, .goto 16, 3), (47, .aload_n 0, 1), (48, .getfield 94, 3), (51, .iconst 3, 1), (52, .if_icmp .ne 7, 3), (55, .iconst 4, 1), (56, .goto 4, 3), (59, .iconst 1, 1)]
theorem dtX7_termsTold_0_0_ok : dcAll cX7_termsTold dtX7_termsTold_0_0 = true := sorry
theorem dX7_termsTold_0 : decode cX7_termsTold 0 = .ok (.iconst 0, 1) := sorry
theorem dX7_termsTold_1 : decode cX7_termsTold 1 = .ok (.istore_n 3, 1) := sorry
theorem dX7_termsTold_2 : decode cX7_termsTold 2 = .ok (.iconst 1, 1) := sorry
theorem dX7_termsTold_3 : decode cX7_termsTold 3 = .ok (.istore 4, 2) := sorry
theorem dX7_termsTold_5 : decode cX7_termsTold 5 = .ok (.iload 4, 2) := sorry
theorem dX7_termsTold_7 : decode cX7_termsTold 7 = .ok (.ifCond .eq 174, 3) := sorry
theorem dX7_termsTold_10 : decode cX7_termsTold 10 = .ok (.aload_n 0, 1) := sorry
theorem dX7_termsTold_11 : decode cX7_termsTold 11 = .ok (.getfield 81, 3) := sorry
theorem dX7_termsTold_14 : decode cX7_termsTold 14 = .ok (.ifCond .ne 167, 3) := sorry
theorem dX7_termsTold_17 : decode cX7_termsTold 17 = .ok (.iload_n 3, 1) := sorry
theorem dX7_termsTold_18 : decode cX7_termsTold 18 = .ok (.iconst 4, 1) := sorry
theorem dX7_termsTold_19 : decode cX7_termsTold 19 = .ok (.if_icmp .ne 44, 3) := sorry
theorem dX7_termsTold_22 : decode cX7_termsTold 22 = .ok (.aload_n 0, 1) := sorry
theorem dX7_termsTold_23 : decode cX7_termsTold 23 = .ok (.aload_n 0, 1) := sorry
theorem dX7_termsTold_24 : decode cX7_termsTold 24 = .ok (.getfield 94, 3) := sorry
theorem dX7_termsTold_27 : decode cX7_termsTold 27 = .ok (.iconst 1, 1) := sorry
theorem dX7_termsTold_28 : decode cX7_termsTold 28 = .ok (.if_icmp .ne 19, 3) := sorry
theorem dX7_termsTold_31 : decode cX7_termsTold 31 = .ok (.aload_n 0, 1) := sorry
theorem dX7_termsTold_32 : decode cX7_termsTold 32 = .ok (.getfield 97, 3) := sorry
theorem dX7_termsTold_35 : decode cX7_termsTold 35 = .ok (.iload_n 1, 1) := sorry
theorem dX7_termsTold_36 : decode cX7_termsTold 36 = .ok (.if_icmp .lt 7, 3) := sorry
theorem dX7_termsTold_39 : decode cX7_termsTold 39 = .ok (.iconst 2, 1) := sorry
theorem dX7_termsTold_40 : decode cX7_termsTold 40 = .ok (.goto 20, 3) := sorry
theorem dX7_termsTold_43 : decode cX7_termsTold 43 = .ok (.iconst 4, 1) := sorry
theorem dX7_termsTold_44 : decode cX7_termsTold 44 = .ok (.goto 16, 3) := sorry
theorem dX7_termsTold_47 : decode cX7_termsTold 47 = .ok (.aload_n 0, 1) := sorry
theorem dX7_termsTold_48 : decode cX7_termsTold 48 = .ok (.getfield 94, 3) := sorry
theorem dX7_termsTold_51 : decode cX7_termsTold 51 = .ok (.iconst 3, 1) := sorry
theorem dX7_termsTold_52 : decode cX7_termsTold 52 = .ok (.if_icmp .ne 7, 3) := sorry
theorem dX7_termsTold_55 : decode cX7_termsTold 55 = .ok (.iconst 4, 1) := sorry
theorem dX7_termsTold_56 : decode cX7_termsTold 56 = .ok (.goto 4, 3) := sorry
theorem dX7_termsTold_59 : decode cX7_termsTold 59 = .ok (.iconst 1, 1) := sorry
def dtX7_termsTold_60_1 : List (Nat × Instr × Nat) := [(60, .invokevirtual 134, 3), (63, .aload_n 0, 1), (64, .getfield 94, 3), (67, .iconst 3, 1), (68, .if_icmp .ne 20, 3), (71, .aload_n 0, 1), (72, .iload_n 2, 1), (73, .iload_n 3, 1), (74, .iadd, 1), (75, .iconst (-1), 1), (76, .aload_n 0, 1), (77, .invokevirtual 212, 3), (80, .iconst 0, 1), (81, .iconst 0, 1), (82, .invokevirtual 215, 3), (85, .goto 73, 3), (88, .aload_n 0, 1), (89, .iload_n 1, 1), (90, .invokevirtual 209, 3), (93, .istore 5, 2), (95, .iconst 0, 1), (96, .istore 6, 2), (98, .aload_n 0, 1), (99, .bipush 43, 2), (101, .invokevirtual 131, 3), (104, .ifCond .ne 12, 3), (107, .aload_n 0, 1), (108, .bipush 45, 2), (110, .invokevirtual 131, 3), (113, .ifCond .eq 32, 3), (116, .aload_n 0, 1), (117, .bipush 43, 2)]
theorem dtX7_termsTold_60_1_ok : dcAll cX7_termsTold dtX7_termsTold_60_1 = true := sorry
theorem dX7_termsTold_60 : decode cX7_termsTold 60 = .ok (.invokevirtual 134, 3) := sorry
theorem dX7_termsTold_63 : decode cX7_termsTold 63 = .ok (.aload_n 0, 1) := sorry
theorem dX7_termsTold_64 : decode cX7_termsTold 64 = .ok (.getfield 94, 3) := sorry
theorem dX7_termsTold_67 : decode cX7_termsTold 67 = .ok (.iconst 3, 1) := sorry
theorem dX7_termsTold_68 : decode cX7_termsTold 68 = .ok (.if_icmp .ne 20, 3) := sorry
theorem dX7_termsTold_71 : decode cX7_termsTold 71 = .ok (.aload_n 0, 1) := sorry
theorem dX7_termsTold_72 : decode cX7_termsTold 72 = .ok (.iload_n 2, 1) := sorry
theorem dX7_termsTold_73 : decode cX7_termsTold 73 = .ok (.iload_n 3, 1) := sorry
theorem dX7_termsTold_74 : decode cX7_termsTold 74 = .ok (.iadd, 1) := sorry
theorem dX7_termsTold_75 : decode cX7_termsTold 75 = .ok (.iconst (-1), 1) := sorry
theorem dX7_termsTold_76 : decode cX7_termsTold 76 = .ok (.aload_n 0, 1) := sorry
theorem dX7_termsTold_77 : decode cX7_termsTold 77 = .ok (.invokevirtual 212, 3) := sorry
theorem dX7_termsTold_80 : decode cX7_termsTold 80 = .ok (.iconst 0, 1) := sorry
theorem dX7_termsTold_81 : decode cX7_termsTold 81 = .ok (.iconst 0, 1) := sorry
theorem dX7_termsTold_82 : decode cX7_termsTold 82 = .ok (.invokevirtual 215, 3) := sorry
theorem dX7_termsTold_85 : decode cX7_termsTold 85 = .ok (.goto 73, 3) := sorry
theorem dX7_termsTold_88 : decode cX7_termsTold 88 = .ok (.aload_n 0, 1) := sorry
theorem dX7_termsTold_89 : decode cX7_termsTold 89 = .ok (.iload_n 1, 1) := sorry
theorem dX7_termsTold_90 : decode cX7_termsTold 90 = .ok (.invokevirtual 209, 3) := sorry
theorem dX7_termsTold_93 : decode cX7_termsTold 93 = .ok (.istore 5, 2) := sorry
theorem dX7_termsTold_95 : decode cX7_termsTold 95 = .ok (.iconst 0, 1) := sorry
theorem dX7_termsTold_96 : decode cX7_termsTold 96 = .ok (.istore 6, 2) := sorry
theorem dX7_termsTold_98 : decode cX7_termsTold 98 = .ok (.aload_n 0, 1) := sorry
theorem dX7_termsTold_99 : decode cX7_termsTold 99 = .ok (.bipush 43, 2) := sorry
theorem dX7_termsTold_101 : decode cX7_termsTold 101 = .ok (.invokevirtual 131, 3) := sorry
theorem dX7_termsTold_104 : decode cX7_termsTold 104 = .ok (.ifCond .ne 12, 3) := sorry
theorem dX7_termsTold_107 : decode cX7_termsTold 107 = .ok (.aload_n 0, 1) := sorry
theorem dX7_termsTold_108 : decode cX7_termsTold 108 = .ok (.bipush 45, 2) := sorry
theorem dX7_termsTold_110 : decode cX7_termsTold 110 = .ok (.invokevirtual 131, 3) := sorry
theorem dX7_termsTold_113 : decode cX7_termsTold 113 = .ok (.ifCond .eq 32, 3) := sorry
theorem dX7_termsTold_116 : decode cX7_termsTold 116 = .ok (.aload_n 0, 1) := sorry
theorem dX7_termsTold_117 : decode cX7_termsTold 117 = .ok (.bipush 43, 2) := sorry
def dtX7_termsTold_119_2 : List (Nat × Instr × Nat) := [(119, .invokevirtual 131, 3), (122, .ifCond .eq 7, 3), (125, .iconst 1, 1), (126, .goto 4, 3), (129, .iconst (-1), 1), (130, .istore 7, 2), (132, .aload_n 0, 1), (133, .invokevirtual 137, 3), (136, .iload 7, 2), (138, .aload_n 0, 1), (139, .invokevirtual 212, 3), (142, .imul, 1), (143, .istore 6, 2), (145, .aload_n 0, 1), (146, .iload_n 2, 1), (147, .iload_n 3, 1), (148, .iadd, 1), (149, .iload 5, 2), (151, .iload 6, 2), (153, .iconst 0, 1), (154, .iconst 0, 1), (155, .invokevirtual 215, 3), (158, .iinc 3 1, 3), (161, .aload_n 0, 1), (162, .bipush 44, 2), (164, .invokevirtual 131, 3), (167, .istore 4, 2), (169, .iload 4, 2), (171, .ifCond .eq (-166), 3), (174, .aload_n 0, 1), (175, .invokevirtual 137, 3), (178, .goto (-173), 3)]
theorem dtX7_termsTold_119_2_ok : dcAll cX7_termsTold dtX7_termsTold_119_2 = true := sorry
theorem dX7_termsTold_119 : decode cX7_termsTold 119 = .ok (.invokevirtual 131, 3) := sorry
theorem dX7_termsTold_122 : decode cX7_termsTold 122 = .ok (.ifCond .eq 7, 3) := sorry
theorem dX7_termsTold_125 : decode cX7_termsTold 125 = .ok (.iconst 1, 1) := sorry
theorem dX7_termsTold_126 : decode cX7_termsTold 126 = .ok (.goto 4, 3) := sorry
theorem dX7_termsTold_129 : decode cX7_termsTold 129 = .ok (.iconst (-1), 1) := sorry
theorem dX7_termsTold_130 : decode cX7_termsTold 130 = .ok (.istore 7, 2) := sorry
theorem dX7_termsTold_132 : decode cX7_termsTold 132 = .ok (.aload_n 0, 1) := sorry
theorem dX7_termsTold_133 : decode cX7_termsTold 133 = .ok (.invokevirtual 137, 3) := sorry
theorem dX7_termsTold_136 : decode cX7_termsTold 136 = .ok (.iload 7, 2) := sorry
theorem dX7_termsTold_138 : decode cX7_termsTold 138 = .ok (.aload_n 0, 1) := sorry
theorem dX7_termsTold_139 : decode cX7_termsTold 139 = .ok (.invokevirtual 212, 3) := sorry
theorem dX7_termsTold_142 : decode cX7_termsTold 142 = .ok (.imul, 1) := sorry
theorem dX7_termsTold_143 : decode cX7_termsTold 143 = .ok (.istore 6, 2) := sorry
theorem dX7_termsTold_145 : decode cX7_termsTold 145 = .ok (.aload_n 0, 1) := sorry
theorem dX7_termsTold_146 : decode cX7_termsTold 146 = .ok (.iload_n 2, 1) := sorry
theorem dX7_termsTold_147 : decode cX7_termsTold 147 = .ok (.iload_n 3, 1) := sorry
theorem dX7_termsTold_148 : decode cX7_termsTold 148 = .ok (.iadd, 1) := sorry
theorem dX7_termsTold_149 : decode cX7_termsTold 149 = .ok (.iload 5, 2) := sorry
theorem dX7_termsTold_151 : decode cX7_termsTold 151 = .ok (.iload 6, 2) := sorry
theorem dX7_termsTold_153 : decode cX7_termsTold 153 = .ok (.iconst 0, 1) := sorry
theorem dX7_termsTold_154 : decode cX7_termsTold 154 = .ok (.iconst 0, 1) := sorry
theorem dX7_termsTold_155 : decode cX7_termsTold 155 = .ok (.invokevirtual 215, 3) := sorry
theorem dX7_termsTold_158 : decode cX7_termsTold 158 = .ok (.iinc 3 1, 3) := sorry
theorem dX7_termsTold_161 : decode cX7_termsTold 161 = .ok (.aload_n 0, 1) := sorry
theorem dX7_termsTold_162 : decode cX7_termsTold 162 = .ok (.bipush 44, 2) := sorry
theorem dX7_termsTold_164 : decode cX7_termsTold 164 = .ok (.invokevirtual 131, 3) := sorry
theorem dX7_termsTold_167 : decode cX7_termsTold 167 = .ok (.istore 4, 2) := sorry
theorem dX7_termsTold_169 : decode cX7_termsTold 169 = .ok (.iload 4, 2) := sorry
theorem dX7_termsTold_171 : decode cX7_termsTold 171 = .ok (.ifCond .eq (-166), 3) := sorry
theorem dX7_termsTold_174 : decode cX7_termsTold 174 = .ok (.aload_n 0, 1) := sorry
theorem dX7_termsTold_175 : decode cX7_termsTold 175 = .ok (.invokevirtual 137, 3) := sorry
theorem dX7_termsTold_178 : decode cX7_termsTold 178 = .ok (.goto (-173), 3) := sorry
def dtX7_termsTold_181_3 : List (Nat × Instr × Nat) := [(181, .iload_n 3, 1), (182, .ireturn, 1)]
theorem dtX7_termsTold_181_3_ok : dcAll cX7_termsTold dtX7_termsTold_181_3 = true := sorry
theorem dX7_termsTold_181 : decode cX7_termsTold 181 = .ok (.iload_n 3, 1) := sorry
theorem dX7_termsTold_182 : decode cX7_termsTold 182 = .ok (.ireturn, 1) := sorry
def dtX7_projectTold_0_0 : List (Nat × Instr × Nat) := [(0, .aload_n 0, 1), (1, .invokevirtual 199, 3), (4, .istore_n 1, 1), (5, .aload_n 0, 1), (6, .aload_n 0, 1), (7, .iload_n 1, 1), (8, .invokevirtual 206, 3), (11, .iconst 0, 1), (12, .invokevirtual 222, 3), (15, .istore_n 2, 1), (16, .aload_n 0, 1), (17, .iconst 2, 1), (18, .iload_n 2, 1), (19, .iload_n 1, 1), (20, .iconst (-1), 1), (21, .iload_n 2, 1), (22, .invokevirtual 219, 3), (25, .return_, 1)]
theorem dtX7_projectTold_0_0_ok : dcAll cX7_projectTold dtX7_projectTold_0_0 = true := sorry
theorem dX7_projectTold_0 : decode cX7_projectTold 0 = .ok (.aload_n 0, 1) := sorry
theorem dX7_projectTold_1 : decode cX7_projectTold 1 = .ok (.invokevirtual 199, 3) := sorry
theorem dX7_projectTold_4 : decode cX7_projectTold 4 = .ok (.istore_n 1, 1) := sorry
theorem dX7_projectTold_5 : decode cX7_projectTold 5 = .ok (.aload_n 0, 1) := sorry
theorem dX7_projectTold_6 : decode cX7_projectTold 6 = .ok (.aload_n 0, 1) := sorry
theorem dX7_projectTold_7 : decode cX7_projectTold 7 = .ok (.iload_n 1, 1) := sorry
theorem dX7_projectTold_8 : decode cX7_projectTold 8 = .ok (.invokevirtual 206, 3) := sorry
theorem dX7_projectTold_11 : decode cX7_projectTold 11 = .ok (.iconst 0, 1) := sorry
theorem dX7_projectTold_12 : decode cX7_projectTold 12 = .ok (.invokevirtual 222, 3) := sorry
theorem dX7_projectTold_15 : decode cX7_projectTold 15 = .ok (.istore_n 2, 1) := sorry
theorem dX7_projectTold_16 : decode cX7_projectTold 16 = .ok (.aload_n 0, 1) := sorry
theorem dX7_projectTold_17 : decode cX7_projectTold 17 = .ok (.iconst 2, 1) := sorry
theorem dX7_projectTold_18 : decode cX7_projectTold 18 = .ok (.iload_n 2, 1) := sorry
theorem dX7_projectTold_19 : decode cX7_projectTold 19 = .ok (.iload_n 1, 1) := sorry
theorem dX7_projectTold_20 : decode cX7_projectTold 20 = .ok (.iconst (-1), 1) := sorry
theorem dX7_projectTold_21 : decode cX7_projectTold 21 = .ok (.iload_n 2, 1) := sorry
theorem dX7_projectTold_22 : decode cX7_projectTold 22 = .ok (.invokevirtual 219, 3) := sorry
theorem dX7_projectTold_25 : decode cX7_projectTold 25 = .ok (.return_, 1) := sorry
def dtX7_joinTold_0_0 : List (Nat × Instr × Nat) := [(0, .aload_n 0, 1), (1, .invokevirtual 199, 3), (4, .istore_n 1, 1), (5, .aload_n 0, 1), (6, .invokevirtual 199, 3), (9, .istore_n 2, 1), (10, .aload_n 0, 1), (11, .ldc 158, 2), (13, .invokevirtual 202, 3), (16, .iconst 0, 1), (17, .istore_n 3, 1), (18, .iconst 0, 1), (19, .istore 4, 2), (21, .iconst 1, 1), (22, .istore 5, 2), (24, .iload 5, 2), (26, .ifCond .eq 134, 3), (29, .aload_n 0, 1), (30, .getfield 81, 3), (33, .ifCond .ne 127, 3), (36, .iload_n 3, 1), (37, .iconst 4, 1), (38, .if_icmp .ne 44, 3), (41, .aload_n 0, 1), (42, .aload_n 0, 1), (43, .getfield 94, 3), (46, .iconst 1, 1), (47, .if_icmp .ne 19, 3), (50, .aload_n 0, 1), (51, .getfield 97, 3), (54, .aload_n 0, 1), (55, .iload_n 1, 1)]
theorem dtX7_joinTold_0_0_ok : dcAll cX7_joinTold dtX7_joinTold_0_0 = true := sorry
theorem dX7_joinTold_0 : decode cX7_joinTold 0 = .ok (.aload_n 0, 1) := sorry
theorem dX7_joinTold_1 : decode cX7_joinTold 1 = .ok (.invokevirtual 199, 3) := sorry
theorem dX7_joinTold_4 : decode cX7_joinTold 4 = .ok (.istore_n 1, 1) := sorry
theorem dX7_joinTold_5 : decode cX7_joinTold 5 = .ok (.aload_n 0, 1) := sorry
theorem dX7_joinTold_6 : decode cX7_joinTold 6 = .ok (.invokevirtual 199, 3) := sorry
theorem dX7_joinTold_9 : decode cX7_joinTold 9 = .ok (.istore_n 2, 1) := sorry
theorem dX7_joinTold_10 : decode cX7_joinTold 10 = .ok (.aload_n 0, 1) := sorry
theorem dX7_joinTold_11 : decode cX7_joinTold 11 = .ok (.ldc 158, 2) := sorry
theorem dX7_joinTold_13 : decode cX7_joinTold 13 = .ok (.invokevirtual 202, 3) := sorry
theorem dX7_joinTold_16 : decode cX7_joinTold 16 = .ok (.iconst 0, 1) := sorry
theorem dX7_joinTold_17 : decode cX7_joinTold 17 = .ok (.istore_n 3, 1) := sorry
theorem dX7_joinTold_18 : decode cX7_joinTold 18 = .ok (.iconst 0, 1) := sorry
theorem dX7_joinTold_19 : decode cX7_joinTold 19 = .ok (.istore 4, 2) := sorry
theorem dX7_joinTold_21 : decode cX7_joinTold 21 = .ok (.iconst 1, 1) := sorry
theorem dX7_joinTold_22 : decode cX7_joinTold 22 = .ok (.istore 5, 2) := sorry
theorem dX7_joinTold_24 : decode cX7_joinTold 24 = .ok (.iload 5, 2) := sorry
theorem dX7_joinTold_26 : decode cX7_joinTold 26 = .ok (.ifCond .eq 134, 3) := sorry
theorem dX7_joinTold_29 : decode cX7_joinTold 29 = .ok (.aload_n 0, 1) := sorry
theorem dX7_joinTold_30 : decode cX7_joinTold 30 = .ok (.getfield 81, 3) := sorry
theorem dX7_joinTold_33 : decode cX7_joinTold 33 = .ok (.ifCond .ne 127, 3) := sorry
theorem dX7_joinTold_36 : decode cX7_joinTold 36 = .ok (.iload_n 3, 1) := sorry
theorem dX7_joinTold_37 : decode cX7_joinTold 37 = .ok (.iconst 4, 1) := sorry
theorem dX7_joinTold_38 : decode cX7_joinTold 38 = .ok (.if_icmp .ne 44, 3) := sorry
theorem dX7_joinTold_41 : decode cX7_joinTold 41 = .ok (.aload_n 0, 1) := sorry
theorem dX7_joinTold_42 : decode cX7_joinTold 42 = .ok (.aload_n 0, 1) := sorry
theorem dX7_joinTold_43 : decode cX7_joinTold 43 = .ok (.getfield 94, 3) := sorry
theorem dX7_joinTold_46 : decode cX7_joinTold 46 = .ok (.iconst 1, 1) := sorry
theorem dX7_joinTold_47 : decode cX7_joinTold 47 = .ok (.if_icmp .ne 19, 3) := sorry
theorem dX7_joinTold_50 : decode cX7_joinTold 50 = .ok (.aload_n 0, 1) := sorry
theorem dX7_joinTold_51 : decode cX7_joinTold 51 = .ok (.getfield 97, 3) := sorry
theorem dX7_joinTold_54 : decode cX7_joinTold 54 = .ok (.aload_n 0, 1) := sorry
theorem dX7_joinTold_55 : decode cX7_joinTold 55 = .ok (.iload_n 1, 1) := sorry
def dtX7_joinTold_56_1 : List (Nat × Instr × Nat) := [(56, .invokevirtual 206, 3), (59, .if_icmp .lt 7, 3), (62, .iconst 2, 1), (63, .goto 16, 3), (66, .aload_n 0, 1), (67, .getfield 94, 3), (70, .iconst 1, 1), (71, .if_icmp .ne 7, 3), (74, .iconst 4, 1), (75, .goto 4, 3), (78, .iconst 1, 1), (79, .invokevirtual 134, 3), (82, .aload_n 0, 1), (83, .aload_n 0, 1), (84, .iload_n 1, 1), (85, .invokevirtual 206, 3), (88, .invokevirtual 209, 3), (91, .istore 6, 2), (93, .aload_n 0, 1), (94, .bipush 61, 2), (96, .invokevirtual 226, 3), (99, .aload_n 0, 1), (100, .aload_n 0, 1), (101, .iload_n 2, 1), (102, .invokevirtual 206, 3), (105, .invokevirtual 209, 3), (108, .istore 7, 2), (110, .aload_n 0, 1), (111, .iload_n 3, 1), (112, .iload 6, 2), (114, .iload 7, 2), (116, .iconst 0, 1)]
theorem dtX7_joinTold_56_1_ok : dcAll cX7_joinTold dtX7_joinTold_56_1 = true := sorry
theorem dX7_joinTold_56 : decode cX7_joinTold 56 = .ok (.invokevirtual 206, 3) := sorry
theorem dX7_joinTold_59 : decode cX7_joinTold 59 = .ok (.if_icmp .lt 7, 3) := sorry
theorem dX7_joinTold_62 : decode cX7_joinTold 62 = .ok (.iconst 2, 1) := sorry
theorem dX7_joinTold_63 : decode cX7_joinTold 63 = .ok (.goto 16, 3) := sorry
theorem dX7_joinTold_66 : decode cX7_joinTold 66 = .ok (.aload_n 0, 1) := sorry
theorem dX7_joinTold_67 : decode cX7_joinTold 67 = .ok (.getfield 94, 3) := sorry
theorem dX7_joinTold_70 : decode cX7_joinTold 70 = .ok (.iconst 1, 1) := sorry
theorem dX7_joinTold_71 : decode cX7_joinTold 71 = .ok (.if_icmp .ne 7, 3) := sorry
theorem dX7_joinTold_74 : decode cX7_joinTold 74 = .ok (.iconst 4, 1) := sorry
theorem dX7_joinTold_75 : decode cX7_joinTold 75 = .ok (.goto 4, 3) := sorry
theorem dX7_joinTold_78 : decode cX7_joinTold 78 = .ok (.iconst 1, 1) := sorry
theorem dX7_joinTold_79 : decode cX7_joinTold 79 = .ok (.invokevirtual 134, 3) := sorry
theorem dX7_joinTold_82 : decode cX7_joinTold 82 = .ok (.aload_n 0, 1) := sorry
theorem dX7_joinTold_83 : decode cX7_joinTold 83 = .ok (.aload_n 0, 1) := sorry
theorem dX7_joinTold_84 : decode cX7_joinTold 84 = .ok (.iload_n 1, 1) := sorry
theorem dX7_joinTold_85 : decode cX7_joinTold 85 = .ok (.invokevirtual 206, 3) := sorry
theorem dX7_joinTold_88 : decode cX7_joinTold 88 = .ok (.invokevirtual 209, 3) := sorry
theorem dX7_joinTold_91 : decode cX7_joinTold 91 = .ok (.istore 6, 2) := sorry
theorem dX7_joinTold_93 : decode cX7_joinTold 93 = .ok (.aload_n 0, 1) := sorry
theorem dX7_joinTold_94 : decode cX7_joinTold 94 = .ok (.bipush 61, 2) := sorry
theorem dX7_joinTold_96 : decode cX7_joinTold 96 = .ok (.invokevirtual 226, 3) := sorry
theorem dX7_joinTold_99 : decode cX7_joinTold 99 = .ok (.aload_n 0, 1) := sorry
theorem dX7_joinTold_100 : decode cX7_joinTold 100 = .ok (.aload_n 0, 1) := sorry
theorem dX7_joinTold_101 : decode cX7_joinTold 101 = .ok (.iload_n 2, 1) := sorry
theorem dX7_joinTold_102 : decode cX7_joinTold 102 = .ok (.invokevirtual 206, 3) := sorry
theorem dX7_joinTold_105 : decode cX7_joinTold 105 = .ok (.invokevirtual 209, 3) := sorry
theorem dX7_joinTold_108 : decode cX7_joinTold 108 = .ok (.istore 7, 2) := sorry
theorem dX7_joinTold_110 : decode cX7_joinTold 110 = .ok (.aload_n 0, 1) := sorry
theorem dX7_joinTold_111 : decode cX7_joinTold 111 = .ok (.iload_n 3, 1) := sorry
theorem dX7_joinTold_112 : decode cX7_joinTold 112 = .ok (.iload 6, 2) := sorry
theorem dX7_joinTold_114 : decode cX7_joinTold 114 = .ok (.iload 7, 2) := sorry
theorem dX7_joinTold_116 : decode cX7_joinTold 116 = .ok (.iconst 0, 1) := sorry
def dtX7_joinTold_117_2 : List (Nat × Instr × Nat) := [(117, .iconst 0, 1), (118, .invokevirtual 215, 3), (121, .aload_n 0, 1), (122, .getfield 81, 3), (125, .ifCond .ne 12, 3), (128, .iload 4, 2), (130, .iconst 1, 1), (131, .iload 7, 2), (133, .ishl, 1), (134, .ior, 1), (135, .istore 4, 2), (137, .iinc 3 1, 3), (140, .aload_n 0, 1), (141, .bipush 44, 2), (143, .invokevirtual 131, 3), (146, .istore 5, 2), (148, .iload 5, 2), (150, .ifCond .eq 7, 3), (153, .aload_n 0, 1), (154, .invokevirtual 137, 3), (157, .goto (-133), 3), (160, .aload_n 0, 1), (161, .iload_n 1, 1), (162, .invokevirtual 206, 3), (165, .istore 6, 2), (167, .iconst 0, 1), (168, .istore 7, 2), (170, .iload 7, 2), (172, .aload_n 0, 1), (173, .iload_n 2, 1), (174, .invokevirtual 206, 3), (177, .if_icmp .ge 22, 3)]
theorem dtX7_joinTold_117_2_ok : dcAll cX7_joinTold dtX7_joinTold_117_2 = true := sorry
theorem dX7_joinTold_117 : decode cX7_joinTold 117 = .ok (.iconst 0, 1) := sorry
theorem dX7_joinTold_118 : decode cX7_joinTold 118 = .ok (.invokevirtual 215, 3) := sorry
theorem dX7_joinTold_121 : decode cX7_joinTold 121 = .ok (.aload_n 0, 1) := sorry
theorem dX7_joinTold_122 : decode cX7_joinTold 122 = .ok (.getfield 81, 3) := sorry
theorem dX7_joinTold_125 : decode cX7_joinTold 125 = .ok (.ifCond .ne 12, 3) := sorry
theorem dX7_joinTold_128 : decode cX7_joinTold 128 = .ok (.iload 4, 2) := sorry
theorem dX7_joinTold_130 : decode cX7_joinTold 130 = .ok (.iconst 1, 1) := sorry
theorem dX7_joinTold_131 : decode cX7_joinTold 131 = .ok (.iload 7, 2) := sorry
theorem dX7_joinTold_133 : decode cX7_joinTold 133 = .ok (.ishl, 1) := sorry
theorem dX7_joinTold_134 : decode cX7_joinTold 134 = .ok (.ior, 1) := sorry
theorem dX7_joinTold_135 : decode cX7_joinTold 135 = .ok (.istore 4, 2) := sorry
theorem dX7_joinTold_137 : decode cX7_joinTold 137 = .ok (.iinc 3 1, 3) := sorry
theorem dX7_joinTold_140 : decode cX7_joinTold 140 = .ok (.aload_n 0, 1) := sorry
theorem dX7_joinTold_141 : decode cX7_joinTold 141 = .ok (.bipush 44, 2) := sorry
theorem dX7_joinTold_143 : decode cX7_joinTold 143 = .ok (.invokevirtual 131, 3) := sorry
theorem dX7_joinTold_146 : decode cX7_joinTold 146 = .ok (.istore 5, 2) := sorry
theorem dX7_joinTold_148 : decode cX7_joinTold 148 = .ok (.iload 5, 2) := sorry
theorem dX7_joinTold_150 : decode cX7_joinTold 150 = .ok (.ifCond .eq 7, 3) := sorry
theorem dX7_joinTold_153 : decode cX7_joinTold 153 = .ok (.aload_n 0, 1) := sorry
theorem dX7_joinTold_154 : decode cX7_joinTold 154 = .ok (.invokevirtual 137, 3) := sorry
theorem dX7_joinTold_157 : decode cX7_joinTold 157 = .ok (.goto (-133), 3) := sorry
theorem dX7_joinTold_160 : decode cX7_joinTold 160 = .ok (.aload_n 0, 1) := sorry
theorem dX7_joinTold_161 : decode cX7_joinTold 161 = .ok (.iload_n 1, 1) := sorry
theorem dX7_joinTold_162 : decode cX7_joinTold 162 = .ok (.invokevirtual 206, 3) := sorry
theorem dX7_joinTold_165 : decode cX7_joinTold 165 = .ok (.istore 6, 2) := sorry
theorem dX7_joinTold_167 : decode cX7_joinTold 167 = .ok (.iconst 0, 1) := sorry
theorem dX7_joinTold_168 : decode cX7_joinTold 168 = .ok (.istore 7, 2) := sorry
theorem dX7_joinTold_170 : decode cX7_joinTold 170 = .ok (.iload 7, 2) := sorry
theorem dX7_joinTold_172 : decode cX7_joinTold 172 = .ok (.aload_n 0, 1) := sorry
theorem dX7_joinTold_173 : decode cX7_joinTold 173 = .ok (.iload_n 2, 1) := sorry
theorem dX7_joinTold_174 : decode cX7_joinTold 174 = .ok (.invokevirtual 206, 3) := sorry
theorem dX7_joinTold_177 : decode cX7_joinTold 177 = .ok (.if_icmp .ge 22, 3) := sorry
def dtX7_joinTold_180_3 : List (Nat × Instr × Nat) := [(180, .iload 4, 2), (182, .iload 7, 2), (184, .ishr, 1), (185, .iconst 1, 1), (186, .iand, 1), (187, .ifCond .ne 6, 3), (190, .iinc 6 1, 3), (193, .iinc 7 1, 3), (196, .goto (-26), 3), (199, .aload_n 0, 1), (200, .bipush 59, 2), (202, .invokevirtual 131, 3), (205, .ifCond .eq 14, 3), (208, .iload 6, 2), (210, .iconst 4, 1), (211, .if_icmp .le 8, 3), (214, .aload_n 0, 1), (215, .iconst 5, 1), (216, .invokevirtual 134, 3), (219, .aload_n 0, 1), (220, .iconst 3, 1), (221, .iload 6, 2), (223, .iload_n 1, 1), (224, .iload_n 2, 1), (225, .iload_n 3, 1), (226, .invokevirtual 219, 3), (229, .aload_n 0, 1), (230, .iconst 5, 1), (231, .iload 4, 2), (233, .invokevirtual 195, 3), (236, .return_, 1)]
theorem dtX7_joinTold_180_3_ok : dcAll cX7_joinTold dtX7_joinTold_180_3 = true := sorry
theorem dX7_joinTold_180 : decode cX7_joinTold 180 = .ok (.iload 4, 2) := sorry
theorem dX7_joinTold_182 : decode cX7_joinTold 182 = .ok (.iload 7, 2) := sorry
theorem dX7_joinTold_184 : decode cX7_joinTold 184 = .ok (.ishr, 1) := sorry
theorem dX7_joinTold_185 : decode cX7_joinTold 185 = .ok (.iconst 1, 1) := sorry
theorem dX7_joinTold_186 : decode cX7_joinTold 186 = .ok (.iand, 1) := sorry
theorem dX7_joinTold_187 : decode cX7_joinTold 187 = .ok (.ifCond .ne 6, 3) := sorry
theorem dX7_joinTold_190 : decode cX7_joinTold 190 = .ok (.iinc 6 1, 3) := sorry
theorem dX7_joinTold_193 : decode cX7_joinTold 193 = .ok (.iinc 7 1, 3) := sorry
theorem dX7_joinTold_196 : decode cX7_joinTold 196 = .ok (.goto (-26), 3) := sorry
theorem dX7_joinTold_199 : decode cX7_joinTold 199 = .ok (.aload_n 0, 1) := sorry
theorem dX7_joinTold_200 : decode cX7_joinTold 200 = .ok (.bipush 59, 2) := sorry
theorem dX7_joinTold_202 : decode cX7_joinTold 202 = .ok (.invokevirtual 131, 3) := sorry
theorem dX7_joinTold_205 : decode cX7_joinTold 205 = .ok (.ifCond .eq 14, 3) := sorry
theorem dX7_joinTold_208 : decode cX7_joinTold 208 = .ok (.iload 6, 2) := sorry
theorem dX7_joinTold_210 : decode cX7_joinTold 210 = .ok (.iconst 4, 1) := sorry
theorem dX7_joinTold_211 : decode cX7_joinTold 211 = .ok (.if_icmp .le 8, 3) := sorry
theorem dX7_joinTold_214 : decode cX7_joinTold 214 = .ok (.aload_n 0, 1) := sorry
theorem dX7_joinTold_215 : decode cX7_joinTold 215 = .ok (.iconst 5, 1) := sorry
theorem dX7_joinTold_216 : decode cX7_joinTold 216 = .ok (.invokevirtual 134, 3) := sorry
theorem dX7_joinTold_219 : decode cX7_joinTold 219 = .ok (.aload_n 0, 1) := sorry
theorem dX7_joinTold_220 : decode cX7_joinTold 220 = .ok (.iconst 3, 1) := sorry
theorem dX7_joinTold_221 : decode cX7_joinTold 221 = .ok (.iload 6, 2) := sorry
theorem dX7_joinTold_223 : decode cX7_joinTold 223 = .ok (.iload_n 1, 1) := sorry
theorem dX7_joinTold_224 : decode cX7_joinTold 224 = .ok (.iload_n 2, 1) := sorry
theorem dX7_joinTold_225 : decode cX7_joinTold 225 = .ok (.iload_n 3, 1) := sorry
theorem dX7_joinTold_226 : decode cX7_joinTold 226 = .ok (.invokevirtual 219, 3) := sorry
theorem dX7_joinTold_229 : decode cX7_joinTold 229 = .ok (.aload_n 0, 1) := sorry
theorem dX7_joinTold_230 : decode cX7_joinTold 230 = .ok (.iconst 5, 1) := sorry
theorem dX7_joinTold_231 : decode cX7_joinTold 231 = .ok (.iload 4, 2) := sorry
theorem dX7_joinTold_233 : decode cX7_joinTold 233 = .ok (.invokevirtual 195, 3) := sorry
theorem dX7_joinTold_236 : decode cX7_joinTold 236 = .ok (.return_, 1) := sorry
def dtX7_bothTold_0_0 : List (Nat × Instr × Nat) := [(0, .aload_n 0, 1), (1, .invokevirtual 199, 3), (4, .istore_n 2, 1), (5, .aload_n 0, 1), (6, .getfield 81, 3), (9, .ifCond .ne 54, 3), (12, .aload_n 0, 1), (13, .getfield 94, 3), (16, .iconst 2, 1), (17, .if_icmp .ne 46, 3), (20, .aload_n 0, 1), (21, .invokevirtual 187, 3), (24, .ifCond .ne 39, 3), (27, .aload_n 0, 1), (28, .aload_n 0, 1), (29, .getfield 111, 3), (32, .invokevirtual 191, 3), (35, .ifCond .lt 28, 3), (38, .aload_n 0, 1), (39, .aload_n 0, 1), (40, .aload_n 0, 1), (41, .getfield 111, 3), (44, .invokevirtual 191, 3), (47, .invokevirtual 206, 3), (50, .aload_n 0, 1), (51, .iload_n 2, 1), (52, .invokevirtual 206, 3), (55, .if_icmp .eq 8, 3), (58, .aload_n 0, 1), (59, .iconst 5, 1), (60, .invokevirtual 134, 3), (63, .aload_n 0, 1)]
theorem dtX7_bothTold_0_0_ok : dcAll cX7_bothTold dtX7_bothTold_0_0 = true := sorry
theorem dX7_bothTold_0 : decode cX7_bothTold 0 = .ok (.aload_n 0, 1) := sorry
theorem dX7_bothTold_1 : decode cX7_bothTold 1 = .ok (.invokevirtual 199, 3) := sorry
theorem dX7_bothTold_4 : decode cX7_bothTold 4 = .ok (.istore_n 2, 1) := sorry
theorem dX7_bothTold_5 : decode cX7_bothTold 5 = .ok (.aload_n 0, 1) := sorry
theorem dX7_bothTold_6 : decode cX7_bothTold 6 = .ok (.getfield 81, 3) := sorry
theorem dX7_bothTold_9 : decode cX7_bothTold 9 = .ok (.ifCond .ne 54, 3) := sorry
theorem dX7_bothTold_12 : decode cX7_bothTold 12 = .ok (.aload_n 0, 1) := sorry
theorem dX7_bothTold_13 : decode cX7_bothTold 13 = .ok (.getfield 94, 3) := sorry
theorem dX7_bothTold_16 : decode cX7_bothTold 16 = .ok (.iconst 2, 1) := sorry
theorem dX7_bothTold_17 : decode cX7_bothTold 17 = .ok (.if_icmp .ne 46, 3) := sorry
theorem dX7_bothTold_20 : decode cX7_bothTold 20 = .ok (.aload_n 0, 1) := sorry
theorem dX7_bothTold_21 : decode cX7_bothTold 21 = .ok (.invokevirtual 187, 3) := sorry
theorem dX7_bothTold_24 : decode cX7_bothTold 24 = .ok (.ifCond .ne 39, 3) := sorry
theorem dX7_bothTold_27 : decode cX7_bothTold 27 = .ok (.aload_n 0, 1) := sorry
theorem dX7_bothTold_28 : decode cX7_bothTold 28 = .ok (.aload_n 0, 1) := sorry
theorem dX7_bothTold_29 : decode cX7_bothTold 29 = .ok (.getfield 111, 3) := sorry
theorem dX7_bothTold_32 : decode cX7_bothTold 32 = .ok (.invokevirtual 191, 3) := sorry
theorem dX7_bothTold_35 : decode cX7_bothTold 35 = .ok (.ifCond .lt 28, 3) := sorry
theorem dX7_bothTold_38 : decode cX7_bothTold 38 = .ok (.aload_n 0, 1) := sorry
theorem dX7_bothTold_39 : decode cX7_bothTold 39 = .ok (.aload_n 0, 1) := sorry
theorem dX7_bothTold_40 : decode cX7_bothTold 40 = .ok (.aload_n 0, 1) := sorry
theorem dX7_bothTold_41 : decode cX7_bothTold 41 = .ok (.getfield 111, 3) := sorry
theorem dX7_bothTold_44 : decode cX7_bothTold 44 = .ok (.invokevirtual 191, 3) := sorry
theorem dX7_bothTold_47 : decode cX7_bothTold 47 = .ok (.invokevirtual 206, 3) := sorry
theorem dX7_bothTold_50 : decode cX7_bothTold 50 = .ok (.aload_n 0, 1) := sorry
theorem dX7_bothTold_51 : decode cX7_bothTold 51 = .ok (.iload_n 2, 1) := sorry
theorem dX7_bothTold_52 : decode cX7_bothTold 52 = .ok (.invokevirtual 206, 3) := sorry
theorem dX7_bothTold_55 : decode cX7_bothTold 55 = .ok (.if_icmp .eq 8, 3) := sorry
theorem dX7_bothTold_58 : decode cX7_bothTold 58 = .ok (.aload_n 0, 1) := sorry
theorem dX7_bothTold_59 : decode cX7_bothTold 59 = .ok (.iconst 5, 1) := sorry
theorem dX7_bothTold_60 : decode cX7_bothTold 60 = .ok (.invokevirtual 134, 3) := sorry
theorem dX7_bothTold_63 : decode cX7_bothTold 63 = .ok (.aload_n 0, 1) := sorry
def dtX7_bothTold_64_1 : List (Nat × Instr × Nat) := [(64, .invokevirtual 199, 3), (67, .istore_n 3, 1), (68, .aload_n 0, 1), (69, .iload_n 1, 1), (70, .aload_n 0, 1), (71, .iload_n 2, 1), (72, .invokevirtual 206, 3), (75, .iload_n 2, 1), (76, .iload_n 3, 1), (77, .iconst 0, 1), (78, .invokevirtual 219, 3), (81, .return_, 1)]
theorem dtX7_bothTold_64_1_ok : dcAll cX7_bothTold dtX7_bothTold_64_1 = true := sorry
theorem dX7_bothTold_64 : decode cX7_bothTold 64 = .ok (.invokevirtual 199, 3) := sorry
theorem dX7_bothTold_67 : decode cX7_bothTold 67 = .ok (.istore_n 3, 1) := sorry
theorem dX7_bothTold_68 : decode cX7_bothTold 68 = .ok (.aload_n 0, 1) := sorry
theorem dX7_bothTold_69 : decode cX7_bothTold 69 = .ok (.iload_n 1, 1) := sorry
theorem dX7_bothTold_70 : decode cX7_bothTold 70 = .ok (.aload_n 0, 1) := sorry
theorem dX7_bothTold_71 : decode cX7_bothTold 71 = .ok (.iload_n 2, 1) := sorry
theorem dX7_bothTold_72 : decode cX7_bothTold 72 = .ok (.invokevirtual 206, 3) := sorry
theorem dX7_bothTold_75 : decode cX7_bothTold 75 = .ok (.iload_n 2, 1) := sorry
theorem dX7_bothTold_76 : decode cX7_bothTold 76 = .ok (.iload_n 3, 1) := sorry
theorem dX7_bothTold_77 : decode cX7_bothTold 77 = .ok (.iconst 0, 1) := sorry
theorem dX7_bothTold_78 : decode cX7_bothTold 78 = .ok (.invokevirtual 219, 3) := sorry
theorem dX7_bothTold_81 : decode cX7_bothTold 81 = .ok (.return_, 1) := sorry
def dtX7_groupTold_0_0 : List (Nat × Instr × Nat) := [(0, .aload_n 0, 1), (1, .invokevirtual 199, 3), (4, .istore_n 1, 1), (5, .aload_n 0, 1), (6, .ldc 168, 2), (8, .invokevirtual 202, 3), (11, .iconst 0, 1), (12, .istore_n 2, 1), (13, .iconst 0, 1), (14, .istore_n 3, 1), (15, .iconst 1, 1), (16, .istore 4, 2), (18, .iload 4, 2), (20, .ifCond .eq 136, 3), (23, .aload_n 0, 1), (24, .getfield 81, 3), (27, .ifCond .ne 129, 3), (30, .aload_n 0, 1), (31, .getfield 94, 3), (34, .iconst 1, 1), (35, .if_icmp .ne 7, 3), (38, .iconst 1, 1), (39, .goto 4, 3), (42, .iconst 0, 1), (43, .istore 5, 2), (45, .iload 5, 2), (47, .ifCond .eq 32, 3), (50, .aload_n 0, 1), (51, .getfield 97, 3), (54, .aload_n 0, 1), (55, .iload_n 1, 1), (56, .invokevirtual 206, 3)]
theorem dtX7_groupTold_0_0_ok : dcAll cX7_groupTold dtX7_groupTold_0_0 = true := sorry
theorem dX7_groupTold_0 : decode cX7_groupTold 0 = .ok (.aload_n 0, 1) := sorry
theorem dX7_groupTold_1 : decode cX7_groupTold 1 = .ok (.invokevirtual 199, 3) := sorry
theorem dX7_groupTold_4 : decode cX7_groupTold 4 = .ok (.istore_n 1, 1) := sorry
theorem dX7_groupTold_5 : decode cX7_groupTold 5 = .ok (.aload_n 0, 1) := sorry
theorem dX7_groupTold_6 : decode cX7_groupTold 6 = .ok (.ldc 168, 2) := sorry
theorem dX7_groupTold_8 : decode cX7_groupTold 8 = .ok (.invokevirtual 202, 3) := sorry
theorem dX7_groupTold_11 : decode cX7_groupTold 11 = .ok (.iconst 0, 1) := sorry
theorem dX7_groupTold_12 : decode cX7_groupTold 12 = .ok (.istore_n 2, 1) := sorry
theorem dX7_groupTold_13 : decode cX7_groupTold 13 = .ok (.iconst 0, 1) := sorry
theorem dX7_groupTold_14 : decode cX7_groupTold 14 = .ok (.istore_n 3, 1) := sorry
theorem dX7_groupTold_15 : decode cX7_groupTold 15 = .ok (.iconst 1, 1) := sorry
theorem dX7_groupTold_16 : decode cX7_groupTold 16 = .ok (.istore 4, 2) := sorry
theorem dX7_groupTold_18 : decode cX7_groupTold 18 = .ok (.iload 4, 2) := sorry
theorem dX7_groupTold_20 : decode cX7_groupTold 20 = .ok (.ifCond .eq 136, 3) := sorry
theorem dX7_groupTold_23 : decode cX7_groupTold 23 = .ok (.aload_n 0, 1) := sorry
theorem dX7_groupTold_24 : decode cX7_groupTold 24 = .ok (.getfield 81, 3) := sorry
theorem dX7_groupTold_27 : decode cX7_groupTold 27 = .ok (.ifCond .ne 129, 3) := sorry
theorem dX7_groupTold_30 : decode cX7_groupTold 30 = .ok (.aload_n 0, 1) := sorry
theorem dX7_groupTold_31 : decode cX7_groupTold 31 = .ok (.getfield 94, 3) := sorry
theorem dX7_groupTold_34 : decode cX7_groupTold 34 = .ok (.iconst 1, 1) := sorry
theorem dX7_groupTold_35 : decode cX7_groupTold 35 = .ok (.if_icmp .ne 7, 3) := sorry
theorem dX7_groupTold_38 : decode cX7_groupTold 38 = .ok (.iconst 1, 1) := sorry
theorem dX7_groupTold_39 : decode cX7_groupTold 39 = .ok (.goto 4, 3) := sorry
theorem dX7_groupTold_42 : decode cX7_groupTold 42 = .ok (.iconst 0, 1) := sorry
theorem dX7_groupTold_43 : decode cX7_groupTold 43 = .ok (.istore 5, 2) := sorry
theorem dX7_groupTold_45 : decode cX7_groupTold 45 = .ok (.iload 5, 2) := sorry
theorem dX7_groupTold_47 : decode cX7_groupTold 47 = .ok (.ifCond .eq 32, 3) := sorry
theorem dX7_groupTold_50 : decode cX7_groupTold 50 = .ok (.aload_n 0, 1) := sorry
theorem dX7_groupTold_51 : decode cX7_groupTold 51 = .ok (.getfield 97, 3) := sorry
theorem dX7_groupTold_54 : decode cX7_groupTold 54 = .ok (.aload_n 0, 1) := sorry
theorem dX7_groupTold_55 : decode cX7_groupTold 55 = .ok (.iload_n 1, 1) := sorry
theorem dX7_groupTold_56 : decode cX7_groupTold 56 = .ok (.invokevirtual 206, 3) := sorry
def dtX7_groupTold_59_1 : List (Nat × Instr × Nat) := [(59, .if_icmp .ge 15, 3), (62, .iload_n 3, 1), (63, .aload_n 0, 1), (64, .getfield 97, 3), (67, .ishr, 1), (68, .iconst 1, 1), (69, .iand, 1), (70, .iconst 1, 1), (71, .if_icmp .ne 8, 3), (74, .aload_n 0, 1), (75, .iconst 2, 1), (76, .invokevirtual 134, 3), (79, .iload_n 2, 1), (80, .iconst 3, 1), (81, .if_icmp .ne 17, 3), (84, .aload_n 0, 1), (85, .iload 5, 2), (87, .ifCond .eq 7, 3), (90, .iconst 4, 1), (91, .goto 4, 3), (94, .iconst 1, 1), (95, .invokevirtual 134, 3), (98, .aload_n 0, 1), (99, .aload_n 0, 1), (100, .iload_n 1, 1), (101, .invokevirtual 206, 3), (104, .invokevirtual 209, 3), (107, .istore 6, 2), (109, .aload_n 0, 1), (110, .getfield 81, 3), (113, .ifCond .ne 10, 3), (116, .iload_n 3, 1)]
theorem dtX7_groupTold_59_1_ok : dcAll cX7_groupTold dtX7_groupTold_59_1 = true := sorry
theorem dX7_groupTold_59 : decode cX7_groupTold 59 = .ok (.if_icmp .ge 15, 3) := sorry
theorem dX7_groupTold_62 : decode cX7_groupTold 62 = .ok (.iload_n 3, 1) := sorry
theorem dX7_groupTold_63 : decode cX7_groupTold 63 = .ok (.aload_n 0, 1) := sorry
theorem dX7_groupTold_64 : decode cX7_groupTold 64 = .ok (.getfield 97, 3) := sorry
theorem dX7_groupTold_67 : decode cX7_groupTold 67 = .ok (.ishr, 1) := sorry
theorem dX7_groupTold_68 : decode cX7_groupTold 68 = .ok (.iconst 1, 1) := sorry
theorem dX7_groupTold_69 : decode cX7_groupTold 69 = .ok (.iand, 1) := sorry
theorem dX7_groupTold_70 : decode cX7_groupTold 70 = .ok (.iconst 1, 1) := sorry
theorem dX7_groupTold_71 : decode cX7_groupTold 71 = .ok (.if_icmp .ne 8, 3) := sorry
theorem dX7_groupTold_74 : decode cX7_groupTold 74 = .ok (.aload_n 0, 1) := sorry
theorem dX7_groupTold_75 : decode cX7_groupTold 75 = .ok (.iconst 2, 1) := sorry
theorem dX7_groupTold_76 : decode cX7_groupTold 76 = .ok (.invokevirtual 134, 3) := sorry
theorem dX7_groupTold_79 : decode cX7_groupTold 79 = .ok (.iload_n 2, 1) := sorry
theorem dX7_groupTold_80 : decode cX7_groupTold 80 = .ok (.iconst 3, 1) := sorry
theorem dX7_groupTold_81 : decode cX7_groupTold 81 = .ok (.if_icmp .ne 17, 3) := sorry
theorem dX7_groupTold_84 : decode cX7_groupTold 84 = .ok (.aload_n 0, 1) := sorry
theorem dX7_groupTold_85 : decode cX7_groupTold 85 = .ok (.iload 5, 2) := sorry
theorem dX7_groupTold_87 : decode cX7_groupTold 87 = .ok (.ifCond .eq 7, 3) := sorry
theorem dX7_groupTold_90 : decode cX7_groupTold 90 = .ok (.iconst 4, 1) := sorry
theorem dX7_groupTold_91 : decode cX7_groupTold 91 = .ok (.goto 4, 3) := sorry
theorem dX7_groupTold_94 : decode cX7_groupTold 94 = .ok (.iconst 1, 1) := sorry
theorem dX7_groupTold_95 : decode cX7_groupTold 95 = .ok (.invokevirtual 134, 3) := sorry
theorem dX7_groupTold_98 : decode cX7_groupTold 98 = .ok (.aload_n 0, 1) := sorry
theorem dX7_groupTold_99 : decode cX7_groupTold 99 = .ok (.aload_n 0, 1) := sorry
theorem dX7_groupTold_100 : decode cX7_groupTold 100 = .ok (.iload_n 1, 1) := sorry
theorem dX7_groupTold_101 : decode cX7_groupTold 101 = .ok (.invokevirtual 206, 3) := sorry
theorem dX7_groupTold_104 : decode cX7_groupTold 104 = .ok (.invokevirtual 209, 3) := sorry
theorem dX7_groupTold_107 : decode cX7_groupTold 107 = .ok (.istore 6, 2) := sorry
theorem dX7_groupTold_109 : decode cX7_groupTold 109 = .ok (.aload_n 0, 1) := sorry
theorem dX7_groupTold_110 : decode cX7_groupTold 110 = .ok (.getfield 81, 3) := sorry
theorem dX7_groupTold_113 : decode cX7_groupTold 113 = .ok (.ifCond .ne 10, 3) := sorry
theorem dX7_groupTold_116 : decode cX7_groupTold 116 = .ok (.iload_n 3, 1) := sorry
def dtX7_groupTold_117_2 : List (Nat × Instr × Nat) := [(117, .iconst 1, 1), (118, .iload 6, 2), (120, .ishl, 1), (121, .ior, 1), (122, .istore_n 3, 1), (123, .aload_n 0, 1), (124, .iload_n 2, 1), (125, .iload 6, 2), (127, .iconst 0, 1), (128, .iconst 0, 1), (129, .iconst 0, 1), (130, .invokevirtual 215, 3), (133, .iinc 2 1, 3), (136, .aload_n 0, 1), (137, .bipush 44, 2), (139, .invokevirtual 131, 3), (142, .istore 4, 2), (144, .iload 4, 2), (146, .ifCond .eq 7, 3), (149, .aload_n 0, 1), (150, .invokevirtual 137, 3), (153, .goto (-135), 3), (156, .aload_n 0, 1), (157, .ldc 170, 2), (159, .invokevirtual 140, 3), (162, .ifCond .eq 7, 3), (165, .iconst 0, 1), (166, .goto 43, 3), (169, .aload_n 0, 1), (170, .ldc 172, 2), (172, .invokevirtual 140, 3), (175, .ifCond .eq 7, 3)]
theorem dtX7_groupTold_117_2_ok : dcAll cX7_groupTold dtX7_groupTold_117_2 = true := sorry
theorem dX7_groupTold_117 : decode cX7_groupTold 117 = .ok (.iconst 1, 1) := sorry
theorem dX7_groupTold_118 : decode cX7_groupTold 118 = .ok (.iload 6, 2) := sorry
theorem dX7_groupTold_120 : decode cX7_groupTold 120 = .ok (.ishl, 1) := sorry
theorem dX7_groupTold_121 : decode cX7_groupTold 121 = .ok (.ior, 1) := sorry
theorem dX7_groupTold_122 : decode cX7_groupTold 122 = .ok (.istore_n 3, 1) := sorry
theorem dX7_groupTold_123 : decode cX7_groupTold 123 = .ok (.aload_n 0, 1) := sorry
theorem dX7_groupTold_124 : decode cX7_groupTold 124 = .ok (.iload_n 2, 1) := sorry
theorem dX7_groupTold_125 : decode cX7_groupTold 125 = .ok (.iload 6, 2) := sorry
theorem dX7_groupTold_127 : decode cX7_groupTold 127 = .ok (.iconst 0, 1) := sorry
theorem dX7_groupTold_128 : decode cX7_groupTold 128 = .ok (.iconst 0, 1) := sorry
theorem dX7_groupTold_129 : decode cX7_groupTold 129 = .ok (.iconst 0, 1) := sorry
theorem dX7_groupTold_130 : decode cX7_groupTold 130 = .ok (.invokevirtual 215, 3) := sorry
theorem dX7_groupTold_133 : decode cX7_groupTold 133 = .ok (.iinc 2 1, 3) := sorry
theorem dX7_groupTold_136 : decode cX7_groupTold 136 = .ok (.aload_n 0, 1) := sorry
theorem dX7_groupTold_137 : decode cX7_groupTold 137 = .ok (.bipush 44, 2) := sorry
theorem dX7_groupTold_139 : decode cX7_groupTold 139 = .ok (.invokevirtual 131, 3) := sorry
theorem dX7_groupTold_142 : decode cX7_groupTold 142 = .ok (.istore 4, 2) := sorry
theorem dX7_groupTold_144 : decode cX7_groupTold 144 = .ok (.iload 4, 2) := sorry
theorem dX7_groupTold_146 : decode cX7_groupTold 146 = .ok (.ifCond .eq 7, 3) := sorry
theorem dX7_groupTold_149 : decode cX7_groupTold 149 = .ok (.aload_n 0, 1) := sorry
theorem dX7_groupTold_150 : decode cX7_groupTold 150 = .ok (.invokevirtual 137, 3) := sorry
theorem dX7_groupTold_153 : decode cX7_groupTold 153 = .ok (.goto (-135), 3) := sorry
theorem dX7_groupTold_156 : decode cX7_groupTold 156 = .ok (.aload_n 0, 1) := sorry
theorem dX7_groupTold_157 : decode cX7_groupTold 157 = .ok (.ldc 170, 2) := sorry
theorem dX7_groupTold_159 : decode cX7_groupTold 159 = .ok (.invokevirtual 140, 3) := sorry
theorem dX7_groupTold_162 : decode cX7_groupTold 162 = .ok (.ifCond .eq 7, 3) := sorry
theorem dX7_groupTold_165 : decode cX7_groupTold 165 = .ok (.iconst 0, 1) := sorry
theorem dX7_groupTold_166 : decode cX7_groupTold 166 = .ok (.goto 43, 3) := sorry
theorem dX7_groupTold_169 : decode cX7_groupTold 169 = .ok (.aload_n 0, 1) := sorry
theorem dX7_groupTold_170 : decode cX7_groupTold 170 = .ok (.ldc 172, 2) := sorry
theorem dX7_groupTold_172 : decode cX7_groupTold 172 = .ok (.invokevirtual 140, 3) := sorry
theorem dX7_groupTold_175 : decode cX7_groupTold 175 = .ok (.ifCond .eq 7, 3) := sorry
def dtX7_groupTold_178_3 : List (Nat × Instr × Nat) := [(178, .iconst 1, 1), (179, .goto 30, 3), (182, .aload_n 0, 1), (183, .ldc 174, 2), (185, .invokevirtual 140, 3), (188, .ifCond .eq 7, 3), (191, .iconst 2, 1), (192, .goto 17, 3), (195, .aload_n 0, 1), (196, .ldc 176, 2), (198, .invokevirtual 140, 3), (201, .ifCond .eq 7, 3), (204, .iconst 3, 1), (205, .goto 4, 3), (208, .iconst (-1), 1), (209, .istore 5, 2), (211, .iload 5, 2), (213, .ifCond .ge 8, 3), (216, .aload_n 0, 1), (217, .iconst 1, 1), (218, .invokevirtual 134, 3), (221, .aload_n 0, 1), (222, .invokevirtual 137, 3), (225, .iload 5, 2), (227, .ifCond .le 15, 3), (230, .aload_n 0, 1), (231, .aload_n 0, 1), (232, .iload_n 1, 1), (233, .invokevirtual 206, 3), (236, .invokevirtual 209, 3), (239, .goto 4, 3), (242, .iconst 0, 1)]
theorem dtX7_groupTold_178_3_ok : dcAll cX7_groupTold dtX7_groupTold_178_3 = true := sorry
theorem dX7_groupTold_178 : decode cX7_groupTold 178 = .ok (.iconst 1, 1) := sorry
theorem dX7_groupTold_179 : decode cX7_groupTold 179 = .ok (.goto 30, 3) := sorry
theorem dX7_groupTold_182 : decode cX7_groupTold 182 = .ok (.aload_n 0, 1) := sorry
theorem dX7_groupTold_183 : decode cX7_groupTold 183 = .ok (.ldc 174, 2) := sorry
theorem dX7_groupTold_185 : decode cX7_groupTold 185 = .ok (.invokevirtual 140, 3) := sorry
theorem dX7_groupTold_188 : decode cX7_groupTold 188 = .ok (.ifCond .eq 7, 3) := sorry
theorem dX7_groupTold_191 : decode cX7_groupTold 191 = .ok (.iconst 2, 1) := sorry
theorem dX7_groupTold_192 : decode cX7_groupTold 192 = .ok (.goto 17, 3) := sorry
theorem dX7_groupTold_195 : decode cX7_groupTold 195 = .ok (.aload_n 0, 1) := sorry
theorem dX7_groupTold_196 : decode cX7_groupTold 196 = .ok (.ldc 176, 2) := sorry
theorem dX7_groupTold_198 : decode cX7_groupTold 198 = .ok (.invokevirtual 140, 3) := sorry
theorem dX7_groupTold_201 : decode cX7_groupTold 201 = .ok (.ifCond .eq 7, 3) := sorry
theorem dX7_groupTold_204 : decode cX7_groupTold 204 = .ok (.iconst 3, 1) := sorry
theorem dX7_groupTold_205 : decode cX7_groupTold 205 = .ok (.goto 4, 3) := sorry
theorem dX7_groupTold_208 : decode cX7_groupTold 208 = .ok (.iconst (-1), 1) := sorry
theorem dX7_groupTold_209 : decode cX7_groupTold 209 = .ok (.istore 5, 2) := sorry
theorem dX7_groupTold_211 : decode cX7_groupTold 211 = .ok (.iload 5, 2) := sorry
theorem dX7_groupTold_213 : decode cX7_groupTold 213 = .ok (.ifCond .ge 8, 3) := sorry
theorem dX7_groupTold_216 : decode cX7_groupTold 216 = .ok (.aload_n 0, 1) := sorry
theorem dX7_groupTold_217 : decode cX7_groupTold 217 = .ok (.iconst 1, 1) := sorry
theorem dX7_groupTold_218 : decode cX7_groupTold 218 = .ok (.invokevirtual 134, 3) := sorry
theorem dX7_groupTold_221 : decode cX7_groupTold 221 = .ok (.aload_n 0, 1) := sorry
theorem dX7_groupTold_222 : decode cX7_groupTold 222 = .ok (.invokevirtual 137, 3) := sorry
theorem dX7_groupTold_225 : decode cX7_groupTold 225 = .ok (.iload 5, 2) := sorry
theorem dX7_groupTold_227 : decode cX7_groupTold 227 = .ok (.ifCond .le 15, 3) := sorry
theorem dX7_groupTold_230 : decode cX7_groupTold 230 = .ok (.aload_n 0, 1) := sorry
theorem dX7_groupTold_231 : decode cX7_groupTold 231 = .ok (.aload_n 0, 1) := sorry
theorem dX7_groupTold_232 : decode cX7_groupTold 232 = .ok (.iload_n 1, 1) := sorry
theorem dX7_groupTold_233 : decode cX7_groupTold 233 = .ok (.invokevirtual 206, 3) := sorry
theorem dX7_groupTold_236 : decode cX7_groupTold 236 = .ok (.invokevirtual 209, 3) := sorry
theorem dX7_groupTold_239 : decode cX7_groupTold 239 = .ok (.goto 4, 3) := sorry
theorem dX7_groupTold_242 : decode cX7_groupTold 242 = .ok (.iconst 0, 1) := sorry
def dtX7_groupTold_243_4 : List (Nat × Instr × Nat) := [(243, .istore 6, 2), (245, .aload_n 0, 1), (246, .iload_n 2, 1), (247, .iload 6, 2), (249, .iload 5, 2), (251, .iconst 0, 1), (252, .iconst 0, 1), (253, .invokevirtual 215, 3), (256, .aload_n 0, 1), (257, .bipush 7, 2), (259, .iload_n 2, 1), (260, .iconst 1, 1), (261, .iadd, 1), (262, .iload_n 1, 1), (263, .iconst (-1), 1), (264, .iload_n 2, 1), (265, .invokevirtual 219, 3), (268, .return_, 1)]
theorem dtX7_groupTold_243_4_ok : dcAll cX7_groupTold dtX7_groupTold_243_4 = true := sorry
theorem dX7_groupTold_243 : decode cX7_groupTold 243 = .ok (.istore 6, 2) := sorry
theorem dX7_groupTold_245 : decode cX7_groupTold 245 = .ok (.aload_n 0, 1) := sorry
theorem dX7_groupTold_246 : decode cX7_groupTold 246 = .ok (.iload_n 2, 1) := sorry
theorem dX7_groupTold_247 : decode cX7_groupTold 247 = .ok (.iload 6, 2) := sorry
theorem dX7_groupTold_249 : decode cX7_groupTold 249 = .ok (.iload 5, 2) := sorry
theorem dX7_groupTold_251 : decode cX7_groupTold 251 = .ok (.iconst 0, 1) := sorry
theorem dX7_groupTold_252 : decode cX7_groupTold 252 = .ok (.iconst 0, 1) := sorry
theorem dX7_groupTold_253 : decode cX7_groupTold 253 = .ok (.invokevirtual 215, 3) := sorry
theorem dX7_groupTold_256 : decode cX7_groupTold 256 = .ok (.aload_n 0, 1) := sorry
theorem dX7_groupTold_257 : decode cX7_groupTold 257 = .ok (.bipush 7, 2) := sorry
theorem dX7_groupTold_259 : decode cX7_groupTold 259 = .ok (.iload_n 2, 1) := sorry
theorem dX7_groupTold_260 : decode cX7_groupTold 260 = .ok (.iconst 1, 1) := sorry
theorem dX7_groupTold_261 : decode cX7_groupTold 261 = .ok (.iadd, 1) := sorry
theorem dX7_groupTold_262 : decode cX7_groupTold 262 = .ok (.iload_n 1, 1) := sorry
theorem dX7_groupTold_263 : decode cX7_groupTold 263 = .ok (.iconst (-1), 1) := sorry
theorem dX7_groupTold_264 : decode cX7_groupTold 264 = .ok (.iload_n 2, 1) := sorry
theorem dX7_groupTold_265 : decode cX7_groupTold 265 = .ok (.invokevirtual 219, 3) := sorry
theorem dX7_groupTold_268 : decode cX7_groupTold 268 = .ok (.return_, 1) := sorry
def dtX7_ringTold_0_0 : List (Nat × Instr × Nat) := [(0, .aload_n 0, 1), (1, .invokevirtual 199, 3), (4, .istore_n 1, 1), (5, .aload_n 0, 1), (6, .ldc 180, 2), (8, .invokevirtual 202, 3), (11, .aload_n 0, 1), (12, .invokevirtual 199, 3), (15, .istore_n 2, 1), (16, .aload_n 0, 1), (17, .ldc 158, 2), (19, .invokevirtual 202, 3), (22, .aload_n 0, 1), (23, .aload_n 0, 1), (24, .iload_n 1, 1), (25, .invokevirtual 206, 3), (28, .invokevirtual 209, 3), (31, .istore_n 3, 1), (32, .aload_n 0, 1), (33, .bipush 61, 2), (35, .invokevirtual 226, 3), (38, .aload_n 0, 1), (39, .aload_n 0, 1), (40, .iload_n 2, 1), (41, .invokevirtual 206, 3), (44, .invokevirtual 209, 3), (47, .istore 4, 2), (49, .aload_n 0, 1), (50, .ldc 182, 2), (52, .invokevirtual 202, 3), (55, .aload_n 0, 1), (56, .iconst 0, 1)]
theorem dtX7_ringTold_0_0_ok : dcAll cX7_ringTold dtX7_ringTold_0_0 = true := sorry
theorem dX7_ringTold_0 : decode cX7_ringTold 0 = .ok (.aload_n 0, 1) := sorry
theorem dX7_ringTold_1 : decode cX7_ringTold 1 = .ok (.invokevirtual 199, 3) := sorry
theorem dX7_ringTold_4 : decode cX7_ringTold 4 = .ok (.istore_n 1, 1) := sorry
theorem dX7_ringTold_5 : decode cX7_ringTold 5 = .ok (.aload_n 0, 1) := sorry
theorem dX7_ringTold_6 : decode cX7_ringTold 6 = .ok (.ldc 180, 2) := sorry
theorem dX7_ringTold_8 : decode cX7_ringTold 8 = .ok (.invokevirtual 202, 3) := sorry
theorem dX7_ringTold_11 : decode cX7_ringTold 11 = .ok (.aload_n 0, 1) := sorry
theorem dX7_ringTold_12 : decode cX7_ringTold 12 = .ok (.invokevirtual 199, 3) := sorry
theorem dX7_ringTold_15 : decode cX7_ringTold 15 = .ok (.istore_n 2, 1) := sorry
theorem dX7_ringTold_16 : decode cX7_ringTold 16 = .ok (.aload_n 0, 1) := sorry
theorem dX7_ringTold_17 : decode cX7_ringTold 17 = .ok (.ldc 158, 2) := sorry
theorem dX7_ringTold_19 : decode cX7_ringTold 19 = .ok (.invokevirtual 202, 3) := sorry
theorem dX7_ringTold_22 : decode cX7_ringTold 22 = .ok (.aload_n 0, 1) := sorry
theorem dX7_ringTold_23 : decode cX7_ringTold 23 = .ok (.aload_n 0, 1) := sorry
theorem dX7_ringTold_24 : decode cX7_ringTold 24 = .ok (.iload_n 1, 1) := sorry
theorem dX7_ringTold_25 : decode cX7_ringTold 25 = .ok (.invokevirtual 206, 3) := sorry
theorem dX7_ringTold_28 : decode cX7_ringTold 28 = .ok (.invokevirtual 209, 3) := sorry
theorem dX7_ringTold_31 : decode cX7_ringTold 31 = .ok (.istore_n 3, 1) := sorry
theorem dX7_ringTold_32 : decode cX7_ringTold 32 = .ok (.aload_n 0, 1) := sorry
theorem dX7_ringTold_33 : decode cX7_ringTold 33 = .ok (.bipush 61, 2) := sorry
theorem dX7_ringTold_35 : decode cX7_ringTold 35 = .ok (.invokevirtual 226, 3) := sorry
theorem dX7_ringTold_38 : decode cX7_ringTold 38 = .ok (.aload_n 0, 1) := sorry
theorem dX7_ringTold_39 : decode cX7_ringTold 39 = .ok (.aload_n 0, 1) := sorry
theorem dX7_ringTold_40 : decode cX7_ringTold 40 = .ok (.iload_n 2, 1) := sorry
theorem dX7_ringTold_41 : decode cX7_ringTold 41 = .ok (.invokevirtual 206, 3) := sorry
theorem dX7_ringTold_44 : decode cX7_ringTold 44 = .ok (.invokevirtual 209, 3) := sorry
theorem dX7_ringTold_47 : decode cX7_ringTold 47 = .ok (.istore 4, 2) := sorry
theorem dX7_ringTold_49 : decode cX7_ringTold 49 = .ok (.aload_n 0, 1) := sorry
theorem dX7_ringTold_50 : decode cX7_ringTold 50 = .ok (.ldc 182, 2) := sorry
theorem dX7_ringTold_52 : decode cX7_ringTold 52 = .ok (.invokevirtual 202, 3) := sorry
theorem dX7_ringTold_55 : decode cX7_ringTold 55 = .ok (.aload_n 0, 1) := sorry
theorem dX7_ringTold_56 : decode cX7_ringTold 56 = .ok (.iconst 0, 1) := sorry
def dtX7_ringTold_57_1 : List (Nat × Instr × Nat) := [(57, .iload_n 3, 1), (58, .iload 4, 2), (60, .iconst 0, 1), (61, .iconst 0, 1), (62, .invokevirtual 215, 3), (65, .aload_n 0, 1), (66, .iload_n 1, 1), (67, .invokevirtual 206, 3), (70, .aload_n 0, 1), (71, .iload_n 2, 1), (72, .invokevirtual 206, 3), (75, .iadd, 1), (76, .istore 5, 2), (78, .aload_n 0, 1), (79, .iload 5, 2), (81, .iconst 1, 1), (82, .invokevirtual 222, 3), (85, .istore 6, 2), (87, .aload_n 0, 1), (88, .bipush 59, 2), (90, .invokevirtual 131, 3), (93, .ifCond .eq 24, 3), (96, .iload 5, 2), (98, .iconst 4, 1), (99, .if_icmp .gt 13, 3), (102, .iload 6, 2), (104, .aload_n 0, 1), (105, .iload_n 1, 1), (106, .invokevirtual 206, 3), (109, .if_icmp .eq 8, 3), (112, .aload_n 0, 1), (113, .iconst 5, 1)]
theorem dtX7_ringTold_57_1_ok : dcAll cX7_ringTold dtX7_ringTold_57_1 = true := sorry
theorem dX7_ringTold_57 : decode cX7_ringTold 57 = .ok (.iload_n 3, 1) := sorry
theorem dX7_ringTold_58 : decode cX7_ringTold 58 = .ok (.iload 4, 2) := sorry
theorem dX7_ringTold_60 : decode cX7_ringTold 60 = .ok (.iconst 0, 1) := sorry
theorem dX7_ringTold_61 : decode cX7_ringTold 61 = .ok (.iconst 0, 1) := sorry
theorem dX7_ringTold_62 : decode cX7_ringTold 62 = .ok (.invokevirtual 215, 3) := sorry
theorem dX7_ringTold_65 : decode cX7_ringTold 65 = .ok (.aload_n 0, 1) := sorry
theorem dX7_ringTold_66 : decode cX7_ringTold 66 = .ok (.iload_n 1, 1) := sorry
theorem dX7_ringTold_67 : decode cX7_ringTold 67 = .ok (.invokevirtual 206, 3) := sorry
theorem dX7_ringTold_70 : decode cX7_ringTold 70 = .ok (.aload_n 0, 1) := sorry
theorem dX7_ringTold_71 : decode cX7_ringTold 71 = .ok (.iload_n 2, 1) := sorry
theorem dX7_ringTold_72 : decode cX7_ringTold 72 = .ok (.invokevirtual 206, 3) := sorry
theorem dX7_ringTold_75 : decode cX7_ringTold 75 = .ok (.iadd, 1) := sorry
theorem dX7_ringTold_76 : decode cX7_ringTold 76 = .ok (.istore 5, 2) := sorry
theorem dX7_ringTold_78 : decode cX7_ringTold 78 = .ok (.aload_n 0, 1) := sorry
theorem dX7_ringTold_79 : decode cX7_ringTold 79 = .ok (.iload 5, 2) := sorry
theorem dX7_ringTold_81 : decode cX7_ringTold 81 = .ok (.iconst 1, 1) := sorry
theorem dX7_ringTold_82 : decode cX7_ringTold 82 = .ok (.invokevirtual 222, 3) := sorry
theorem dX7_ringTold_85 : decode cX7_ringTold 85 = .ok (.istore 6, 2) := sorry
theorem dX7_ringTold_87 : decode cX7_ringTold 87 = .ok (.aload_n 0, 1) := sorry
theorem dX7_ringTold_88 : decode cX7_ringTold 88 = .ok (.bipush 59, 2) := sorry
theorem dX7_ringTold_90 : decode cX7_ringTold 90 = .ok (.invokevirtual 131, 3) := sorry
theorem dX7_ringTold_93 : decode cX7_ringTold 93 = .ok (.ifCond .eq 24, 3) := sorry
theorem dX7_ringTold_96 : decode cX7_ringTold 96 = .ok (.iload 5, 2) := sorry
theorem dX7_ringTold_98 : decode cX7_ringTold 98 = .ok (.iconst 4, 1) := sorry
theorem dX7_ringTold_99 : decode cX7_ringTold 99 = .ok (.if_icmp .gt 13, 3) := sorry
theorem dX7_ringTold_102 : decode cX7_ringTold 102 = .ok (.iload 6, 2) := sorry
theorem dX7_ringTold_104 : decode cX7_ringTold 104 = .ok (.aload_n 0, 1) := sorry
theorem dX7_ringTold_105 : decode cX7_ringTold 105 = .ok (.iload_n 1, 1) := sorry
theorem dX7_ringTold_106 : decode cX7_ringTold 106 = .ok (.invokevirtual 206, 3) := sorry
theorem dX7_ringTold_109 : decode cX7_ringTold 109 = .ok (.if_icmp .eq 8, 3) := sorry
theorem dX7_ringTold_112 : decode cX7_ringTold 112 = .ok (.aload_n 0, 1) := sorry
theorem dX7_ringTold_113 : decode cX7_ringTold 113 = .ok (.iconst 5, 1) := sorry
def dtX7_ringTold_114_2 : List (Nat × Instr × Nat) := [(114, .invokevirtual 134, 3), (117, .aload_n 0, 1), (118, .bipush 8, 2), (120, .aload_n 0, 1), (121, .iload_n 1, 1), (122, .invokevirtual 206, 3), (125, .iload_n 1, 1), (126, .iload_n 2, 1), (127, .iload 6, 2), (129, .invokevirtual 219, 3), (132, .return_, 1)]
theorem dtX7_ringTold_114_2_ok : dcAll cX7_ringTold dtX7_ringTold_114_2 = true := sorry
theorem dX7_ringTold_114 : decode cX7_ringTold 114 = .ok (.invokevirtual 134, 3) := sorry
theorem dX7_ringTold_117 : decode cX7_ringTold 117 = .ok (.aload_n 0, 1) := sorry
theorem dX7_ringTold_118 : decode cX7_ringTold 118 = .ok (.bipush 8, 2) := sorry
theorem dX7_ringTold_120 : decode cX7_ringTold 120 = .ok (.aload_n 0, 1) := sorry
theorem dX7_ringTold_121 : decode cX7_ringTold 121 = .ok (.iload_n 1, 1) := sorry
theorem dX7_ringTold_122 : decode cX7_ringTold 122 = .ok (.invokevirtual 206, 3) := sorry
theorem dX7_ringTold_125 : decode cX7_ringTold 125 = .ok (.iload_n 1, 1) := sorry
theorem dX7_ringTold_126 : decode cX7_ringTold 126 = .ok (.iload_n 2, 1) := sorry
theorem dX7_ringTold_127 : decode cX7_ringTold 127 = .ok (.iload 6, 2) := sorry
theorem dX7_ringTold_129 : decode cX7_ringTold 129 = .ok (.invokevirtual 219, 3) := sorry
theorem dX7_ringTold_132 : decode cX7_ringTold 132 = .ok (.return_, 1) := sorry
def dtX7_tableTold_0_0 : List (Nat × Instr × Nat) := [(0, .aload_n 0, 1), (1, .getfield 184, 3), (4, .bipush 16, 2), (6, .if_icmp .ne 8, 3), (9, .aload_n 0, 1), (10, .iconst 4, 1), (11, .invokevirtual 134, 3), (14, .iload_n 1, 1), (15, .ifCond .eq 9, 3), (18, .aload_n 0, 1), (19, .bipush 6, 2), (21, .invokevirtual 134, 3), (24, .aload_n 0, 1), (25, .invokevirtual 137, 3), (28, .aload_n 0, 1), (29, .invokevirtual 229, 3), (32, .aload_n 0, 1), (33, .getfield 81, 3), (36, .ifCond .ne 28, 3), (39, .aload_n 0, 1), (40, .getfield 94, 3), (43, .iconst 3, 1), (44, .if_icmp .ne 20, 3), (47, .aload_n 0, 1), (48, .getfield 97, 3), (51, .iconst 1, 1), (52, .iconst 4, 1), (53, .invokestatic 67, 3), (56, .ifCond .ne 8, 3), (59, .aload_n 0, 1), (60, .iconst 2, 1), (61, .invokevirtual 134, 3)]
theorem dtX7_tableTold_0_0_ok : dcAll cX7_tableTold dtX7_tableTold_0_0 = true := sorry
theorem dX7_tableTold_0 : decode cX7_tableTold 0 = .ok (.aload_n 0, 1) := sorry
theorem dX7_tableTold_1 : decode cX7_tableTold 1 = .ok (.getfield 184, 3) := sorry
theorem dX7_tableTold_4 : decode cX7_tableTold 4 = .ok (.bipush 16, 2) := sorry
theorem dX7_tableTold_6 : decode cX7_tableTold 6 = .ok (.if_icmp .ne 8, 3) := sorry
theorem dX7_tableTold_9 : decode cX7_tableTold 9 = .ok (.aload_n 0, 1) := sorry
theorem dX7_tableTold_10 : decode cX7_tableTold 10 = .ok (.iconst 4, 1) := sorry
theorem dX7_tableTold_11 : decode cX7_tableTold 11 = .ok (.invokevirtual 134, 3) := sorry
theorem dX7_tableTold_14 : decode cX7_tableTold 14 = .ok (.iload_n 1, 1) := sorry
theorem dX7_tableTold_15 : decode cX7_tableTold 15 = .ok (.ifCond .eq 9, 3) := sorry
theorem dX7_tableTold_18 : decode cX7_tableTold 18 = .ok (.aload_n 0, 1) := sorry
theorem dX7_tableTold_19 : decode cX7_tableTold 19 = .ok (.bipush 6, 2) := sorry
theorem dX7_tableTold_21 : decode cX7_tableTold 21 = .ok (.invokevirtual 134, 3) := sorry
theorem dX7_tableTold_24 : decode cX7_tableTold 24 = .ok (.aload_n 0, 1) := sorry
theorem dX7_tableTold_25 : decode cX7_tableTold 25 = .ok (.invokevirtual 137, 3) := sorry
theorem dX7_tableTold_28 : decode cX7_tableTold 28 = .ok (.aload_n 0, 1) := sorry
theorem dX7_tableTold_29 : decode cX7_tableTold 29 = .ok (.invokevirtual 229, 3) := sorry
theorem dX7_tableTold_32 : decode cX7_tableTold 32 = .ok (.aload_n 0, 1) := sorry
theorem dX7_tableTold_33 : decode cX7_tableTold 33 = .ok (.getfield 81, 3) := sorry
theorem dX7_tableTold_36 : decode cX7_tableTold 36 = .ok (.ifCond .ne 28, 3) := sorry
theorem dX7_tableTold_39 : decode cX7_tableTold 39 = .ok (.aload_n 0, 1) := sorry
theorem dX7_tableTold_40 : decode cX7_tableTold 40 = .ok (.getfield 94, 3) := sorry
theorem dX7_tableTold_43 : decode cX7_tableTold 43 = .ok (.iconst 3, 1) := sorry
theorem dX7_tableTold_44 : decode cX7_tableTold 44 = .ok (.if_icmp .ne 20, 3) := sorry
theorem dX7_tableTold_47 : decode cX7_tableTold 47 = .ok (.aload_n 0, 1) := sorry
theorem dX7_tableTold_48 : decode cX7_tableTold 48 = .ok (.getfield 97, 3) := sorry
theorem dX7_tableTold_51 : decode cX7_tableTold 51 = .ok (.iconst 1, 1) := sorry
theorem dX7_tableTold_52 : decode cX7_tableTold 52 = .ok (.iconst 4, 1) := sorry
theorem dX7_tableTold_53 : decode cX7_tableTold 53 = .ok (.invokestatic 67, 3) := sorry
theorem dX7_tableTold_56 : decode cX7_tableTold 56 = .ok (.ifCond .ne 8, 3) := sorry
theorem dX7_tableTold_59 : decode cX7_tableTold 59 = .ok (.aload_n 0, 1) := sorry
theorem dX7_tableTold_60 : decode cX7_tableTold 60 = .ok (.iconst 2, 1) := sorry
theorem dX7_tableTold_61 : decode cX7_tableTold 61 = .ok (.invokevirtual 134, 3) := sorry
def dtX7_tableTold_64_1 : List (Nat × Instr × Nat) := [(64, .aload_n 0, 1), (65, .invokevirtual 212, 3), (68, .istore_n 2, 1), (69, .aload_n 0, 1), (70, .iconst 0, 1), (71, .iload_n 2, 1), (72, .iconst (-1), 1), (73, .iconst (-1), 1), (74, .iconst 0, 1), (75, .invokevirtual 219, 3), (78, .return_, 1)]
theorem dtX7_tableTold_64_1_ok : dcAll cX7_tableTold dtX7_tableTold_64_1 = true := sorry
theorem dX7_tableTold_64 : decode cX7_tableTold 64 = .ok (.aload_n 0, 1) := sorry
theorem dX7_tableTold_65 : decode cX7_tableTold 65 = .ok (.invokevirtual 212, 3) := sorry
theorem dX7_tableTold_68 : decode cX7_tableTold 68 = .ok (.istore_n 2, 1) := sorry
theorem dX7_tableTold_69 : decode cX7_tableTold 69 = .ok (.aload_n 0, 1) := sorry
theorem dX7_tableTold_70 : decode cX7_tableTold 70 = .ok (.iconst 0, 1) := sorry
theorem dX7_tableTold_71 : decode cX7_tableTold 71 = .ok (.iload_n 2, 1) := sorry
theorem dX7_tableTold_72 : decode cX7_tableTold 72 = .ok (.iconst (-1), 1) := sorry
theorem dX7_tableTold_73 : decode cX7_tableTold 73 = .ok (.iconst (-1), 1) := sorry
theorem dX7_tableTold_74 : decode cX7_tableTold 74 = .ok (.iconst 0, 1) := sorry
theorem dX7_tableTold_75 : decode cX7_tableTold 75 = .ok (.invokevirtual 219, 3) := sorry
theorem dX7_tableTold_78 : decode cX7_tableTold 78 = .ok (.return_, 1) := sorry
def dtX7_viewTold_0_0 : List (Nat × Instr × Nat) := [(0, .aload_n 0, 1), (1, .getfield 184, 3), (4, .bipush 16, 2), (6, .if_icmp .ne 8, 3), (9, .aload_n 0, 1), (10, .iconst 4, 1), (11, .invokevirtual 134, 3), (14, .aload_n 0, 1), (15, .invokevirtual 137, 3), (18, .aload_n 0, 1), (19, .invokevirtual 229, 3), (22, .aload_n 0, 1), (23, .bipush 61, 2), (25, .invokevirtual 226, 3), (28, .aload_n 0, 1), (29, .getfield 81, 3), (32, .ifCond .le 4, 3), (35, .return_, 1), (36, .aload_n 0, 1), (37, .ldc 148, 2), (39, .invokevirtual 140, 3), (42, .ifCond .eq 7, 3), (45, .iconst 1, 1), (46, .goto 98, 3), (49, .aload_n 0, 1), (50, .ldc 154, 2), (52, .invokevirtual 140, 3), (55, .ifCond .eq 7, 3), (58, .iconst 2, 1), (59, .goto 85, 3), (62, .aload_n 0, 1), (63, .ldc 156, 2)]
theorem dtX7_viewTold_0_0_ok : dcAll cX7_viewTold dtX7_viewTold_0_0 = true := sorry
theorem dX7_viewTold_0 : decode cX7_viewTold 0 = .ok (.aload_n 0, 1) := sorry
theorem dX7_viewTold_1 : decode cX7_viewTold 1 = .ok (.getfield 184, 3) := sorry
theorem dX7_viewTold_4 : decode cX7_viewTold 4 = .ok (.bipush 16, 2) := sorry
theorem dX7_viewTold_6 : decode cX7_viewTold 6 = .ok (.if_icmp .ne 8, 3) := sorry
theorem dX7_viewTold_9 : decode cX7_viewTold 9 = .ok (.aload_n 0, 1) := sorry
theorem dX7_viewTold_10 : decode cX7_viewTold 10 = .ok (.iconst 4, 1) := sorry
theorem dX7_viewTold_11 : decode cX7_viewTold 11 = .ok (.invokevirtual 134, 3) := sorry
theorem dX7_viewTold_14 : decode cX7_viewTold 14 = .ok (.aload_n 0, 1) := sorry
theorem dX7_viewTold_15 : decode cX7_viewTold 15 = .ok (.invokevirtual 137, 3) := sorry
theorem dX7_viewTold_18 : decode cX7_viewTold 18 = .ok (.aload_n 0, 1) := sorry
theorem dX7_viewTold_19 : decode cX7_viewTold 19 = .ok (.invokevirtual 229, 3) := sorry
theorem dX7_viewTold_22 : decode cX7_viewTold 22 = .ok (.aload_n 0, 1) := sorry
theorem dX7_viewTold_23 : decode cX7_viewTold 23 = .ok (.bipush 61, 2) := sorry
theorem dX7_viewTold_25 : decode cX7_viewTold 25 = .ok (.invokevirtual 226, 3) := sorry
theorem dX7_viewTold_28 : decode cX7_viewTold 28 = .ok (.aload_n 0, 1) := sorry
theorem dX7_viewTold_29 : decode cX7_viewTold 29 = .ok (.getfield 81, 3) := sorry
theorem dX7_viewTold_32 : decode cX7_viewTold 32 = .ok (.ifCond .le 4, 3) := sorry
theorem dX7_viewTold_35 : decode cX7_viewTold 35 = .ok (.return_, 1) := sorry
theorem dX7_viewTold_36 : decode cX7_viewTold 36 = .ok (.aload_n 0, 1) := sorry
theorem dX7_viewTold_37 : decode cX7_viewTold 37 = .ok (.ldc 148, 2) := sorry
theorem dX7_viewTold_39 : decode cX7_viewTold 39 = .ok (.invokevirtual 140, 3) := sorry
theorem dX7_viewTold_42 : decode cX7_viewTold 42 = .ok (.ifCond .eq 7, 3) := sorry
theorem dX7_viewTold_45 : decode cX7_viewTold 45 = .ok (.iconst 1, 1) := sorry
theorem dX7_viewTold_46 : decode cX7_viewTold 46 = .ok (.goto 98, 3) := sorry
theorem dX7_viewTold_49 : decode cX7_viewTold 49 = .ok (.aload_n 0, 1) := sorry
theorem dX7_viewTold_50 : decode cX7_viewTold 50 = .ok (.ldc 154, 2) := sorry
theorem dX7_viewTold_52 : decode cX7_viewTold 52 = .ok (.invokevirtual 140, 3) := sorry
theorem dX7_viewTold_55 : decode cX7_viewTold 55 = .ok (.ifCond .eq 7, 3) := sorry
theorem dX7_viewTold_58 : decode cX7_viewTold 58 = .ok (.iconst 2, 1) := sorry
theorem dX7_viewTold_59 : decode cX7_viewTold 59 = .ok (.goto 85, 3) := sorry
theorem dX7_viewTold_62 : decode cX7_viewTold 62 = .ok (.aload_n 0, 1) := sorry
theorem dX7_viewTold_63 : decode cX7_viewTold 63 = .ok (.ldc 156, 2) := sorry
def dtX7_viewTold_65_1 : List (Nat × Instr × Nat) := [(65, .invokevirtual 140, 3), (68, .ifCond .eq 7, 3), (71, .iconst 3, 1), (72, .goto 72, 3), (75, .aload_n 0, 1), (76, .ldc 160, 2), (78, .invokevirtual 140, 3), (81, .ifCond .eq 7, 3), (84, .iconst 4, 1), (85, .goto 59, 3), (88, .aload_n 0, 1), (89, .ldc 162, 2), (91, .invokevirtual 140, 3), (94, .ifCond .eq 7, 3), (97, .iconst 5, 1), (98, .goto 46, 3), (101, .aload_n 0, 1), (102, .ldc 164, 2), (104, .invokevirtual 140, 3), (107, .ifCond .eq 8, 3), (110, .bipush 6, 2), (112, .goto 32, 3), (115, .aload_n 0, 1), (116, .ldc 166, 2), (118, .invokevirtual 140, 3), (121, .ifCond .eq 8, 3), (124, .bipush 7, 2), (126, .goto 18, 3), (129, .aload_n 0, 1), (130, .ldc 178, 2), (132, .invokevirtual 140, 3), (135, .ifCond .eq 8, 3)]
theorem dtX7_viewTold_65_1_ok : dcAll cX7_viewTold dtX7_viewTold_65_1 = true := sorry
theorem dX7_viewTold_65 : decode cX7_viewTold 65 = .ok (.invokevirtual 140, 3) := sorry
theorem dX7_viewTold_68 : decode cX7_viewTold 68 = .ok (.ifCond .eq 7, 3) := sorry
theorem dX7_viewTold_71 : decode cX7_viewTold 71 = .ok (.iconst 3, 1) := sorry
theorem dX7_viewTold_72 : decode cX7_viewTold 72 = .ok (.goto 72, 3) := sorry
theorem dX7_viewTold_75 : decode cX7_viewTold 75 = .ok (.aload_n 0, 1) := sorry
theorem dX7_viewTold_76 : decode cX7_viewTold 76 = .ok (.ldc 160, 2) := sorry
theorem dX7_viewTold_78 : decode cX7_viewTold 78 = .ok (.invokevirtual 140, 3) := sorry
theorem dX7_viewTold_81 : decode cX7_viewTold 81 = .ok (.ifCond .eq 7, 3) := sorry
theorem dX7_viewTold_84 : decode cX7_viewTold 84 = .ok (.iconst 4, 1) := sorry
theorem dX7_viewTold_85 : decode cX7_viewTold 85 = .ok (.goto 59, 3) := sorry
theorem dX7_viewTold_88 : decode cX7_viewTold 88 = .ok (.aload_n 0, 1) := sorry
theorem dX7_viewTold_89 : decode cX7_viewTold 89 = .ok (.ldc 162, 2) := sorry
theorem dX7_viewTold_91 : decode cX7_viewTold 91 = .ok (.invokevirtual 140, 3) := sorry
theorem dX7_viewTold_94 : decode cX7_viewTold 94 = .ok (.ifCond .eq 7, 3) := sorry
theorem dX7_viewTold_97 : decode cX7_viewTold 97 = .ok (.iconst 5, 1) := sorry
theorem dX7_viewTold_98 : decode cX7_viewTold 98 = .ok (.goto 46, 3) := sorry
theorem dX7_viewTold_101 : decode cX7_viewTold 101 = .ok (.aload_n 0, 1) := sorry
theorem dX7_viewTold_102 : decode cX7_viewTold 102 = .ok (.ldc 164, 2) := sorry
theorem dX7_viewTold_104 : decode cX7_viewTold 104 = .ok (.invokevirtual 140, 3) := sorry
theorem dX7_viewTold_107 : decode cX7_viewTold 107 = .ok (.ifCond .eq 8, 3) := sorry
theorem dX7_viewTold_110 : decode cX7_viewTold 110 = .ok (.bipush 6, 2) := sorry
theorem dX7_viewTold_112 : decode cX7_viewTold 112 = .ok (.goto 32, 3) := sorry
theorem dX7_viewTold_115 : decode cX7_viewTold 115 = .ok (.aload_n 0, 1) := sorry
theorem dX7_viewTold_116 : decode cX7_viewTold 116 = .ok (.ldc 166, 2) := sorry
theorem dX7_viewTold_118 : decode cX7_viewTold 118 = .ok (.invokevirtual 140, 3) := sorry
theorem dX7_viewTold_121 : decode cX7_viewTold 121 = .ok (.ifCond .eq 8, 3) := sorry
theorem dX7_viewTold_124 : decode cX7_viewTold 124 = .ok (.bipush 7, 2) := sorry
theorem dX7_viewTold_126 : decode cX7_viewTold 126 = .ok (.goto 18, 3) := sorry
theorem dX7_viewTold_129 : decode cX7_viewTold 129 = .ok (.aload_n 0, 1) := sorry
theorem dX7_viewTold_130 : decode cX7_viewTold 130 = .ok (.ldc 178, 2) := sorry
theorem dX7_viewTold_132 : decode cX7_viewTold 132 = .ok (.invokevirtual 140, 3) := sorry
theorem dX7_viewTold_135 : decode cX7_viewTold 135 = .ok (.ifCond .eq 8, 3) := sorry
def dtX7_viewTold_138_2 : List (Nat × Instr × Nat) := [(138, .bipush 8, 2), (140, .goto 4, 3), (143, .iconst (-1), 1), (144, .istore_n 1, 1), (145, .iload_n 1, 1), (146, .ifCond .ge 8, 3), (149, .aload_n 0, 1), (150, .iconst 1, 1), (151, .invokevirtual 134, 3), (154, .aload_n 0, 1), (155, .invokevirtual 137, 3), (158, .aload_n 0, 1), (159, .getfield 81, 3), (162, .ifCond .le 4, 3), (165, .return_, 1), (166, .iload_n 1, 1), (167, .iconst 1, 1), (168, .if_icmp .ne 10, 3), (171, .aload_n 0, 1), (172, .invokevirtual 232, 3), (175, .goto 90, 3), (178, .iload_n 1, 1), (179, .iconst 2, 1), (180, .if_icmp .ne 10, 3), (183, .aload_n 0, 1), (184, .invokevirtual 235, 3), (187, .goto 78, 3), (190, .iload_n 1, 1), (191, .iconst 3, 1), (192, .if_icmp .ne 10, 3), (195, .aload_n 0, 1), (196, .invokevirtual 238, 3)]
theorem dtX7_viewTold_138_2_ok : dcAll cX7_viewTold dtX7_viewTold_138_2 = true := sorry
theorem dX7_viewTold_138 : decode cX7_viewTold 138 = .ok (.bipush 8, 2) := sorry
theorem dX7_viewTold_140 : decode cX7_viewTold 140 = .ok (.goto 4, 3) := sorry
theorem dX7_viewTold_143 : decode cX7_viewTold 143 = .ok (.iconst (-1), 1) := sorry
theorem dX7_viewTold_144 : decode cX7_viewTold 144 = .ok (.istore_n 1, 1) := sorry
theorem dX7_viewTold_145 : decode cX7_viewTold 145 = .ok (.iload_n 1, 1) := sorry
theorem dX7_viewTold_146 : decode cX7_viewTold 146 = .ok (.ifCond .ge 8, 3) := sorry
theorem dX7_viewTold_149 : decode cX7_viewTold 149 = .ok (.aload_n 0, 1) := sorry
theorem dX7_viewTold_150 : decode cX7_viewTold 150 = .ok (.iconst 1, 1) := sorry
theorem dX7_viewTold_151 : decode cX7_viewTold 151 = .ok (.invokevirtual 134, 3) := sorry
theorem dX7_viewTold_154 : decode cX7_viewTold 154 = .ok (.aload_n 0, 1) := sorry
theorem dX7_viewTold_155 : decode cX7_viewTold 155 = .ok (.invokevirtual 137, 3) := sorry
theorem dX7_viewTold_158 : decode cX7_viewTold 158 = .ok (.aload_n 0, 1) := sorry
theorem dX7_viewTold_159 : decode cX7_viewTold 159 = .ok (.getfield 81, 3) := sorry
theorem dX7_viewTold_162 : decode cX7_viewTold 162 = .ok (.ifCond .le 4, 3) := sorry
theorem dX7_viewTold_165 : decode cX7_viewTold 165 = .ok (.return_, 1) := sorry
theorem dX7_viewTold_166 : decode cX7_viewTold 166 = .ok (.iload_n 1, 1) := sorry
theorem dX7_viewTold_167 : decode cX7_viewTold 167 = .ok (.iconst 1, 1) := sorry
theorem dX7_viewTold_168 : decode cX7_viewTold 168 = .ok (.if_icmp .ne 10, 3) := sorry
theorem dX7_viewTold_171 : decode cX7_viewTold 171 = .ok (.aload_n 0, 1) := sorry
theorem dX7_viewTold_172 : decode cX7_viewTold 172 = .ok (.invokevirtual 232, 3) := sorry
theorem dX7_viewTold_175 : decode cX7_viewTold 175 = .ok (.goto 90, 3) := sorry
theorem dX7_viewTold_178 : decode cX7_viewTold 178 = .ok (.iload_n 1, 1) := sorry
theorem dX7_viewTold_179 : decode cX7_viewTold 179 = .ok (.iconst 2, 1) := sorry
theorem dX7_viewTold_180 : decode cX7_viewTold 180 = .ok (.if_icmp .ne 10, 3) := sorry
theorem dX7_viewTold_183 : decode cX7_viewTold 183 = .ok (.aload_n 0, 1) := sorry
theorem dX7_viewTold_184 : decode cX7_viewTold 184 = .ok (.invokevirtual 235, 3) := sorry
theorem dX7_viewTold_187 : decode cX7_viewTold 187 = .ok (.goto 78, 3) := sorry
theorem dX7_viewTold_190 : decode cX7_viewTold 190 = .ok (.iload_n 1, 1) := sorry
theorem dX7_viewTold_191 : decode cX7_viewTold 191 = .ok (.iconst 3, 1) := sorry
theorem dX7_viewTold_192 : decode cX7_viewTold 192 = .ok (.if_icmp .ne 10, 3) := sorry
theorem dX7_viewTold_195 : decode cX7_viewTold 195 = .ok (.aload_n 0, 1) := sorry
theorem dX7_viewTold_196 : decode cX7_viewTold 196 = .ok (.invokevirtual 238, 3) := sorry
def dtX7_viewTold_199_3 : List (Nat × Instr × Nat) := [(199, .goto 66, 3), (202, .iload_n 1, 1), (203, .iconst 4, 1), (204, .if_icmp .eq 8, 3), (207, .iload_n 1, 1), (208, .iconst 5, 1), (209, .if_icmp .ne 11, 3), (212, .aload_n 0, 1), (213, .iload_n 1, 1), (214, .invokevirtual 241, 3), (217, .goto 48, 3), (220, .iload_n 1, 1), (221, .bipush 7, 2), (223, .if_icmp .ne 10, 3), (226, .aload_n 0, 1), (227, .invokevirtual 244, 3), (230, .goto 35, 3), (233, .iload_n 1, 1), (234, .bipush 8, 2), (236, .if_icmp .ne 10, 3), (239, .aload_n 0, 1), (240, .invokevirtual 247, 3), (243, .goto 22, 3), (246, .aload_n 0, 1), (247, .invokevirtual 199, 3), (250, .istore_n 2, 1), (251, .aload_n 0, 1), (252, .bipush 6, 2), (254, .aload_n 0, 1), (255, .iload_n 2, 1), (256, .invokevirtual 206, 3), (259, .iload_n 2, 1)]
theorem dtX7_viewTold_199_3_ok : dcAll cX7_viewTold dtX7_viewTold_199_3 = true := sorry
theorem dX7_viewTold_199 : decode cX7_viewTold 199 = .ok (.goto 66, 3) := sorry
theorem dX7_viewTold_202 : decode cX7_viewTold 202 = .ok (.iload_n 1, 1) := sorry
theorem dX7_viewTold_203 : decode cX7_viewTold 203 = .ok (.iconst 4, 1) := sorry
theorem dX7_viewTold_204 : decode cX7_viewTold 204 = .ok (.if_icmp .eq 8, 3) := sorry
theorem dX7_viewTold_207 : decode cX7_viewTold 207 = .ok (.iload_n 1, 1) := sorry
theorem dX7_viewTold_208 : decode cX7_viewTold 208 = .ok (.iconst 5, 1) := sorry
theorem dX7_viewTold_209 : decode cX7_viewTold 209 = .ok (.if_icmp .ne 11, 3) := sorry
theorem dX7_viewTold_212 : decode cX7_viewTold 212 = .ok (.aload_n 0, 1) := sorry
theorem dX7_viewTold_213 : decode cX7_viewTold 213 = .ok (.iload_n 1, 1) := sorry
theorem dX7_viewTold_214 : decode cX7_viewTold 214 = .ok (.invokevirtual 241, 3) := sorry
theorem dX7_viewTold_217 : decode cX7_viewTold 217 = .ok (.goto 48, 3) := sorry
theorem dX7_viewTold_220 : decode cX7_viewTold 220 = .ok (.iload_n 1, 1) := sorry
theorem dX7_viewTold_221 : decode cX7_viewTold 221 = .ok (.bipush 7, 2) := sorry
theorem dX7_viewTold_223 : decode cX7_viewTold 223 = .ok (.if_icmp .ne 10, 3) := sorry
theorem dX7_viewTold_226 : decode cX7_viewTold 226 = .ok (.aload_n 0, 1) := sorry
theorem dX7_viewTold_227 : decode cX7_viewTold 227 = .ok (.invokevirtual 244, 3) := sorry
theorem dX7_viewTold_230 : decode cX7_viewTold 230 = .ok (.goto 35, 3) := sorry
theorem dX7_viewTold_233 : decode cX7_viewTold 233 = .ok (.iload_n 1, 1) := sorry
theorem dX7_viewTold_234 : decode cX7_viewTold 234 = .ok (.bipush 8, 2) := sorry
theorem dX7_viewTold_236 : decode cX7_viewTold 236 = .ok (.if_icmp .ne 10, 3) := sorry
theorem dX7_viewTold_239 : decode cX7_viewTold 239 = .ok (.aload_n 0, 1) := sorry
theorem dX7_viewTold_240 : decode cX7_viewTold 240 = .ok (.invokevirtual 247, 3) := sorry
theorem dX7_viewTold_243 : decode cX7_viewTold 243 = .ok (.goto 22, 3) := sorry
theorem dX7_viewTold_246 : decode cX7_viewTold 246 = .ok (.aload_n 0, 1) := sorry
theorem dX7_viewTold_247 : decode cX7_viewTold 247 = .ok (.invokevirtual 199, 3) := sorry
theorem dX7_viewTold_250 : decode cX7_viewTold 250 = .ok (.istore_n 2, 1) := sorry
theorem dX7_viewTold_251 : decode cX7_viewTold 251 = .ok (.aload_n 0, 1) := sorry
theorem dX7_viewTold_252 : decode cX7_viewTold 252 = .ok (.bipush 6, 2) := sorry
theorem dX7_viewTold_254 : decode cX7_viewTold 254 = .ok (.aload_n 0, 1) := sorry
theorem dX7_viewTold_255 : decode cX7_viewTold 255 = .ok (.iload_n 2, 1) := sorry
theorem dX7_viewTold_256 : decode cX7_viewTold 256 = .ok (.invokevirtual 206, 3) := sorry
theorem dX7_viewTold_259 : decode cX7_viewTold 259 = .ok (.iload_n 2, 1) := sorry
def dtX7_viewTold_260_4 : List (Nat × Instr × Nat) := [(260, .iconst (-1), 1), (261, .iconst 0, 1), (262, .invokevirtual 219, 3), (265, .return_, 1)]
theorem dtX7_viewTold_260_4_ok : dcAll cX7_viewTold dtX7_viewTold_260_4 = true := sorry
theorem dX7_viewTold_260 : decode cX7_viewTold 260 = .ok (.iconst (-1), 1) := sorry
theorem dX7_viewTold_261 : decode cX7_viewTold 261 = .ok (.iconst 0, 1) := sorry
theorem dX7_viewTold_262 : decode cX7_viewTold 262 = .ok (.invokevirtual 219, 3) := sorry
theorem dX7_viewTold_265 : decode cX7_viewTold 265 = .ok (.return_, 1) := sorry
def dtX7_plan_0_0 : List (Nat × Instr × Nat) := [(0, .aload_n 0, 1), (1, .iconst 0, 1), (2, .putfield 60, 3), (5, .aload_n 0, 1), (6, .aload_n 0, 1), (7, .getfield 71, 3), (10, .putfield 78, 3), (13, .aload_n 0, 1), (14, .iconst 0, 1), (15, .putfield 71, 3), (18, .aload_n 0, 1), (19, .getfield 78, 3), (22, .sipush 900, 3), (25, .if_icmp .le 5, 3), (28, .iconst (-1), 1), (29, .ireturn, 1), (30, .aload_n 0, 1), (31, .iconst 0, 1), (32, .putfield 184, 3), (35, .aload_n 0, 1), (36, .iconst 0, 1), (37, .putfield 81, 3), (40, .aload_n 0, 1), (41, .iconst 0, 1), (42, .putfield 84, 3), (45, .iconst 0, 1), (46, .istore_n 1, 1), (47, .aload_n 0, 1), (48, .invokevirtual 137, 3), (51, .aload_n 0, 1), (52, .getfield 81, 3), (55, .ifCond .ne 76, 3)]
theorem dtX7_plan_0_0_ok : dcAll cX7_plan dtX7_plan_0_0 = true := sorry
theorem dX7_plan_0 : decode cX7_plan 0 = .ok (.aload_n 0, 1) := sorry
theorem dX7_plan_1 : decode cX7_plan 1 = .ok (.iconst 0, 1) := sorry
theorem dX7_plan_2 : decode cX7_plan 2 = .ok (.putfield 60, 3) := sorry
theorem dX7_plan_5 : decode cX7_plan 5 = .ok (.aload_n 0, 1) := sorry
theorem dX7_plan_6 : decode cX7_plan 6 = .ok (.aload_n 0, 1) := sorry
theorem dX7_plan_7 : decode cX7_plan 7 = .ok (.getfield 71, 3) := sorry
theorem dX7_plan_10 : decode cX7_plan 10 = .ok (.putfield 78, 3) := sorry
theorem dX7_plan_13 : decode cX7_plan 13 = .ok (.aload_n 0, 1) := sorry
theorem dX7_plan_14 : decode cX7_plan 14 = .ok (.iconst 0, 1) := sorry
theorem dX7_plan_15 : decode cX7_plan 15 = .ok (.putfield 71, 3) := sorry
theorem dX7_plan_18 : decode cX7_plan 18 = .ok (.aload_n 0, 1) := sorry
theorem dX7_plan_19 : decode cX7_plan 19 = .ok (.getfield 78, 3) := sorry
theorem dX7_plan_22 : decode cX7_plan 22 = .ok (.sipush 900, 3) := sorry
theorem dX7_plan_25 : decode cX7_plan 25 = .ok (.if_icmp .le 5, 3) := sorry
theorem dX7_plan_28 : decode cX7_plan 28 = .ok (.iconst (-1), 1) := sorry
theorem dX7_plan_29 : decode cX7_plan 29 = .ok (.ireturn, 1) := sorry
theorem dX7_plan_30 : decode cX7_plan 30 = .ok (.aload_n 0, 1) := sorry
theorem dX7_plan_31 : decode cX7_plan 31 = .ok (.iconst 0, 1) := sorry
theorem dX7_plan_32 : decode cX7_plan 32 = .ok (.putfield 184, 3) := sorry
theorem dX7_plan_35 : decode cX7_plan 35 = .ok (.aload_n 0, 1) := sorry
theorem dX7_plan_36 : decode cX7_plan 36 = .ok (.iconst 0, 1) := sorry
theorem dX7_plan_37 : decode cX7_plan 37 = .ok (.putfield 81, 3) := sorry
theorem dX7_plan_40 : decode cX7_plan 40 = .ok (.aload_n 0, 1) := sorry
theorem dX7_plan_41 : decode cX7_plan 41 = .ok (.iconst 0, 1) := sorry
theorem dX7_plan_42 : decode cX7_plan 42 = .ok (.putfield 84, 3) := sorry
theorem dX7_plan_45 : decode cX7_plan 45 = .ok (.iconst 0, 1) := sorry
theorem dX7_plan_46 : decode cX7_plan 46 = .ok (.istore_n 1, 1) := sorry
theorem dX7_plan_47 : decode cX7_plan 47 = .ok (.aload_n 0, 1) := sorry
theorem dX7_plan_48 : decode cX7_plan 48 = .ok (.invokevirtual 137, 3) := sorry
theorem dX7_plan_51 : decode cX7_plan 51 = .ok (.aload_n 0, 1) := sorry
theorem dX7_plan_52 : decode cX7_plan 52 = .ok (.getfield 81, 3) := sorry
theorem dX7_plan_55 : decode cX7_plan 55 = .ok (.ifCond .ne 76, 3) := sorry
def dtX7_plan_58_1 : List (Nat × Instr × Nat) := [(58, .aload_n 0, 1), (59, .getfield 94, 3), (62, .ifCond .eq 69, 3), (65, .aload_n 0, 1), (66, .ldc 144, 2), (68, .invokevirtual 140, 3), (71, .ifCond .eq 11, 3), (74, .aload_n 0, 1), (75, .iload_n 1, 1), (76, .invokevirtual 250, 3), (79, .goto 26, 3), (82, .aload_n 0, 1), (83, .ldc 146, 2), (85, .invokevirtual 140, 3), (88, .ifCond .eq 12, 3), (91, .iconst 1, 1), (92, .istore_n 1, 1), (93, .aload_n 0, 1), (94, .invokevirtual 254, 3), (97, .goto 8, 3), (100, .aload_n 0, 1), (101, .iconst 1, 1), (102, .invokevirtual 134, 3), (105, .aload_n 0, 1), (106, .bipush 59, 2), (108, .invokevirtual 226, 3), (111, .aload_n 0, 1), (112, .getfield 81, 3), (115, .ifCond .ne (-64), 3), (118, .aload_n 0, 1), (119, .dup, 1), (120, .getfield 184, 3)]
theorem dtX7_plan_58_1_ok : dcAll cX7_plan dtX7_plan_58_1 = true := sorry
theorem dX7_plan_58 : decode cX7_plan 58 = .ok (.aload_n 0, 1) := sorry
theorem dX7_plan_59 : decode cX7_plan 59 = .ok (.getfield 94, 3) := sorry
theorem dX7_plan_62 : decode cX7_plan 62 = .ok (.ifCond .eq 69, 3) := sorry
theorem dX7_plan_65 : decode cX7_plan 65 = .ok (.aload_n 0, 1) := sorry
theorem dX7_plan_66 : decode cX7_plan 66 = .ok (.ldc 144, 2) := sorry
theorem dX7_plan_68 : decode cX7_plan 68 = .ok (.invokevirtual 140, 3) := sorry
theorem dX7_plan_71 : decode cX7_plan 71 = .ok (.ifCond .eq 11, 3) := sorry
theorem dX7_plan_74 : decode cX7_plan 74 = .ok (.aload_n 0, 1) := sorry
theorem dX7_plan_75 : decode cX7_plan 75 = .ok (.iload_n 1, 1) := sorry
theorem dX7_plan_76 : decode cX7_plan 76 = .ok (.invokevirtual 250, 3) := sorry
theorem dX7_plan_79 : decode cX7_plan 79 = .ok (.goto 26, 3) := sorry
theorem dX7_plan_82 : decode cX7_plan 82 = .ok (.aload_n 0, 1) := sorry
theorem dX7_plan_83 : decode cX7_plan 83 = .ok (.ldc 146, 2) := sorry
theorem dX7_plan_85 : decode cX7_plan 85 = .ok (.invokevirtual 140, 3) := sorry
theorem dX7_plan_88 : decode cX7_plan 88 = .ok (.ifCond .eq 12, 3) := sorry
theorem dX7_plan_91 : decode cX7_plan 91 = .ok (.iconst 1, 1) := sorry
theorem dX7_plan_92 : decode cX7_plan 92 = .ok (.istore_n 1, 1) := sorry
theorem dX7_plan_93 : decode cX7_plan 93 = .ok (.aload_n 0, 1) := sorry
theorem dX7_plan_94 : decode cX7_plan 94 = .ok (.invokevirtual 254, 3) := sorry
theorem dX7_plan_97 : decode cX7_plan 97 = .ok (.goto 8, 3) := sorry
theorem dX7_plan_100 : decode cX7_plan 100 = .ok (.aload_n 0, 1) := sorry
theorem dX7_plan_101 : decode cX7_plan 101 = .ok (.iconst 1, 1) := sorry
theorem dX7_plan_102 : decode cX7_plan 102 = .ok (.invokevirtual 134, 3) := sorry
theorem dX7_plan_105 : decode cX7_plan 105 = .ok (.aload_n 0, 1) := sorry
theorem dX7_plan_106 : decode cX7_plan 106 = .ok (.bipush 59, 2) := sorry
theorem dX7_plan_108 : decode cX7_plan 108 = .ok (.invokevirtual 226, 3) := sorry
theorem dX7_plan_111 : decode cX7_plan 111 = .ok (.aload_n 0, 1) := sorry
theorem dX7_plan_112 : decode cX7_plan 112 = .ok (.getfield 81, 3) := sorry
theorem dX7_plan_115 : decode cX7_plan 115 = .ok (.ifCond .ne (-64), 3) := sorry
theorem dX7_plan_118 : decode cX7_plan 118 = .ok (.aload_n 0, 1) := sorry
theorem dX7_plan_119 : decode cX7_plan 119 = .ok (.dup, 1) := sorry
theorem dX7_plan_120 : decode cX7_plan 120 = .ok (.getfield 184, 3) := sorry
def dtX7_plan_123_2 : List (Nat × Instr × Nat) := [(123, .iconst 1, 1), (124, .iadd, 1), (125, .putfield 184, 3), (128, .goto (-77), 3), (131, .aload_n 0, 1), (132, .getfield 81, 3), (135, .ifCond .le 11, 3), (138, .bipush (-2), 2), (140, .aload_n 0, 1), (141, .getfield 81, 3), (144, .isub, 1), (145, .ireturn, 1), (146, .aload_n 0, 1), (147, .aload_n 0, 1), (148, .getfield 184, 3), (151, .putfield 64, 3), (154, .iconst 0, 1), (155, .istore_n 2, 1), (156, .iload_n 2, 1), (157, .sipush 640, 3), (160, .if_icmp .ge 21, 3), (163, .aload_n 0, 1), (164, .getfield 7, 3), (167, .iload_n 2, 1), (168, .aload_n 0, 1), (169, .getfield 17, 3), (172, .iload_n 2, 1), (173, .iaload, 1), (174, .iastore, 1), (175, .iinc 2 1, 3), (178, .goto (-22), 3), (181, .iconst 0, 1)]
theorem dtX7_plan_123_2_ok : dcAll cX7_plan dtX7_plan_123_2 = true := sorry
theorem dX7_plan_123 : decode cX7_plan 123 = .ok (.iconst 1, 1) := sorry
theorem dX7_plan_124 : decode cX7_plan 124 = .ok (.iadd, 1) := sorry
theorem dX7_plan_125 : decode cX7_plan 125 = .ok (.putfield 184, 3) := sorry
theorem dX7_plan_128 : decode cX7_plan 128 = .ok (.goto (-77), 3) := sorry
theorem dX7_plan_131 : decode cX7_plan 131 = .ok (.aload_n 0, 1) := sorry
theorem dX7_plan_132 : decode cX7_plan 132 = .ok (.getfield 81, 3) := sorry
theorem dX7_plan_135 : decode cX7_plan 135 = .ok (.ifCond .le 11, 3) := sorry
theorem dX7_plan_138 : decode cX7_plan 138 = .ok (.bipush (-2), 2) := sorry
theorem dX7_plan_140 : decode cX7_plan 140 = .ok (.aload_n 0, 1) := sorry
theorem dX7_plan_141 : decode cX7_plan 141 = .ok (.getfield 81, 3) := sorry
theorem dX7_plan_144 : decode cX7_plan 144 = .ok (.isub, 1) := sorry
theorem dX7_plan_145 : decode cX7_plan 145 = .ok (.ireturn, 1) := sorry
theorem dX7_plan_146 : decode cX7_plan 146 = .ok (.aload_n 0, 1) := sorry
theorem dX7_plan_147 : decode cX7_plan 147 = .ok (.aload_n 0, 1) := sorry
theorem dX7_plan_148 : decode cX7_plan 148 = .ok (.getfield 184, 3) := sorry
theorem dX7_plan_151 : decode cX7_plan 151 = .ok (.putfield 64, 3) := sorry
theorem dX7_plan_154 : decode cX7_plan 154 = .ok (.iconst 0, 1) := sorry
theorem dX7_plan_155 : decode cX7_plan 155 = .ok (.istore_n 2, 1) := sorry
theorem dX7_plan_156 : decode cX7_plan 156 = .ok (.iload_n 2, 1) := sorry
theorem dX7_plan_157 : decode cX7_plan 157 = .ok (.sipush 640, 3) := sorry
theorem dX7_plan_160 : decode cX7_plan 160 = .ok (.if_icmp .ge 21, 3) := sorry
theorem dX7_plan_163 : decode cX7_plan 163 = .ok (.aload_n 0, 1) := sorry
theorem dX7_plan_164 : decode cX7_plan 164 = .ok (.getfield 7, 3) := sorry
theorem dX7_plan_167 : decode cX7_plan 167 = .ok (.iload_n 2, 1) := sorry
theorem dX7_plan_168 : decode cX7_plan 168 = .ok (.aload_n 0, 1) := sorry
theorem dX7_plan_169 : decode cX7_plan 169 = .ok (.getfield 17, 3) := sorry
theorem dX7_plan_172 : decode cX7_plan 172 = .ok (.iload_n 2, 1) := sorry
theorem dX7_plan_173 : decode cX7_plan 173 = .ok (.iaload, 1) := sorry
theorem dX7_plan_174 : decode cX7_plan 174 = .ok (.iastore, 1) := sorry
theorem dX7_plan_175 : decode cX7_plan 175 = .ok (.iinc 2 1, 3) := sorry
theorem dX7_plan_178 : decode cX7_plan 178 = .ok (.goto (-22), 3) := sorry
theorem dX7_plan_181 : decode cX7_plan 181 = .ok (.iconst 0, 1) := sorry
def dtX7_plan_182_3 : List (Nat × Instr × Nat) := [(182, .istore_n 2, 1), (183, .iload_n 2, 1), (184, .bipush 16, 2), (186, .if_icmp .ge 21, 3), (189, .aload_n 0, 1), (190, .getfield 13, 3), (193, .iload_n 2, 1), (194, .aload_n 0, 1), (195, .getfield 20, 3), (198, .iload_n 2, 1), (199, .laload, 1), (200, .lastore, 1), (201, .iinc 2 1, 3), (204, .goto (-21), 3), (207, .iconst 0, 1), (208, .istore_n 2, 1), (209, .iload_n 2, 1), (210, .sipush 176, 3), (213, .if_icmp .ge 16, 3), (216, .aload_n 0, 1), (217, .getfield 27, 3), (220, .iload_n 2, 1), (221, .iconst 0, 1), (222, .iastore, 1), (223, .iinc 2 1, 3), (226, .goto (-17), 3), (229, .iconst 0, 1), (230, .istore_n 2, 1), (231, .iload_n 2, 1), (232, .bipush 16, 2), (234, .if_icmp .ge 18, 3), (237, .aload_n 0, 1)]
theorem dtX7_plan_182_3_ok : dcAll cX7_plan dtX7_plan_182_3 = true := sorry
theorem dX7_plan_182 : decode cX7_plan 182 = .ok (.istore_n 2, 1) := sorry
theorem dX7_plan_183 : decode cX7_plan 183 = .ok (.iload_n 2, 1) := sorry
theorem dX7_plan_184 : decode cX7_plan 184 = .ok (.bipush 16, 2) := sorry
theorem dX7_plan_186 : decode cX7_plan 186 = .ok (.if_icmp .ge 21, 3) := sorry
theorem dX7_plan_189 : decode cX7_plan 189 = .ok (.aload_n 0, 1) := sorry
theorem dX7_plan_190 : decode cX7_plan 190 = .ok (.getfield 13, 3) := sorry
theorem dX7_plan_193 : decode cX7_plan 193 = .ok (.iload_n 2, 1) := sorry
theorem dX7_plan_194 : decode cX7_plan 194 = .ok (.aload_n 0, 1) := sorry
theorem dX7_plan_195 : decode cX7_plan 195 = .ok (.getfield 20, 3) := sorry
theorem dX7_plan_198 : decode cX7_plan 198 = .ok (.iload_n 2, 1) := sorry
theorem dX7_plan_199 : decode cX7_plan 199 = .ok (.laload, 1) := sorry
theorem dX7_plan_200 : decode cX7_plan 200 = .ok (.lastore, 1) := sorry
theorem dX7_plan_201 : decode cX7_plan 201 = .ok (.iinc 2 1, 3) := sorry
theorem dX7_plan_204 : decode cX7_plan 204 = .ok (.goto (-21), 3) := sorry
theorem dX7_plan_207 : decode cX7_plan 207 = .ok (.iconst 0, 1) := sorry
theorem dX7_plan_208 : decode cX7_plan 208 = .ok (.istore_n 2, 1) := sorry
theorem dX7_plan_209 : decode cX7_plan 209 = .ok (.iload_n 2, 1) := sorry
theorem dX7_plan_210 : decode cX7_plan 210 = .ok (.sipush 176, 3) := sorry
theorem dX7_plan_213 : decode cX7_plan 213 = .ok (.if_icmp .ge 16, 3) := sorry
theorem dX7_plan_216 : decode cX7_plan 216 = .ok (.aload_n 0, 1) := sorry
theorem dX7_plan_217 : decode cX7_plan 217 = .ok (.getfield 27, 3) := sorry
theorem dX7_plan_220 : decode cX7_plan 220 = .ok (.iload_n 2, 1) := sorry
theorem dX7_plan_221 : decode cX7_plan 221 = .ok (.iconst 0, 1) := sorry
theorem dX7_plan_222 : decode cX7_plan 222 = .ok (.iastore, 1) := sorry
theorem dX7_plan_223 : decode cX7_plan 223 = .ok (.iinc 2 1, 3) := sorry
theorem dX7_plan_226 : decode cX7_plan 226 = .ok (.goto (-17), 3) := sorry
theorem dX7_plan_229 : decode cX7_plan 229 = .ok (.iconst 0, 1) := sorry
theorem dX7_plan_230 : decode cX7_plan 230 = .ok (.istore_n 2, 1) := sorry
theorem dX7_plan_231 : decode cX7_plan 231 = .ok (.iload_n 2, 1) := sorry
theorem dX7_plan_232 : decode cX7_plan 232 = .ok (.bipush 16, 2) := sorry
theorem dX7_plan_234 : decode cX7_plan 234 = .ok (.if_icmp .ge 18, 3) := sorry
theorem dX7_plan_237 : decode cX7_plan 237 = .ok (.aload_n 0, 1) := sorry
def dtX7_plan_238_4 : List (Nat × Instr × Nat) := [(238, .getfield 51, 3), (241, .iconst 0, 1), (242, .iload_n 2, 1), (243, .iadd, 1), (244, .iconst 0, 1), (245, .iastore, 1), (246, .iinc 2 1, 3), (249, .goto (-18), 3), (252, .aload_n 0, 1), (253, .iconst 0, 1), (254, .putfield 257, 3), (257, .aload_n 0, 1), (258, .iconst 0, 1), (259, .putfield 260, 3), (262, .aload_n 0, 1), (263, .iconst 0, 1), (264, .putfield 263, 3), (267, .aload_n 0, 1), (268, .iconst 0, 1), (269, .putfield 266, 3), (272, .aload_n 0, 1), (273, .getfield 64, 3), (276, .ireturn, 1)]
theorem dtX7_plan_238_4_ok : dcAll cX7_plan dtX7_plan_238_4 = true := sorry
theorem dX7_plan_238 : decode cX7_plan 238 = .ok (.getfield 51, 3) := sorry
theorem dX7_plan_241 : decode cX7_plan 241 = .ok (.iconst 0, 1) := sorry
theorem dX7_plan_242 : decode cX7_plan 242 = .ok (.iload_n 2, 1) := sorry
theorem dX7_plan_243 : decode cX7_plan 243 = .ok (.iadd, 1) := sorry
theorem dX7_plan_244 : decode cX7_plan 244 = .ok (.iconst 0, 1) := sorry
theorem dX7_plan_245 : decode cX7_plan 245 = .ok (.iastore, 1) := sorry
theorem dX7_plan_246 : decode cX7_plan 246 = .ok (.iinc 2 1, 3) := sorry
theorem dX7_plan_249 : decode cX7_plan 249 = .ok (.goto (-18), 3) := sorry
theorem dX7_plan_252 : decode cX7_plan 252 = .ok (.aload_n 0, 1) := sorry
theorem dX7_plan_253 : decode cX7_plan 253 = .ok (.iconst 0, 1) := sorry
theorem dX7_plan_254 : decode cX7_plan 254 = .ok (.putfield 257, 3) := sorry
theorem dX7_plan_257 : decode cX7_plan 257 = .ok (.aload_n 0, 1) := sorry
theorem dX7_plan_258 : decode cX7_plan 258 = .ok (.iconst 0, 1) := sorry
theorem dX7_plan_259 : decode cX7_plan 259 = .ok (.putfield 260, 3) := sorry
theorem dX7_plan_262 : decode cX7_plan 262 = .ok (.aload_n 0, 1) := sorry
theorem dX7_plan_263 : decode cX7_plan 263 = .ok (.iconst 0, 1) := sorry
theorem dX7_plan_264 : decode cX7_plan 264 = .ok (.putfield 263, 3) := sorry
theorem dX7_plan_267 : decode cX7_plan 267 = .ok (.aload_n 0, 1) := sorry
theorem dX7_plan_268 : decode cX7_plan 268 = .ok (.iconst 0, 1) := sorry
theorem dX7_plan_269 : decode cX7_plan 269 = .ok (.putfield 266, 3) := sorry
theorem dX7_plan_272 : decode cX7_plan 272 = .ok (.aload_n 0, 1) := sorry
theorem dX7_plan_273 : decode cX7_plan 273 = .ok (.getfield 64, 3) := sorry
theorem dX7_plan_276 : decode cX7_plan 276 = .ok (.ireturn, 1) := sorry
def dtX7_compare_0_0 : List (Nat × Instr × Nat) := [(0, .iconst 0, 1), (1, .istore 4, 2), (3, .iload 4, 2), (5, .iconst 4, 1), (6, .if_icmp .ge 45, 3), (9, .aload_n 0, 1), (10, .iload_n 1, 1), (11, .iload 4, 2), (13, .iadd, 1), (14, .iaload, 1), (15, .aload_n 2, 1), (16, .iload_n 3, 1), (17, .iload 4, 2), (19, .iadd, 1), (20, .iaload, 1), (21, .if_icmp .eq 24, 3), (24, .aload_n 0, 1), (25, .iload_n 1, 1), (26, .iload 4, 2), (28, .iadd, 1), (29, .iaload, 1), (30, .aload_n 2, 1), (31, .iload_n 3, 1), (32, .iload 4, 2), (34, .iadd, 1), (35, .iaload, 1), (36, .if_icmp .ge 7, 3), (39, .iconst (-1), 1), (40, .goto 4, 3), (43, .iconst 1, 1), (44, .ireturn, 1), (45, .iinc 4 1, 3)]
theorem dtX7_compare_0_0_ok : dcAll cX7_compare dtX7_compare_0_0 = true := sorry
theorem dX7_compare_0 : decode cX7_compare 0 = .ok (.iconst 0, 1) := sorry
theorem dX7_compare_1 : decode cX7_compare 1 = .ok (.istore 4, 2) := sorry
theorem dX7_compare_3 : decode cX7_compare 3 = .ok (.iload 4, 2) := sorry
theorem dX7_compare_5 : decode cX7_compare 5 = .ok (.iconst 4, 1) := sorry
theorem dX7_compare_6 : decode cX7_compare 6 = .ok (.if_icmp .ge 45, 3) := sorry
theorem dX7_compare_9 : decode cX7_compare 9 = .ok (.aload_n 0, 1) := sorry
theorem dX7_compare_10 : decode cX7_compare 10 = .ok (.iload_n 1, 1) := sorry
theorem dX7_compare_11 : decode cX7_compare 11 = .ok (.iload 4, 2) := sorry
theorem dX7_compare_13 : decode cX7_compare 13 = .ok (.iadd, 1) := sorry
theorem dX7_compare_14 : decode cX7_compare 14 = .ok (.iaload, 1) := sorry
theorem dX7_compare_15 : decode cX7_compare 15 = .ok (.aload_n 2, 1) := sorry
theorem dX7_compare_16 : decode cX7_compare 16 = .ok (.iload_n 3, 1) := sorry
theorem dX7_compare_17 : decode cX7_compare 17 = .ok (.iload 4, 2) := sorry
theorem dX7_compare_19 : decode cX7_compare 19 = .ok (.iadd, 1) := sorry
theorem dX7_compare_20 : decode cX7_compare 20 = .ok (.iaload, 1) := sorry
theorem dX7_compare_21 : decode cX7_compare 21 = .ok (.if_icmp .eq 24, 3) := sorry
theorem dX7_compare_24 : decode cX7_compare 24 = .ok (.aload_n 0, 1) := sorry
theorem dX7_compare_25 : decode cX7_compare 25 = .ok (.iload_n 1, 1) := sorry
theorem dX7_compare_26 : decode cX7_compare 26 = .ok (.iload 4, 2) := sorry
theorem dX7_compare_28 : decode cX7_compare 28 = .ok (.iadd, 1) := sorry
theorem dX7_compare_29 : decode cX7_compare 29 = .ok (.iaload, 1) := sorry
theorem dX7_compare_30 : decode cX7_compare 30 = .ok (.aload_n 2, 1) := sorry
theorem dX7_compare_31 : decode cX7_compare 31 = .ok (.iload_n 3, 1) := sorry
theorem dX7_compare_32 : decode cX7_compare 32 = .ok (.iload 4, 2) := sorry
theorem dX7_compare_34 : decode cX7_compare 34 = .ok (.iadd, 1) := sorry
theorem dX7_compare_35 : decode cX7_compare 35 = .ok (.iaload, 1) := sorry
theorem dX7_compare_36 : decode cX7_compare 36 = .ok (.if_icmp .ge 7, 3) := sorry
theorem dX7_compare_39 : decode cX7_compare 39 = .ok (.iconst (-1), 1) := sorry
theorem dX7_compare_40 : decode cX7_compare 40 = .ok (.goto 4, 3) := sorry
theorem dX7_compare_43 : decode cX7_compare 43 = .ok (.iconst 1, 1) := sorry
theorem dX7_compare_44 : decode cX7_compare 44 = .ok (.ireturn, 1) := sorry
theorem dX7_compare_45 : decode cX7_compare 45 = .ok (.iinc 4 1, 3) := sorry
def dtX7_compare_48_1 : List (Nat × Instr × Nat) := [(48, .goto (-45), 3), (51, .iconst 0, 1), (52, .ireturn, 1)]
theorem dtX7_compare_48_1_ok : dcAll cX7_compare dtX7_compare_48_1 = true := sorry
theorem dX7_compare_48 : decode cX7_compare 48 = .ok (.goto (-45), 3) := sorry
theorem dX7_compare_51 : decode cX7_compare 51 = .ok (.iconst 0, 1) := sorry
theorem dX7_compare_52 : decode cX7_compare 52 = .ok (.ireturn, 1) := sorry
def dtX7_placeOf_0_0 : List (Nat × Instr × Nat) := [(0, .iconst 0, 1), (1, .istore_n 1, 1), (2, .aload_n 0, 1), (3, .getfield 269, 3), (6, .istore_n 2, 1), (7, .iload_n 1, 1), (8, .iload_n 2, 1), (9, .if_icmp .ge 40, 3), (12, .iload_n 1, 1), (13, .iload_n 2, 1), (14, .iadd, 1), (15, .iconst 2, 1), (16, .idiv, 1), (17, .istore_n 3, 1), (18, .aload_n 0, 1), (19, .getfield 42, 3), (22, .bipush 6, 2), (24, .iload_n 3, 1), (25, .imul, 1), (26, .aload_n 0, 1), (27, .getfield 45, 3), (30, .iconst 0, 1), (31, .invokestatic 272, 3), (34, .ifCond .ge 10, 3), (37, .iload_n 3, 1), (38, .iconst 1, 1), (39, .iadd, 1), (40, .istore_n 1, 1), (41, .goto 5, 3), (44, .iload_n 3, 1), (45, .istore_n 2, 1), (46, .goto (-39), 3)]
theorem dtX7_placeOf_0_0_ok : dcAll cX7_placeOf dtX7_placeOf_0_0 = true := sorry
theorem dX7_placeOf_0 : decode cX7_placeOf 0 = .ok (.iconst 0, 1) := sorry
theorem dX7_placeOf_1 : decode cX7_placeOf 1 = .ok (.istore_n 1, 1) := sorry
theorem dX7_placeOf_2 : decode cX7_placeOf 2 = .ok (.aload_n 0, 1) := sorry
theorem dX7_placeOf_3 : decode cX7_placeOf 3 = .ok (.getfield 269, 3) := sorry
theorem dX7_placeOf_6 : decode cX7_placeOf 6 = .ok (.istore_n 2, 1) := sorry
theorem dX7_placeOf_7 : decode cX7_placeOf 7 = .ok (.iload_n 1, 1) := sorry
theorem dX7_placeOf_8 : decode cX7_placeOf 8 = .ok (.iload_n 2, 1) := sorry
theorem dX7_placeOf_9 : decode cX7_placeOf 9 = .ok (.if_icmp .ge 40, 3) := sorry
theorem dX7_placeOf_12 : decode cX7_placeOf 12 = .ok (.iload_n 1, 1) := sorry
theorem dX7_placeOf_13 : decode cX7_placeOf 13 = .ok (.iload_n 2, 1) := sorry
theorem dX7_placeOf_14 : decode cX7_placeOf 14 = .ok (.iadd, 1) := sorry
theorem dX7_placeOf_15 : decode cX7_placeOf 15 = .ok (.iconst 2, 1) := sorry
theorem dX7_placeOf_16 : decode cX7_placeOf 16 = .ok (.idiv, 1) := sorry
theorem dX7_placeOf_17 : decode cX7_placeOf 17 = .ok (.istore_n 3, 1) := sorry
theorem dX7_placeOf_18 : decode cX7_placeOf 18 = .ok (.aload_n 0, 1) := sorry
theorem dX7_placeOf_19 : decode cX7_placeOf 19 = .ok (.getfield 42, 3) := sorry
theorem dX7_placeOf_22 : decode cX7_placeOf 22 = .ok (.bipush 6, 2) := sorry
theorem dX7_placeOf_24 : decode cX7_placeOf 24 = .ok (.iload_n 3, 1) := sorry
theorem dX7_placeOf_25 : decode cX7_placeOf 25 = .ok (.imul, 1) := sorry
theorem dX7_placeOf_26 : decode cX7_placeOf 26 = .ok (.aload_n 0, 1) := sorry
theorem dX7_placeOf_27 : decode cX7_placeOf 27 = .ok (.getfield 45, 3) := sorry
theorem dX7_placeOf_30 : decode cX7_placeOf 30 = .ok (.iconst 0, 1) := sorry
theorem dX7_placeOf_31 : decode cX7_placeOf 31 = .ok (.invokestatic 272, 3) := sorry
theorem dX7_placeOf_34 : decode cX7_placeOf 34 = .ok (.ifCond .ge 10, 3) := sorry
theorem dX7_placeOf_37 : decode cX7_placeOf 37 = .ok (.iload_n 3, 1) := sorry
theorem dX7_placeOf_38 : decode cX7_placeOf 38 = .ok (.iconst 1, 1) := sorry
theorem dX7_placeOf_39 : decode cX7_placeOf 39 = .ok (.iadd, 1) := sorry
theorem dX7_placeOf_40 : decode cX7_placeOf 40 = .ok (.istore_n 1, 1) := sorry
theorem dX7_placeOf_41 : decode cX7_placeOf 41 = .ok (.goto 5, 3) := sorry
theorem dX7_placeOf_44 : decode cX7_placeOf 44 = .ok (.iload_n 3, 1) := sorry
theorem dX7_placeOf_45 : decode cX7_placeOf 45 = .ok (.istore_n 2, 1) := sorry
theorem dX7_placeOf_46 : decode cX7_placeOf 46 = .ok (.goto (-39), 3) := sorry
def dtX7_placeOf_49_1 : List (Nat × Instr × Nat) := [(49, .iload_n 1, 1), (50, .ireturn, 1)]
theorem dtX7_placeOf_49_1_ok : dcAll cX7_placeOf dtX7_placeOf_49_1 = true := sorry
theorem dX7_placeOf_49 : decode cX7_placeOf 49 = .ok (.iload_n 1, 1) := sorry
theorem dX7_placeOf_50 : decode cX7_placeOf 50 = .ok (.ireturn, 1) := sorry
def dtX7_gathers_0_0 : List (Nat × Instr × Nat) := [(0, .aload_n 0, 1), (1, .invokevirtual 276, 3), (4, .istore_n 3, 1), (5, .iload_n 3, 1), (6, .aload_n 0, 1), (7, .getfield 269, 3), (10, .if_icmp .ge 39, 3), (13, .aload_n 0, 1), (14, .getfield 42, 3), (17, .bipush 6, 2), (19, .iload_n 3, 1), (20, .imul, 1), (21, .aload_n 0, 1), (22, .getfield 45, 3), (25, .iconst 0, 1), (26, .invokestatic 272, 3), (29, .ifCond .ne 20, 3), (32, .aload_n 0, 1), (33, .getfield 42, 3), (36, .bipush 6, 2), (38, .iload_n 3, 1), (39, .imul, 1), (40, .iconst 4, 1), (41, .iadd, 1), (42, .dup2, 1), (43, .iaload, 1), (44, .iload_n 1, 1), (45, .iadd, 1), (46, .iastore, 1), (47, .iconst 0, 1), (48, .ireturn, 1), (49, .bipush 6, 2)]
theorem dtX7_gathers_0_0_ok : dcAll cX7_gathers dtX7_gathers_0_0 = true := sorry
theorem dX7_gathers_0 : decode cX7_gathers 0 = .ok (.aload_n 0, 1) := sorry
theorem dX7_gathers_1 : decode cX7_gathers 1 = .ok (.invokevirtual 276, 3) := sorry
theorem dX7_gathers_4 : decode cX7_gathers 4 = .ok (.istore_n 3, 1) := sorry
theorem dX7_gathers_5 : decode cX7_gathers 5 = .ok (.iload_n 3, 1) := sorry
theorem dX7_gathers_6 : decode cX7_gathers 6 = .ok (.aload_n 0, 1) := sorry
theorem dX7_gathers_7 : decode cX7_gathers 7 = .ok (.getfield 269, 3) := sorry
theorem dX7_gathers_10 : decode cX7_gathers 10 = .ok (.if_icmp .ge 39, 3) := sorry
theorem dX7_gathers_13 : decode cX7_gathers 13 = .ok (.aload_n 0, 1) := sorry
theorem dX7_gathers_14 : decode cX7_gathers 14 = .ok (.getfield 42, 3) := sorry
theorem dX7_gathers_17 : decode cX7_gathers 17 = .ok (.bipush 6, 2) := sorry
theorem dX7_gathers_19 : decode cX7_gathers 19 = .ok (.iload_n 3, 1) := sorry
theorem dX7_gathers_20 : decode cX7_gathers 20 = .ok (.imul, 1) := sorry
theorem dX7_gathers_21 : decode cX7_gathers 21 = .ok (.aload_n 0, 1) := sorry
theorem dX7_gathers_22 : decode cX7_gathers 22 = .ok (.getfield 45, 3) := sorry
theorem dX7_gathers_25 : decode cX7_gathers 25 = .ok (.iconst 0, 1) := sorry
theorem dX7_gathers_26 : decode cX7_gathers 26 = .ok (.invokestatic 272, 3) := sorry
theorem dX7_gathers_29 : decode cX7_gathers 29 = .ok (.ifCond .ne 20, 3) := sorry
theorem dX7_gathers_32 : decode cX7_gathers 32 = .ok (.aload_n 0, 1) := sorry
theorem dX7_gathers_33 : decode cX7_gathers 33 = .ok (.getfield 42, 3) := sorry
theorem dX7_gathers_36 : decode cX7_gathers 36 = .ok (.bipush 6, 2) := sorry
theorem dX7_gathers_38 : decode cX7_gathers 38 = .ok (.iload_n 3, 1) := sorry
theorem dX7_gathers_39 : decode cX7_gathers 39 = .ok (.imul, 1) := sorry
theorem dX7_gathers_40 : decode cX7_gathers 40 = .ok (.iconst 4, 1) := sorry
theorem dX7_gathers_41 : decode cX7_gathers 41 = .ok (.iadd, 1) := sorry
theorem dX7_gathers_42 : decode cX7_gathers 42 = .ok (.dup2, 1) := sorry
theorem dX7_gathers_43 : decode cX7_gathers 43 = .ok (.iaload, 1) := sorry
theorem dX7_gathers_44 : decode cX7_gathers 44 = .ok (.iload_n 1, 1) := sorry
theorem dX7_gathers_45 : decode cX7_gathers 45 = .ok (.iadd, 1) := sorry
theorem dX7_gathers_46 : decode cX7_gathers 46 = .ok (.iastore, 1) := sorry
theorem dX7_gathers_47 : decode cX7_gathers 47 = .ok (.iconst 0, 1) := sorry
theorem dX7_gathers_48 : decode cX7_gathers 48 = .ok (.ireturn, 1) := sorry
theorem dX7_gathers_49 : decode cX7_gathers 49 = .ok (.bipush 6, 2) := sorry
def dtX7_gathers_51_1 : List (Nat × Instr × Nat) := [(51, .aload_n 0, 1), (52, .getfield 269, 3), (55, .imul, 1), (56, .iconst 1, 1), (57, .isub, 1), (58, .istore 4, 2), (60, .iload 4, 2), (62, .bipush 6, 2), (64, .iload_n 3, 1), (65, .imul, 1), (66, .if_icmp .lt 26, 3), (69, .aload_n 0, 1), (70, .getfield 42, 3), (73, .iload 4, 2), (75, .bipush 6, 2), (77, .iadd, 1), (78, .aload_n 0, 1), (79, .getfield 42, 3), (82, .iload 4, 2), (84, .iaload, 1), (85, .iastore, 1), (86, .iinc 4 (-1), 3), (89, .goto (-29), 3), (92, .iconst 0, 1), (93, .istore 4, 2), (95, .iload 4, 2), (97, .iconst 4, 1), (98, .if_icmp .ge 28, 3), (101, .aload_n 0, 1), (102, .getfield 42, 3), (105, .bipush 6, 2), (107, .iload_n 3, 1)]
theorem dtX7_gathers_51_1_ok : dcAll cX7_gathers dtX7_gathers_51_1 = true := sorry
theorem dX7_gathers_51 : decode cX7_gathers 51 = .ok (.aload_n 0, 1) := sorry
theorem dX7_gathers_52 : decode cX7_gathers 52 = .ok (.getfield 269, 3) := sorry
theorem dX7_gathers_55 : decode cX7_gathers 55 = .ok (.imul, 1) := sorry
theorem dX7_gathers_56 : decode cX7_gathers 56 = .ok (.iconst 1, 1) := sorry
theorem dX7_gathers_57 : decode cX7_gathers 57 = .ok (.isub, 1) := sorry
theorem dX7_gathers_58 : decode cX7_gathers 58 = .ok (.istore 4, 2) := sorry
theorem dX7_gathers_60 : decode cX7_gathers 60 = .ok (.iload 4, 2) := sorry
theorem dX7_gathers_62 : decode cX7_gathers 62 = .ok (.bipush 6, 2) := sorry
theorem dX7_gathers_64 : decode cX7_gathers 64 = .ok (.iload_n 3, 1) := sorry
theorem dX7_gathers_65 : decode cX7_gathers 65 = .ok (.imul, 1) := sorry
theorem dX7_gathers_66 : decode cX7_gathers 66 = .ok (.if_icmp .lt 26, 3) := sorry
theorem dX7_gathers_69 : decode cX7_gathers 69 = .ok (.aload_n 0, 1) := sorry
theorem dX7_gathers_70 : decode cX7_gathers 70 = .ok (.getfield 42, 3) := sorry
theorem dX7_gathers_73 : decode cX7_gathers 73 = .ok (.iload 4, 2) := sorry
theorem dX7_gathers_75 : decode cX7_gathers 75 = .ok (.bipush 6, 2) := sorry
theorem dX7_gathers_77 : decode cX7_gathers 77 = .ok (.iadd, 1) := sorry
theorem dX7_gathers_78 : decode cX7_gathers 78 = .ok (.aload_n 0, 1) := sorry
theorem dX7_gathers_79 : decode cX7_gathers 79 = .ok (.getfield 42, 3) := sorry
theorem dX7_gathers_82 : decode cX7_gathers 82 = .ok (.iload 4, 2) := sorry
theorem dX7_gathers_84 : decode cX7_gathers 84 = .ok (.iaload, 1) := sorry
theorem dX7_gathers_85 : decode cX7_gathers 85 = .ok (.iastore, 1) := sorry
theorem dX7_gathers_86 : decode cX7_gathers 86 = .ok (.iinc 4 (-1), 3) := sorry
theorem dX7_gathers_89 : decode cX7_gathers 89 = .ok (.goto (-29), 3) := sorry
theorem dX7_gathers_92 : decode cX7_gathers 92 = .ok (.iconst 0, 1) := sorry
theorem dX7_gathers_93 : decode cX7_gathers 93 = .ok (.istore 4, 2) := sorry
theorem dX7_gathers_95 : decode cX7_gathers 95 = .ok (.iload 4, 2) := sorry
theorem dX7_gathers_97 : decode cX7_gathers 97 = .ok (.iconst 4, 1) := sorry
theorem dX7_gathers_98 : decode cX7_gathers 98 = .ok (.if_icmp .ge 28, 3) := sorry
theorem dX7_gathers_101 : decode cX7_gathers 101 = .ok (.aload_n 0, 1) := sorry
theorem dX7_gathers_102 : decode cX7_gathers 102 = .ok (.getfield 42, 3) := sorry
theorem dX7_gathers_105 : decode cX7_gathers 105 = .ok (.bipush 6, 2) := sorry
theorem dX7_gathers_107 : decode cX7_gathers 107 = .ok (.iload_n 3, 1) := sorry
def dtX7_gathers_108_2 : List (Nat × Instr × Nat) := [(108, .imul, 1), (109, .iload 4, 2), (111, .iadd, 1), (112, .aload_n 0, 1), (113, .getfield 45, 3), (116, .iload 4, 2), (118, .iaload, 1), (119, .iastore, 1), (120, .iinc 4 1, 3), (123, .goto (-28), 3), (126, .aload_n 0, 1), (127, .getfield 42, 3), (130, .bipush 6, 2), (132, .iload_n 3, 1), (133, .imul, 1), (134, .iconst 4, 1), (135, .iadd, 1), (136, .iload_n 1, 1), (137, .iastore, 1), (138, .aload_n 0, 1), (139, .getfield 42, 3), (142, .bipush 6, 2), (144, .iload_n 3, 1), (145, .imul, 1), (146, .iconst 5, 1), (147, .iadd, 1), (148, .iload_n 2, 1), (149, .iastore, 1), (150, .aload_n 0, 1), (151, .dup, 1), (152, .getfield 269, 3), (155, .iconst 1, 1)]
theorem dtX7_gathers_108_2_ok : dcAll cX7_gathers dtX7_gathers_108_2 = true := sorry
theorem dX7_gathers_108 : decode cX7_gathers 108 = .ok (.imul, 1) := sorry
theorem dX7_gathers_109 : decode cX7_gathers 109 = .ok (.iload 4, 2) := sorry
theorem dX7_gathers_111 : decode cX7_gathers 111 = .ok (.iadd, 1) := sorry
theorem dX7_gathers_112 : decode cX7_gathers 112 = .ok (.aload_n 0, 1) := sorry
theorem dX7_gathers_113 : decode cX7_gathers 113 = .ok (.getfield 45, 3) := sorry
theorem dX7_gathers_116 : decode cX7_gathers 116 = .ok (.iload 4, 2) := sorry
theorem dX7_gathers_118 : decode cX7_gathers 118 = .ok (.iaload, 1) := sorry
theorem dX7_gathers_119 : decode cX7_gathers 119 = .ok (.iastore, 1) := sorry
theorem dX7_gathers_120 : decode cX7_gathers 120 = .ok (.iinc 4 1, 3) := sorry
theorem dX7_gathers_123 : decode cX7_gathers 123 = .ok (.goto (-28), 3) := sorry
theorem dX7_gathers_126 : decode cX7_gathers 126 = .ok (.aload_n 0, 1) := sorry
theorem dX7_gathers_127 : decode cX7_gathers 127 = .ok (.getfield 42, 3) := sorry
theorem dX7_gathers_130 : decode cX7_gathers 130 = .ok (.bipush 6, 2) := sorry
theorem dX7_gathers_132 : decode cX7_gathers 132 = .ok (.iload_n 3, 1) := sorry
theorem dX7_gathers_133 : decode cX7_gathers 133 = .ok (.imul, 1) := sorry
theorem dX7_gathers_134 : decode cX7_gathers 134 = .ok (.iconst 4, 1) := sorry
theorem dX7_gathers_135 : decode cX7_gathers 135 = .ok (.iadd, 1) := sorry
theorem dX7_gathers_136 : decode cX7_gathers 136 = .ok (.iload_n 1, 1) := sorry
theorem dX7_gathers_137 : decode cX7_gathers 137 = .ok (.iastore, 1) := sorry
theorem dX7_gathers_138 : decode cX7_gathers 138 = .ok (.aload_n 0, 1) := sorry
theorem dX7_gathers_139 : decode cX7_gathers 139 = .ok (.getfield 42, 3) := sorry
theorem dX7_gathers_142 : decode cX7_gathers 142 = .ok (.bipush 6, 2) := sorry
theorem dX7_gathers_144 : decode cX7_gathers 144 = .ok (.iload_n 3, 1) := sorry
theorem dX7_gathers_145 : decode cX7_gathers 145 = .ok (.imul, 1) := sorry
theorem dX7_gathers_146 : decode cX7_gathers 146 = .ok (.iconst 5, 1) := sorry
theorem dX7_gathers_147 : decode cX7_gathers 147 = .ok (.iadd, 1) := sorry
theorem dX7_gathers_148 : decode cX7_gathers 148 = .ok (.iload_n 2, 1) := sorry
theorem dX7_gathers_149 : decode cX7_gathers 149 = .ok (.iastore, 1) := sorry
theorem dX7_gathers_150 : decode cX7_gathers 150 = .ok (.aload_n 0, 1) := sorry
theorem dX7_gathers_151 : decode cX7_gathers 151 = .ok (.dup, 1) := sorry
theorem dX7_gathers_152 : decode cX7_gathers 152 = .ok (.getfield 269, 3) := sorry
theorem dX7_gathers_155 : decode cX7_gathers 155 = .ok (.iconst 1, 1) := sorry
def dtX7_gathers_156_3 : List (Nat × Instr × Nat) := [(156, .iadd, 1), (157, .putfield 269, 3), (160, .iconst 1, 1), (161, .ireturn, 1)]
theorem dtX7_gathers_156_3_ok : dcAll cX7_gathers dtX7_gathers_156_3 = true := sorry
theorem dX7_gathers_156 : decode cX7_gathers 156 = .ok (.iadd, 1) := sorry
theorem dX7_gathers_157 : decode cX7_gathers 157 = .ok (.putfield 269, 3) := sorry
theorem dX7_gathers_160 : decode cX7_gathers 160 = .ok (.iconst 1, 1) := sorry
theorem dX7_gathers_161 : decode cX7_gathers 161 = .ok (.ireturn, 1) := sorry
def dtX7_lays_0_0 : List (Nat × Instr × Nat) := [(0, .iconst 0, 1), (1, .istore_n 3, 1), (2, .iconst 0, 1), (3, .istore 4, 2), (5, .iload 4, 2), (7, .aload_n 0, 1), (8, .getfield 269, 3), (11, .if_icmp .ge 27, 3), (14, .aload_n 0, 1), (15, .getfield 42, 3), (18, .bipush 6, 2), (20, .iload 4, 2), (22, .imul, 1), (23, .iconst 4, 1), (24, .iadd, 1), (25, .iaload, 1), (26, .ifCond .eq 6, 3), (29, .iinc 3 1, 3), (32, .iinc 4 1, 3), (35, .goto (-30), 3), (38, .iload_n 3, 1), (39, .bipush 120, 2), (41, .if_icmp .le 6, 3), (44, .bipush (-3), 2), (46, .ireturn, 1), (47, .iload_n 1, 1), (48, .iload_n 2, 1), (49, .iconst 0, 1), (50, .invokestatic 279, 3), (53, .istore 4, 2), (55, .iconst 0, 1), (56, .istore 5, 2)]
theorem dtX7_lays_0_0_ok : dcAll cX7_lays dtX7_lays_0_0 = true := sorry
theorem dX7_lays_0 : decode cX7_lays 0 = .ok (.iconst 0, 1) := sorry
theorem dX7_lays_1 : decode cX7_lays 1 = .ok (.istore_n 3, 1) := sorry
theorem dX7_lays_2 : decode cX7_lays 2 = .ok (.iconst 0, 1) := sorry
theorem dX7_lays_3 : decode cX7_lays 3 = .ok (.istore 4, 2) := sorry
theorem dX7_lays_5 : decode cX7_lays 5 = .ok (.iload 4, 2) := sorry
theorem dX7_lays_7 : decode cX7_lays 7 = .ok (.aload_n 0, 1) := sorry
theorem dX7_lays_8 : decode cX7_lays 8 = .ok (.getfield 269, 3) := sorry
theorem dX7_lays_11 : decode cX7_lays 11 = .ok (.if_icmp .ge 27, 3) := sorry
theorem dX7_lays_14 : decode cX7_lays 14 = .ok (.aload_n 0, 1) := sorry
theorem dX7_lays_15 : decode cX7_lays 15 = .ok (.getfield 42, 3) := sorry
theorem dX7_lays_18 : decode cX7_lays 18 = .ok (.bipush 6, 2) := sorry
theorem dX7_lays_20 : decode cX7_lays 20 = .ok (.iload 4, 2) := sorry
theorem dX7_lays_22 : decode cX7_lays 22 = .ok (.imul, 1) := sorry
theorem dX7_lays_23 : decode cX7_lays 23 = .ok (.iconst 4, 1) := sorry
theorem dX7_lays_24 : decode cX7_lays 24 = .ok (.iadd, 1) := sorry
theorem dX7_lays_25 : decode cX7_lays 25 = .ok (.iaload, 1) := sorry
theorem dX7_lays_26 : decode cX7_lays 26 = .ok (.ifCond .eq 6, 3) := sorry
theorem dX7_lays_29 : decode cX7_lays 29 = .ok (.iinc 3 1, 3) := sorry
theorem dX7_lays_32 : decode cX7_lays 32 = .ok (.iinc 4 1, 3) := sorry
theorem dX7_lays_35 : decode cX7_lays 35 = .ok (.goto (-30), 3) := sorry
theorem dX7_lays_38 : decode cX7_lays 38 = .ok (.iload_n 3, 1) := sorry
theorem dX7_lays_39 : decode cX7_lays 39 = .ok (.bipush 120, 2) := sorry
theorem dX7_lays_41 : decode cX7_lays 41 = .ok (.if_icmp .le 6, 3) := sorry
theorem dX7_lays_44 : decode cX7_lays 44 = .ok (.bipush (-3), 2) := sorry
theorem dX7_lays_46 : decode cX7_lays 46 = .ok (.ireturn, 1) := sorry
theorem dX7_lays_47 : decode cX7_lays 47 = .ok (.iload_n 1, 1) := sorry
theorem dX7_lays_48 : decode cX7_lays 48 = .ok (.iload_n 2, 1) := sorry
theorem dX7_lays_49 : decode cX7_lays 49 = .ok (.iconst 0, 1) := sorry
theorem dX7_lays_50 : decode cX7_lays 50 = .ok (.invokestatic 279, 3) := sorry
theorem dX7_lays_53 : decode cX7_lays 53 = .ok (.istore 4, 2) := sorry
theorem dX7_lays_55 : decode cX7_lays 55 = .ok (.iconst 0, 1) := sorry
theorem dX7_lays_56 : decode cX7_lays 56 = .ok (.istore 5, 2) := sorry
def dtX7_lays_58_1 : List (Nat × Instr × Nat) := [(58, .iload 5, 2), (60, .aload_n 0, 1), (61, .getfield 269, 3), (64, .if_icmp .ge 69, 3), (67, .aload_n 0, 1), (68, .getfield 42, 3), (71, .bipush 6, 2), (73, .iload 5, 2), (75, .imul, 1), (76, .iconst 4, 1), (77, .iadd, 1), (78, .iaload, 1), (79, .ifCond .ne 6, 3), (82, .goto 45, 3), (85, .iconst 0, 1), (86, .istore 6, 2), (88, .iload 6, 2), (90, .bipush 6, 2), (92, .if_icmp .ge 32, 3), (95, .aload_n 0, 1), (96, .getfield 24, 3), (99, .iload 4, 2), (101, .iload 6, 2), (103, .iadd, 1), (104, .aload_n 0, 1), (105, .getfield 42, 3), (108, .bipush 6, 2), (110, .iload 5, 2), (112, .imul, 1), (113, .iload 6, 2), (115, .iadd, 1), (116, .iaload, 1)]
theorem dtX7_lays_58_1_ok : dcAll cX7_lays dtX7_lays_58_1 = true := sorry
theorem dX7_lays_58 : decode cX7_lays 58 = .ok (.iload 5, 2) := sorry
theorem dX7_lays_60 : decode cX7_lays 60 = .ok (.aload_n 0, 1) := sorry
theorem dX7_lays_61 : decode cX7_lays 61 = .ok (.getfield 269, 3) := sorry
theorem dX7_lays_64 : decode cX7_lays 64 = .ok (.if_icmp .ge 69, 3) := sorry
theorem dX7_lays_67 : decode cX7_lays 67 = .ok (.aload_n 0, 1) := sorry
theorem dX7_lays_68 : decode cX7_lays 68 = .ok (.getfield 42, 3) := sorry
theorem dX7_lays_71 : decode cX7_lays 71 = .ok (.bipush 6, 2) := sorry
theorem dX7_lays_73 : decode cX7_lays 73 = .ok (.iload 5, 2) := sorry
theorem dX7_lays_75 : decode cX7_lays 75 = .ok (.imul, 1) := sorry
theorem dX7_lays_76 : decode cX7_lays 76 = .ok (.iconst 4, 1) := sorry
theorem dX7_lays_77 : decode cX7_lays 77 = .ok (.iadd, 1) := sorry
theorem dX7_lays_78 : decode cX7_lays 78 = .ok (.iaload, 1) := sorry
theorem dX7_lays_79 : decode cX7_lays 79 = .ok (.ifCond .ne 6, 3) := sorry
theorem dX7_lays_82 : decode cX7_lays 82 = .ok (.goto 45, 3) := sorry
theorem dX7_lays_85 : decode cX7_lays 85 = .ok (.iconst 0, 1) := sorry
theorem dX7_lays_86 : decode cX7_lays 86 = .ok (.istore 6, 2) := sorry
theorem dX7_lays_88 : decode cX7_lays 88 = .ok (.iload 6, 2) := sorry
theorem dX7_lays_90 : decode cX7_lays 90 = .ok (.bipush 6, 2) := sorry
theorem dX7_lays_92 : decode cX7_lays 92 = .ok (.if_icmp .ge 32, 3) := sorry
theorem dX7_lays_95 : decode cX7_lays 95 = .ok (.aload_n 0, 1) := sorry
theorem dX7_lays_96 : decode cX7_lays 96 = .ok (.getfield 24, 3) := sorry
theorem dX7_lays_99 : decode cX7_lays 99 = .ok (.iload 4, 2) := sorry
theorem dX7_lays_101 : decode cX7_lays 101 = .ok (.iload 6, 2) := sorry
theorem dX7_lays_103 : decode cX7_lays 103 = .ok (.iadd, 1) := sorry
theorem dX7_lays_104 : decode cX7_lays 104 = .ok (.aload_n 0, 1) := sorry
theorem dX7_lays_105 : decode cX7_lays 105 = .ok (.getfield 42, 3) := sorry
theorem dX7_lays_108 : decode cX7_lays 108 = .ok (.bipush 6, 2) := sorry
theorem dX7_lays_110 : decode cX7_lays 110 = .ok (.iload 5, 2) := sorry
theorem dX7_lays_112 : decode cX7_lays 112 = .ok (.imul, 1) := sorry
theorem dX7_lays_113 : decode cX7_lays 113 = .ok (.iload 6, 2) := sorry
theorem dX7_lays_115 : decode cX7_lays 115 = .ok (.iadd, 1) := sorry
theorem dX7_lays_116 : decode cX7_lays 116 = .ok (.iaload, 1) := sorry
def dtX7_lays_117_2 : List (Nat × Instr × Nat) := [(117, .iastore, 1), (118, .iinc 6 1, 3), (121, .goto (-33), 3), (124, .iinc 4 6, 3), (127, .iinc 5 1, 3), (130, .goto (-72), 3), (133, .aload_n 0, 1), (134, .getfield 27, 3), (137, .bipush 16, 2), (139, .iload_n 1, 1), (140, .imul, 1), (141, .iload_n 2, 1), (142, .iadd, 1), (143, .iload_n 3, 1), (144, .iastore, 1), (145, .iconst 0, 1), (146, .ireturn, 1)]
theorem dtX7_lays_117_2_ok : dcAll cX7_lays dtX7_lays_117_2 = true := sorry
theorem dX7_lays_117 : decode cX7_lays 117 = .ok (.iastore, 1) := sorry
theorem dX7_lays_118 : decode cX7_lays 118 = .ok (.iinc 6 1, 3) := sorry
theorem dX7_lays_121 : decode cX7_lays 121 = .ok (.goto (-33), 3) := sorry
theorem dX7_lays_124 : decode cX7_lays 124 = .ok (.iinc 4 6, 3) := sorry
theorem dX7_lays_127 : decode cX7_lays 127 = .ok (.iinc 5 1, 3) := sorry
theorem dX7_lays_130 : decode cX7_lays 130 = .ok (.goto (-72), 3) := sorry
theorem dX7_lays_133 : decode cX7_lays 133 = .ok (.aload_n 0, 1) := sorry
theorem dX7_lays_134 : decode cX7_lays 134 = .ok (.getfield 27, 3) := sorry
theorem dX7_lays_137 : decode cX7_lays 137 = .ok (.bipush 16, 2) := sorry
theorem dX7_lays_139 : decode cX7_lays 139 = .ok (.iload_n 1, 1) := sorry
theorem dX7_lays_140 : decode cX7_lays 140 = .ok (.imul, 1) := sorry
theorem dX7_lays_141 : decode cX7_lays 141 = .ok (.iload_n 2, 1) := sorry
theorem dX7_lays_142 : decode cX7_lays 142 = .ok (.iadd, 1) := sorry
theorem dX7_lays_143 : decode cX7_lays 143 = .ok (.iload_n 3, 1) := sorry
theorem dX7_lays_144 : decode cX7_lays 144 = .ok (.iastore, 1) := sorry
theorem dX7_lays_145 : decode cX7_lays 145 = .ok (.iconst 0, 1) := sorry
theorem dX7_lays_146 : decode cX7_lays 146 = .ok (.ireturn, 1) := sorry
def dtX7_takes_0_0 : List (Nat × Instr × Nat) := [(0, .iconst 0, 1), (1, .istore_n 2, 1), (2, .iload_n 2, 1), (3, .iconst 4, 1), (4, .if_icmp .ge 23, 3), (7, .aload_n 0, 1), (8, .getfield 45, 3), (11, .iload_n 2, 1), (12, .aload_n 0, 1), (13, .getfield 24, 3), (16, .iload_n 1, 1), (17, .iload_n 2, 1), (18, .iadd, 1), (19, .iaload, 1), (20, .iastore, 1), (21, .iinc 2 1, 3), (24, .goto (-22), 3), (27, .return_, 1)]
theorem dtX7_takes_0_0_ok : dcAll cX7_takes dtX7_takes_0_0 = true := sorry
theorem dX7_takes_0 : decode cX7_takes 0 = .ok (.iconst 0, 1) := sorry
theorem dX7_takes_1 : decode cX7_takes 1 = .ok (.istore_n 2, 1) := sorry
theorem dX7_takes_2 : decode cX7_takes 2 = .ok (.iload_n 2, 1) := sorry
theorem dX7_takes_3 : decode cX7_takes 3 = .ok (.iconst 4, 1) := sorry
theorem dX7_takes_4 : decode cX7_takes 4 = .ok (.if_icmp .ge 23, 3) := sorry
theorem dX7_takes_7 : decode cX7_takes 7 = .ok (.aload_n 0, 1) := sorry
theorem dX7_takes_8 : decode cX7_takes 8 = .ok (.getfield 45, 3) := sorry
theorem dX7_takes_11 : decode cX7_takes 11 = .ok (.iload_n 2, 1) := sorry
theorem dX7_takes_12 : decode cX7_takes 12 = .ok (.aload_n 0, 1) := sorry
theorem dX7_takes_13 : decode cX7_takes 13 = .ok (.getfield 24, 3) := sorry
theorem dX7_takes_16 : decode cX7_takes 16 = .ok (.iload_n 1, 1) := sorry
theorem dX7_takes_17 : decode cX7_takes 17 = .ok (.iload_n 2, 1) := sorry
theorem dX7_takes_18 : decode cX7_takes 18 = .ok (.iadd, 1) := sorry
theorem dX7_takes_19 : decode cX7_takes 19 = .ok (.iaload, 1) := sorry
theorem dX7_takes_20 : decode cX7_takes 20 = .ok (.iastore, 1) := sorry
theorem dX7_takes_21 : decode cX7_takes 21 = .ok (.iinc 2 1, 3) := sorry
theorem dX7_takes_24 : decode cX7_takes 24 = .ok (.goto (-22), 3) := sorry
theorem dX7_takes_27 : decode cX7_takes 27 = .ok (.return_, 1) := sorry
def dtX7_holds_0_0 : List (Nat × Instr × Nat) := [(0, .iconst 0, 1), (1, .istore_n 3, 1), (2, .iload_n 3, 1), (3, .aload_n 0, 1), (4, .iload_n 1, 1), (5, .invokevirtual 283, 3), (8, .if_icmp .ge 111, 3), (11, .aload_n 0, 1), (12, .getfield 24, 3), (15, .iload_n 2, 1), (16, .aload_n 0, 1), (17, .iload_n 1, 1), (18, .iload_n 3, 1), (19, .iconst 0, 1), (20, .invokevirtual 286, 3), (23, .iadd, 1), (24, .iaload, 1), (25, .istore 4, 2), (27, .aload_n 0, 1), (28, .iload_n 1, 1), (29, .iload_n 3, 1), (30, .iconst 2, 1), (31, .invokevirtual 286, 3), (34, .iconst 1, 1), (35, .if_icmp .ne 20, 3), (38, .aload_n 0, 1), (39, .getfield 24, 3), (42, .iload_n 2, 1), (43, .aload_n 0, 1), (44, .iload_n 1, 1), (45, .iload_n 3, 1), (46, .iconst 3, 1)]
theorem dtX7_holds_0_0_ok : dcAll cX7_holds dtX7_holds_0_0 = true := sorry
theorem dX7_holds_0 : decode cX7_holds 0 = .ok (.iconst 0, 1) := sorry
theorem dX7_holds_1 : decode cX7_holds 1 = .ok (.istore_n 3, 1) := sorry
theorem dX7_holds_2 : decode cX7_holds 2 = .ok (.iload_n 3, 1) := sorry
theorem dX7_holds_3 : decode cX7_holds 3 = .ok (.aload_n 0, 1) := sorry
theorem dX7_holds_4 : decode cX7_holds 4 = .ok (.iload_n 1, 1) := sorry
theorem dX7_holds_5 : decode cX7_holds 5 = .ok (.invokevirtual 283, 3) := sorry
theorem dX7_holds_8 : decode cX7_holds 8 = .ok (.if_icmp .ge 111, 3) := sorry
theorem dX7_holds_11 : decode cX7_holds 11 = .ok (.aload_n 0, 1) := sorry
theorem dX7_holds_12 : decode cX7_holds 12 = .ok (.getfield 24, 3) := sorry
theorem dX7_holds_15 : decode cX7_holds 15 = .ok (.iload_n 2, 1) := sorry
theorem dX7_holds_16 : decode cX7_holds 16 = .ok (.aload_n 0, 1) := sorry
theorem dX7_holds_17 : decode cX7_holds 17 = .ok (.iload_n 1, 1) := sorry
theorem dX7_holds_18 : decode cX7_holds 18 = .ok (.iload_n 3, 1) := sorry
theorem dX7_holds_19 : decode cX7_holds 19 = .ok (.iconst 0, 1) := sorry
theorem dX7_holds_20 : decode cX7_holds 20 = .ok (.invokevirtual 286, 3) := sorry
theorem dX7_holds_23 : decode cX7_holds 23 = .ok (.iadd, 1) := sorry
theorem dX7_holds_24 : decode cX7_holds 24 = .ok (.iaload, 1) := sorry
theorem dX7_holds_25 : decode cX7_holds 25 = .ok (.istore 4, 2) := sorry
theorem dX7_holds_27 : decode cX7_holds 27 = .ok (.aload_n 0, 1) := sorry
theorem dX7_holds_28 : decode cX7_holds 28 = .ok (.iload_n 1, 1) := sorry
theorem dX7_holds_29 : decode cX7_holds 29 = .ok (.iload_n 3, 1) := sorry
theorem dX7_holds_30 : decode cX7_holds 30 = .ok (.iconst 2, 1) := sorry
theorem dX7_holds_31 : decode cX7_holds 31 = .ok (.invokevirtual 286, 3) := sorry
theorem dX7_holds_34 : decode cX7_holds 34 = .ok (.iconst 1, 1) := sorry
theorem dX7_holds_35 : decode cX7_holds 35 = .ok (.if_icmp .ne 20, 3) := sorry
theorem dX7_holds_38 : decode cX7_holds 38 = .ok (.aload_n 0, 1) := sorry
theorem dX7_holds_39 : decode cX7_holds 39 = .ok (.getfield 24, 3) := sorry
theorem dX7_holds_42 : decode cX7_holds 42 = .ok (.iload_n 2, 1) := sorry
theorem dX7_holds_43 : decode cX7_holds 43 = .ok (.aload_n 0, 1) := sorry
theorem dX7_holds_44 : decode cX7_holds 44 = .ok (.iload_n 1, 1) := sorry
theorem dX7_holds_45 : decode cX7_holds 45 = .ok (.iload_n 3, 1) := sorry
theorem dX7_holds_46 : decode cX7_holds 46 = .ok (.iconst 3, 1) := sorry
def dtX7_holds_47_1 : List (Nat × Instr × Nat) := [(47, .invokevirtual 286, 3), (50, .iadd, 1), (51, .iaload, 1), (52, .goto 10, 3), (55, .aload_n 0, 1), (56, .iload_n 1, 1), (57, .iload_n 3, 1), (58, .iconst 3, 1), (59, .invokevirtual 286, 3), (62, .istore 5, 2), (64, .aload_n 0, 1), (65, .iload_n 1, 1), (66, .iload_n 3, 1), (67, .iconst 1, 1), (68, .invokevirtual 286, 3), (71, .istore 6, 2), (73, .iload 6, 2), (75, .ifCond .ne 13, 3), (78, .iload 4, 2), (80, .iload 5, 2), (82, .if_icmp .eq 31, 3), (85, .goto 26, 3), (88, .iload 6, 2), (90, .iconst 1, 1), (91, .if_icmp .ne 13, 3), (94, .iload 4, 2), (96, .iload 5, 2), (98, .if_icmp .lt 15, 3), (101, .goto 10, 3), (104, .iload 4, 2), (106, .iload 5, 2), (108, .if_icmp .gt 5, 3)]
theorem dtX7_holds_47_1_ok : dcAll cX7_holds dtX7_holds_47_1 = true := sorry
theorem dX7_holds_47 : decode cX7_holds 47 = .ok (.invokevirtual 286, 3) := sorry
theorem dX7_holds_50 : decode cX7_holds 50 = .ok (.iadd, 1) := sorry
theorem dX7_holds_51 : decode cX7_holds 51 = .ok (.iaload, 1) := sorry
theorem dX7_holds_52 : decode cX7_holds 52 = .ok (.goto 10, 3) := sorry
theorem dX7_holds_55 : decode cX7_holds 55 = .ok (.aload_n 0, 1) := sorry
theorem dX7_holds_56 : decode cX7_holds 56 = .ok (.iload_n 1, 1) := sorry
theorem dX7_holds_57 : decode cX7_holds 57 = .ok (.iload_n 3, 1) := sorry
theorem dX7_holds_58 : decode cX7_holds 58 = .ok (.iconst 3, 1) := sorry
theorem dX7_holds_59 : decode cX7_holds 59 = .ok (.invokevirtual 286, 3) := sorry
theorem dX7_holds_62 : decode cX7_holds 62 = .ok (.istore 5, 2) := sorry
theorem dX7_holds_64 : decode cX7_holds 64 = .ok (.aload_n 0, 1) := sorry
theorem dX7_holds_65 : decode cX7_holds 65 = .ok (.iload_n 1, 1) := sorry
theorem dX7_holds_66 : decode cX7_holds 66 = .ok (.iload_n 3, 1) := sorry
theorem dX7_holds_67 : decode cX7_holds 67 = .ok (.iconst 1, 1) := sorry
theorem dX7_holds_68 : decode cX7_holds 68 = .ok (.invokevirtual 286, 3) := sorry
theorem dX7_holds_71 : decode cX7_holds 71 = .ok (.istore 6, 2) := sorry
theorem dX7_holds_73 : decode cX7_holds 73 = .ok (.iload 6, 2) := sorry
theorem dX7_holds_75 : decode cX7_holds 75 = .ok (.ifCond .ne 13, 3) := sorry
theorem dX7_holds_78 : decode cX7_holds 78 = .ok (.iload 4, 2) := sorry
theorem dX7_holds_80 : decode cX7_holds 80 = .ok (.iload 5, 2) := sorry
theorem dX7_holds_82 : decode cX7_holds 82 = .ok (.if_icmp .eq 31, 3) := sorry
theorem dX7_holds_85 : decode cX7_holds 85 = .ok (.goto 26, 3) := sorry
theorem dX7_holds_88 : decode cX7_holds 88 = .ok (.iload 6, 2) := sorry
theorem dX7_holds_90 : decode cX7_holds 90 = .ok (.iconst 1, 1) := sorry
theorem dX7_holds_91 : decode cX7_holds 91 = .ok (.if_icmp .ne 13, 3) := sorry
theorem dX7_holds_94 : decode cX7_holds 94 = .ok (.iload 4, 2) := sorry
theorem dX7_holds_96 : decode cX7_holds 96 = .ok (.iload 5, 2) := sorry
theorem dX7_holds_98 : decode cX7_holds 98 = .ok (.if_icmp .lt 15, 3) := sorry
theorem dX7_holds_101 : decode cX7_holds 101 = .ok (.goto 10, 3) := sorry
theorem dX7_holds_104 : decode cX7_holds 104 = .ok (.iload 4, 2) := sorry
theorem dX7_holds_106 : decode cX7_holds 106 = .ok (.iload 5, 2) := sorry
theorem dX7_holds_108 : decode cX7_holds 108 = .ok (.if_icmp .gt 5, 3) := sorry
def dtX7_holds_111_2 : List (Nat × Instr × Nat) := [(111, .iconst 0, 1), (112, .ireturn, 1), (113, .iinc 3 1, 3), (116, .goto (-114), 3), (119, .iconst 1, 1), (120, .ireturn, 1)]
theorem dtX7_holds_111_2_ok : dcAll cX7_holds dtX7_holds_111_2 = true := sorry
theorem dX7_holds_111 : decode cX7_holds 111 = .ok (.iconst 0, 1) := sorry
theorem dX7_holds_112 : decode cX7_holds 112 = .ok (.ireturn, 1) := sorry
theorem dX7_holds_113 : decode cX7_holds 113 = .ok (.iinc 3 1, 3) := sorry
theorem dX7_holds_116 : decode cX7_holds 116 = .ok (.goto (-114), 3) := sorry
theorem dX7_holds_119 : decode cX7_holds 119 = .ok (.iconst 1, 1) := sorry
theorem dX7_holds_120 : decode cX7_holds 120 = .ok (.ireturn, 1) := sorry
def dtX7_terms_0_0 : List (Nat × Instr × Nat) := [(0, .iconst 0, 1), (1, .istore 4, 2), (3, .iload 4, 2), (5, .iconst 4, 1), (6, .if_icmp .ge 85, 3), (9, .iload 4, 2), (11, .iload_n 3, 1), (12, .if_icmp .lt 14, 3), (15, .aload_n 0, 1), (16, .getfield 45, 3), (19, .iload 4, 2), (21, .iconst 0, 1), (22, .iastore, 1), (23, .goto 62, 3), (26, .aload_n 0, 1), (27, .getfield 45, 3), (30, .iload 4, 2), (32, .aload_n 0, 1), (33, .iload_n 1, 1), (34, .iload_n 2, 1), (35, .iload 4, 2), (37, .iadd, 1), (38, .iconst 0, 1), (39, .invokevirtual 286, 3), (42, .ifCond .ge 16, 3), (45, .aload_n 0, 1), (46, .iload_n 1, 1), (47, .iload_n 2, 1), (48, .iload 4, 2), (50, .iadd, 1), (51, .iconst 1, 1), (52, .invokevirtual 286, 3)]
theorem dtX7_terms_0_0_ok : dcAll cX7_terms dtX7_terms_0_0 = true := sorry
theorem dX7_terms_0 : decode cX7_terms 0 = .ok (.iconst 0, 1) := sorry
theorem dX7_terms_1 : decode cX7_terms 1 = .ok (.istore 4, 2) := sorry
theorem dX7_terms_3 : decode cX7_terms 3 = .ok (.iload 4, 2) := sorry
theorem dX7_terms_5 : decode cX7_terms 5 = .ok (.iconst 4, 1) := sorry
theorem dX7_terms_6 : decode cX7_terms 6 = .ok (.if_icmp .ge 85, 3) := sorry
theorem dX7_terms_9 : decode cX7_terms 9 = .ok (.iload 4, 2) := sorry
theorem dX7_terms_11 : decode cX7_terms 11 = .ok (.iload_n 3, 1) := sorry
theorem dX7_terms_12 : decode cX7_terms 12 = .ok (.if_icmp .lt 14, 3) := sorry
theorem dX7_terms_15 : decode cX7_terms 15 = .ok (.aload_n 0, 1) := sorry
theorem dX7_terms_16 : decode cX7_terms 16 = .ok (.getfield 45, 3) := sorry
theorem dX7_terms_19 : decode cX7_terms 19 = .ok (.iload 4, 2) := sorry
theorem dX7_terms_21 : decode cX7_terms 21 = .ok (.iconst 0, 1) := sorry
theorem dX7_terms_22 : decode cX7_terms 22 = .ok (.iastore, 1) := sorry
theorem dX7_terms_23 : decode cX7_terms 23 = .ok (.goto 62, 3) := sorry
theorem dX7_terms_26 : decode cX7_terms 26 = .ok (.aload_n 0, 1) := sorry
theorem dX7_terms_27 : decode cX7_terms 27 = .ok (.getfield 45, 3) := sorry
theorem dX7_terms_30 : decode cX7_terms 30 = .ok (.iload 4, 2) := sorry
theorem dX7_terms_32 : decode cX7_terms 32 = .ok (.aload_n 0, 1) := sorry
theorem dX7_terms_33 : decode cX7_terms 33 = .ok (.iload_n 1, 1) := sorry
theorem dX7_terms_34 : decode cX7_terms 34 = .ok (.iload_n 2, 1) := sorry
theorem dX7_terms_35 : decode cX7_terms 35 = .ok (.iload 4, 2) := sorry
theorem dX7_terms_37 : decode cX7_terms 37 = .ok (.iadd, 1) := sorry
theorem dX7_terms_38 : decode cX7_terms 38 = .ok (.iconst 0, 1) := sorry
theorem dX7_terms_39 : decode cX7_terms 39 = .ok (.invokevirtual 286, 3) := sorry
theorem dX7_terms_42 : decode cX7_terms 42 = .ok (.ifCond .ge 16, 3) := sorry
theorem dX7_terms_45 : decode cX7_terms 45 = .ok (.aload_n 0, 1) := sorry
theorem dX7_terms_46 : decode cX7_terms 46 = .ok (.iload_n 1, 1) := sorry
theorem dX7_terms_47 : decode cX7_terms 47 = .ok (.iload_n 2, 1) := sorry
theorem dX7_terms_48 : decode cX7_terms 48 = .ok (.iload 4, 2) := sorry
theorem dX7_terms_50 : decode cX7_terms 50 = .ok (.iadd, 1) := sorry
theorem dX7_terms_51 : decode cX7_terms 51 = .ok (.iconst 1, 1) := sorry
theorem dX7_terms_52 : decode cX7_terms 52 = .ok (.invokevirtual 286, 3) := sorry
def dtX7_terms_55_1 : List (Nat × Instr × Nat) := [(55, .goto 29, 3), (58, .aload_n 0, 1), (59, .getfield 48, 3), (62, .aload_n 0, 1), (63, .iload_n 1, 1), (64, .iload_n 2, 1), (65, .iload 4, 2), (67, .iadd, 1), (68, .iconst 0, 1), (69, .invokevirtual 286, 3), (72, .iaload, 1), (73, .aload_n 0, 1), (74, .iload_n 1, 1), (75, .iload_n 2, 1), (76, .iload 4, 2), (78, .iadd, 1), (79, .iconst 1, 1), (80, .invokevirtual 286, 3), (83, .iadd, 1), (84, .iastore, 1), (85, .iinc 4 1, 3), (88, .goto (-85), 3)]
theorem dtX7_terms_55_1_ok : dcAll cX7_terms dtX7_terms_55_1 = true := sorry
theorem dX7_terms_55 : decode cX7_terms 55 = .ok (.goto 29, 3) := sorry
theorem dX7_terms_58 : decode cX7_terms 58 = .ok (.aload_n 0, 1) := sorry
theorem dX7_terms_59 : decode cX7_terms 59 = .ok (.getfield 48, 3) := sorry
theorem dX7_terms_62 : decode cX7_terms 62 = .ok (.aload_n 0, 1) := sorry
theorem dX7_terms_63 : decode cX7_terms 63 = .ok (.iload_n 1, 1) := sorry
theorem dX7_terms_64 : decode cX7_terms 64 = .ok (.iload_n 2, 1) := sorry
theorem dX7_terms_65 : decode cX7_terms 65 = .ok (.iload 4, 2) := sorry
theorem dX7_terms_67 : decode cX7_terms 67 = .ok (.iadd, 1) := sorry
theorem dX7_terms_68 : decode cX7_terms 68 = .ok (.iconst 0, 1) := sorry
theorem dX7_terms_69 : decode cX7_terms 69 = .ok (.invokevirtual 286, 3) := sorry
theorem dX7_terms_72 : decode cX7_terms 72 = .ok (.iaload, 1) := sorry
theorem dX7_terms_73 : decode cX7_terms 73 = .ok (.aload_n 0, 1) := sorry
theorem dX7_terms_74 : decode cX7_terms 74 = .ok (.iload_n 1, 1) := sorry
theorem dX7_terms_75 : decode cX7_terms 75 = .ok (.iload_n 2, 1) := sorry
theorem dX7_terms_76 : decode cX7_terms 76 = .ok (.iload 4, 2) := sorry
theorem dX7_terms_78 : decode cX7_terms 78 = .ok (.iadd, 1) := sorry
theorem dX7_terms_79 : decode cX7_terms 79 = .ok (.iconst 1, 1) := sorry
theorem dX7_terms_80 : decode cX7_terms 80 = .ok (.invokevirtual 286, 3) := sorry
theorem dX7_terms_83 : decode cX7_terms 83 = .ok (.iadd, 1) := sorry
theorem dX7_terms_84 : decode cX7_terms 84 = .ok (.iastore, 1) := sorry
theorem dX7_terms_85 : decode cX7_terms 85 = .ok (.iinc 4 1, 3) := sorry
theorem dX7_terms_88 : decode cX7_terms 88 = .ok (.goto (-85), 3) := sorry

end

section
def dtX7_terms_91_0 : List (Nat × Instr × Nat) := [(91, .return_, 1)]
theorem dtX7_terms_91_0_ok : dcAll cX7_terms dtX7_terms_91_0 = true := sorry
theorem dX7_terms_91 : decode cX7_terms 91 = .ok (.return_, 1) := sorry
def dtX7_joins_0_0 : List (Nat × Instr × Nat) := [(0, .aload_n 0, 1), (1, .iload_n 2, 1), (2, .invokevirtual 289, 3), (5, .istore_n 3, 1), (6, .aload_n 0, 1), (7, .iload_n 2, 1), (8, .invokevirtual 292, 3), (11, .istore 4, 2), (13, .aload_n 0, 1), (14, .getfield 7, 3), (17, .bipush 40, 2), (19, .iload_n 2, 1), (20, .imul, 1), (21, .iconst 5, 1), (22, .iadd, 1), (23, .iaload, 1), (24, .istore 5, 2), (26, .iconst 0, 1), (27, .istore 6, 2), (29, .iconst 0, 1), (30, .istore 7, 2), (32, .iload 7, 2), (34, .aload_n 0, 1), (35, .iload_n 1, 1), (36, .iload_n 3, 1), (37, .invokevirtual 295, 3), (40, .if_icmp .ge 251, 3), (43, .iconst 0, 1), (44, .istore 8, 2), (46, .iload 8, 2), (48, .aload_n 0, 1), (49, .iload_n 1, 1)]
theorem dtX7_joins_0_0_ok : dcAll cX7_joins dtX7_joins_0_0 = true := sorry
theorem dX7_joins_0 : decode cX7_joins 0 = .ok (.aload_n 0, 1) := sorry
theorem dX7_joins_1 : decode cX7_joins 1 = .ok (.iload_n 2, 1) := sorry
theorem dX7_joins_2 : decode cX7_joins 2 = .ok (.invokevirtual 289, 3) := sorry
theorem dX7_joins_5 : decode cX7_joins 5 = .ok (.istore_n 3, 1) := sorry
theorem dX7_joins_6 : decode cX7_joins 6 = .ok (.aload_n 0, 1) := sorry
theorem dX7_joins_7 : decode cX7_joins 7 = .ok (.iload_n 2, 1) := sorry
theorem dX7_joins_8 : decode cX7_joins 8 = .ok (.invokevirtual 292, 3) := sorry
theorem dX7_joins_11 : decode cX7_joins 11 = .ok (.istore 4, 2) := sorry
theorem dX7_joins_13 : decode cX7_joins 13 = .ok (.aload_n 0, 1) := sorry
theorem dX7_joins_14 : decode cX7_joins 14 = .ok (.getfield 7, 3) := sorry
theorem dX7_joins_17 : decode cX7_joins 17 = .ok (.bipush 40, 2) := sorry
theorem dX7_joins_19 : decode cX7_joins 19 = .ok (.iload_n 2, 1) := sorry
theorem dX7_joins_20 : decode cX7_joins 20 = .ok (.imul, 1) := sorry
theorem dX7_joins_21 : decode cX7_joins 21 = .ok (.iconst 5, 1) := sorry
theorem dX7_joins_22 : decode cX7_joins 22 = .ok (.iadd, 1) := sorry
theorem dX7_joins_23 : decode cX7_joins 23 = .ok (.iaload, 1) := sorry
theorem dX7_joins_24 : decode cX7_joins 24 = .ok (.istore 5, 2) := sorry
theorem dX7_joins_26 : decode cX7_joins 26 = .ok (.iconst 0, 1) := sorry
theorem dX7_joins_27 : decode cX7_joins 27 = .ok (.istore 6, 2) := sorry
theorem dX7_joins_29 : decode cX7_joins 29 = .ok (.iconst 0, 1) := sorry
theorem dX7_joins_30 : decode cX7_joins 30 = .ok (.istore 7, 2) := sorry
theorem dX7_joins_32 : decode cX7_joins 32 = .ok (.iload 7, 2) := sorry
theorem dX7_joins_34 : decode cX7_joins 34 = .ok (.aload_n 0, 1) := sorry
theorem dX7_joins_35 : decode cX7_joins 35 = .ok (.iload_n 1, 1) := sorry
theorem dX7_joins_36 : decode cX7_joins 36 = .ok (.iload_n 3, 1) := sorry
theorem dX7_joins_37 : decode cX7_joins 37 = .ok (.invokevirtual 295, 3) := sorry
theorem dX7_joins_40 : decode cX7_joins 40 = .ok (.if_icmp .ge 251, 3) := sorry
theorem dX7_joins_43 : decode cX7_joins 43 = .ok (.iconst 0, 1) := sorry
theorem dX7_joins_44 : decode cX7_joins 44 = .ok (.istore 8, 2) := sorry
theorem dX7_joins_46 : decode cX7_joins 46 = .ok (.iload 8, 2) := sorry
theorem dX7_joins_48 : decode cX7_joins 48 = .ok (.aload_n 0, 1) := sorry
theorem dX7_joins_49 : decode cX7_joins 49 = .ok (.iload_n 1, 1) := sorry
def dtX7_joins_50_1 : List (Nat × Instr × Nat) := [(50, .iload 4, 2), (52, .invokevirtual 295, 3), (55, .if_icmp .ge 230, 3), (58, .iload_n 1, 1), (59, .iload_n 3, 1), (60, .iload 7, 2), (62, .invokestatic 279, 3), (65, .istore 9, 2), (67, .iload_n 1, 1), (68, .iload 4, 2), (70, .iload 8, 2), (72, .invokestatic 279, 3), (75, .istore 10, 2), (77, .iconst 1, 1), (78, .istore 11, 2), (80, .iconst 0, 1), (81, .istore 12, 2), (83, .iload 12, 2), (85, .aload_n 0, 1), (86, .iload_n 2, 1), (87, .invokevirtual 283, 3), (90, .if_icmp .ge 56, 3), (93, .iload 11, 2), (95, .ifCond .eq 42, 3), (98, .aload_n 0, 1), (99, .getfield 24, 3), (102, .iload 9, 2), (104, .aload_n 0, 1), (105, .iload_n 2, 1), (106, .iload 12, 2), (108, .iconst 0, 1), (109, .invokevirtual 286, 3)]
theorem dtX7_joins_50_1_ok : dcAll cX7_joins dtX7_joins_50_1 = true := sorry
theorem dX7_joins_50 : decode cX7_joins 50 = .ok (.iload 4, 2) := sorry
theorem dX7_joins_52 : decode cX7_joins 52 = .ok (.invokevirtual 295, 3) := sorry
theorem dX7_joins_55 : decode cX7_joins 55 = .ok (.if_icmp .ge 230, 3) := sorry
theorem dX7_joins_58 : decode cX7_joins 58 = .ok (.iload_n 1, 1) := sorry
theorem dX7_joins_59 : decode cX7_joins 59 = .ok (.iload_n 3, 1) := sorry
theorem dX7_joins_60 : decode cX7_joins 60 = .ok (.iload 7, 2) := sorry
theorem dX7_joins_62 : decode cX7_joins 62 = .ok (.invokestatic 279, 3) := sorry
theorem dX7_joins_65 : decode cX7_joins 65 = .ok (.istore 9, 2) := sorry
theorem dX7_joins_67 : decode cX7_joins 67 = .ok (.iload_n 1, 1) := sorry
theorem dX7_joins_68 : decode cX7_joins 68 = .ok (.iload 4, 2) := sorry
theorem dX7_joins_70 : decode cX7_joins 70 = .ok (.iload 8, 2) := sorry
theorem dX7_joins_72 : decode cX7_joins 72 = .ok (.invokestatic 279, 3) := sorry
theorem dX7_joins_75 : decode cX7_joins 75 = .ok (.istore 10, 2) := sorry
theorem dX7_joins_77 : decode cX7_joins 77 = .ok (.iconst 1, 1) := sorry
theorem dX7_joins_78 : decode cX7_joins 78 = .ok (.istore 11, 2) := sorry
theorem dX7_joins_80 : decode cX7_joins 80 = .ok (.iconst 0, 1) := sorry
theorem dX7_joins_81 : decode cX7_joins 81 = .ok (.istore 12, 2) := sorry
theorem dX7_joins_83 : decode cX7_joins 83 = .ok (.iload 12, 2) := sorry
theorem dX7_joins_85 : decode cX7_joins 85 = .ok (.aload_n 0, 1) := sorry
theorem dX7_joins_86 : decode cX7_joins 86 = .ok (.iload_n 2, 1) := sorry
theorem dX7_joins_87 : decode cX7_joins 87 = .ok (.invokevirtual 283, 3) := sorry
theorem dX7_joins_90 : decode cX7_joins 90 = .ok (.if_icmp .ge 56, 3) := sorry
theorem dX7_joins_93 : decode cX7_joins 93 = .ok (.iload 11, 2) := sorry
theorem dX7_joins_95 : decode cX7_joins 95 = .ok (.ifCond .eq 42, 3) := sorry
theorem dX7_joins_98 : decode cX7_joins 98 = .ok (.aload_n 0, 1) := sorry
theorem dX7_joins_99 : decode cX7_joins 99 = .ok (.getfield 24, 3) := sorry
theorem dX7_joins_102 : decode cX7_joins 102 = .ok (.iload 9, 2) := sorry
theorem dX7_joins_104 : decode cX7_joins 104 = .ok (.aload_n 0, 1) := sorry
theorem dX7_joins_105 : decode cX7_joins 105 = .ok (.iload_n 2, 1) := sorry
theorem dX7_joins_106 : decode cX7_joins 106 = .ok (.iload 12, 2) := sorry
theorem dX7_joins_108 : decode cX7_joins 108 = .ok (.iconst 0, 1) := sorry
theorem dX7_joins_109 : decode cX7_joins 109 = .ok (.invokevirtual 286, 3) := sorry
def dtX7_joins_112_2 : List (Nat × Instr × Nat) := [(112, .iadd, 1), (113, .iaload, 1), (114, .aload_n 0, 1), (115, .getfield 24, 3), (118, .iload 10, 2), (120, .aload_n 0, 1), (121, .iload_n 2, 1), (122, .iload 12, 2), (124, .iconst 1, 1), (125, .invokevirtual 286, 3), (128, .iadd, 1), (129, .iaload, 1), (130, .if_icmp .ne 7, 3), (133, .iconst 1, 1), (134, .goto 4, 3), (137, .iconst 0, 1), (138, .istore 11, 2), (140, .iinc 12 1, 3), (143, .goto (-60), 3), (146, .iload 11, 2), (148, .ifCond .ne 6, 3), (151, .goto 128, 3), (154, .iinc 6 1, 3), (157, .iload 6, 2), (159, .sipush 1500, 3), (162, .if_icmp .le 6, 3), (165, .bipush (-3), 2), (167, .ireturn, 1), (168, .aload_n 0, 1), (169, .iload 9, 2), (171, .invokevirtual 298, 3), (174, .aload_n 0, 1)]
theorem dtX7_joins_112_2_ok : dcAll cX7_joins dtX7_joins_112_2 = true := sorry
theorem dX7_joins_112 : decode cX7_joins 112 = .ok (.iadd, 1) := sorry
theorem dX7_joins_113 : decode cX7_joins 113 = .ok (.iaload, 1) := sorry
theorem dX7_joins_114 : decode cX7_joins 114 = .ok (.aload_n 0, 1) := sorry
theorem dX7_joins_115 : decode cX7_joins 115 = .ok (.getfield 24, 3) := sorry
theorem dX7_joins_118 : decode cX7_joins 118 = .ok (.iload 10, 2) := sorry
theorem dX7_joins_120 : decode cX7_joins 120 = .ok (.aload_n 0, 1) := sorry
theorem dX7_joins_121 : decode cX7_joins 121 = .ok (.iload_n 2, 1) := sorry
theorem dX7_joins_122 : decode cX7_joins 122 = .ok (.iload 12, 2) := sorry
theorem dX7_joins_124 : decode cX7_joins 124 = .ok (.iconst 1, 1) := sorry
theorem dX7_joins_125 : decode cX7_joins 125 = .ok (.invokevirtual 286, 3) := sorry
theorem dX7_joins_128 : decode cX7_joins 128 = .ok (.iadd, 1) := sorry
theorem dX7_joins_129 : decode cX7_joins 129 = .ok (.iaload, 1) := sorry
theorem dX7_joins_130 : decode cX7_joins 130 = .ok (.if_icmp .ne 7, 3) := sorry
theorem dX7_joins_133 : decode cX7_joins 133 = .ok (.iconst 1, 1) := sorry
theorem dX7_joins_134 : decode cX7_joins 134 = .ok (.goto 4, 3) := sorry
theorem dX7_joins_137 : decode cX7_joins 137 = .ok (.iconst 0, 1) := sorry
theorem dX7_joins_138 : decode cX7_joins 138 = .ok (.istore 11, 2) := sorry
theorem dX7_joins_140 : decode cX7_joins 140 = .ok (.iinc 12 1, 3) := sorry
theorem dX7_joins_143 : decode cX7_joins 143 = .ok (.goto (-60), 3) := sorry
theorem dX7_joins_146 : decode cX7_joins 146 = .ok (.iload 11, 2) := sorry
theorem dX7_joins_148 : decode cX7_joins 148 = .ok (.ifCond .ne 6, 3) := sorry
theorem dX7_joins_151 : decode cX7_joins 151 = .ok (.goto 128, 3) := sorry
theorem dX7_joins_154 : decode cX7_joins 154 = .ok (.iinc 6 1, 3) := sorry
theorem dX7_joins_157 : decode cX7_joins 157 = .ok (.iload 6, 2) := sorry
theorem dX7_joins_159 : decode cX7_joins 159 = .ok (.sipush 1500, 3) := sorry
theorem dX7_joins_162 : decode cX7_joins 162 = .ok (.if_icmp .le 6, 3) := sorry
theorem dX7_joins_165 : decode cX7_joins 165 = .ok (.bipush (-3), 2) := sorry
theorem dX7_joins_167 : decode cX7_joins 167 = .ok (.ireturn, 1) := sorry
theorem dX7_joins_168 : decode cX7_joins 168 = .ok (.aload_n 0, 1) := sorry
theorem dX7_joins_169 : decode cX7_joins 169 = .ok (.iload 9, 2) := sorry
theorem dX7_joins_171 : decode cX7_joins 171 = .ok (.invokevirtual 298, 3) := sorry
theorem dX7_joins_174 : decode cX7_joins 174 = .ok (.aload_n 0, 1) := sorry
def dtX7_joins_175_3 : List (Nat × Instr × Nat) := [(175, .iload_n 3, 1), (176, .invokevirtual 301, 3), (179, .istore 12, 2), (181, .iconst 0, 1), (182, .istore 13, 2), (184, .iload 13, 2), (186, .aload_n 0, 1), (187, .iload 4, 2), (189, .invokevirtual 301, 3), (192, .if_icmp .ge 43, 3), (195, .iload 5, 2), (197, .iload 13, 2), (199, .ishr, 1), (200, .iconst 1, 1), (201, .iand, 1), (202, .iconst 1, 1), (203, .if_icmp .ne 6, 3), (206, .goto 23, 3), (209, .aload_n 0, 1), (210, .getfield 45, 3), (213, .iload 12, 2), (215, .aload_n 0, 1), (216, .getfield 24, 3), (219, .iload 10, 2), (221, .iload 13, 2), (223, .iadd, 1), (224, .iaload, 1), (225, .iastore, 1), (226, .iinc 12 1, 3), (229, .iinc 13 1, 3), (232, .goto (-48), 3), (235, .aload_n 0, 1)]
theorem dtX7_joins_175_3_ok : dcAll cX7_joins dtX7_joins_175_3 = true := sorry
theorem dX7_joins_175 : decode cX7_joins 175 = .ok (.iload_n 3, 1) := sorry
theorem dX7_joins_176 : decode cX7_joins 176 = .ok (.invokevirtual 301, 3) := sorry
theorem dX7_joins_179 : decode cX7_joins 179 = .ok (.istore 12, 2) := sorry
theorem dX7_joins_181 : decode cX7_joins 181 = .ok (.iconst 0, 1) := sorry
theorem dX7_joins_182 : decode cX7_joins 182 = .ok (.istore 13, 2) := sorry
theorem dX7_joins_184 : decode cX7_joins 184 = .ok (.iload 13, 2) := sorry
theorem dX7_joins_186 : decode cX7_joins 186 = .ok (.aload_n 0, 1) := sorry
theorem dX7_joins_187 : decode cX7_joins 187 = .ok (.iload 4, 2) := sorry
theorem dX7_joins_189 : decode cX7_joins 189 = .ok (.invokevirtual 301, 3) := sorry
theorem dX7_joins_192 : decode cX7_joins 192 = .ok (.if_icmp .ge 43, 3) := sorry
theorem dX7_joins_195 : decode cX7_joins 195 = .ok (.iload 5, 2) := sorry
theorem dX7_joins_197 : decode cX7_joins 197 = .ok (.iload 13, 2) := sorry
theorem dX7_joins_199 : decode cX7_joins 199 = .ok (.ishr, 1) := sorry
theorem dX7_joins_200 : decode cX7_joins 200 = .ok (.iconst 1, 1) := sorry
theorem dX7_joins_201 : decode cX7_joins 201 = .ok (.iand, 1) := sorry
theorem dX7_joins_202 : decode cX7_joins 202 = .ok (.iconst 1, 1) := sorry
theorem dX7_joins_203 : decode cX7_joins 203 = .ok (.if_icmp .ne 6, 3) := sorry
theorem dX7_joins_206 : decode cX7_joins 206 = .ok (.goto 23, 3) := sorry
theorem dX7_joins_209 : decode cX7_joins 209 = .ok (.aload_n 0, 1) := sorry
theorem dX7_joins_210 : decode cX7_joins 210 = .ok (.getfield 45, 3) := sorry
theorem dX7_joins_213 : decode cX7_joins 213 = .ok (.iload 12, 2) := sorry
theorem dX7_joins_215 : decode cX7_joins 215 = .ok (.aload_n 0, 1) := sorry
theorem dX7_joins_216 : decode cX7_joins 216 = .ok (.getfield 24, 3) := sorry
theorem dX7_joins_219 : decode cX7_joins 219 = .ok (.iload 10, 2) := sorry
theorem dX7_joins_221 : decode cX7_joins 221 = .ok (.iload 13, 2) := sorry
theorem dX7_joins_223 : decode cX7_joins 223 = .ok (.iadd, 1) := sorry
theorem dX7_joins_224 : decode cX7_joins 224 = .ok (.iaload, 1) := sorry
theorem dX7_joins_225 : decode cX7_joins 225 = .ok (.iastore, 1) := sorry
theorem dX7_joins_226 : decode cX7_joins 226 = .ok (.iinc 12 1, 3) := sorry
theorem dX7_joins_229 : decode cX7_joins 229 = .ok (.iinc 13 1, 3) := sorry
theorem dX7_joins_232 : decode cX7_joins 232 = .ok (.goto (-48), 3) := sorry
theorem dX7_joins_235 : decode cX7_joins 235 = .ok (.aload_n 0, 1) := sorry
def dtX7_joins_236_4 : List (Nat × Instr × Nat) := [(236, .aload_n 0, 1), (237, .getfield 24, 3), (240, .iload 9, 2), (242, .iconst 4, 1), (243, .iadd, 1), (244, .iaload, 1), (245, .aload_n 0, 1), (246, .getfield 24, 3), (249, .iload 10, 2), (251, .iconst 4, 1), (252, .iadd, 1), (253, .iaload, 1), (254, .imul, 1), (255, .iconst 0, 1), (256, .invokevirtual 304, 3), (259, .istore 13, 2), (261, .iload 13, 2), (263, .ifCond .eq 16, 3), (266, .aload_n 0, 1), (267, .getfield 269, 3), (270, .sipush 1598, 3), (273, .if_icmp .le 6, 3), (276, .bipush (-3), 2), (278, .ireturn, 1), (279, .iinc 8 1, 3), (282, .goto (-236), 3), (285, .iinc 7 1, 3), (288, .goto (-256), 3), (291, .iconst 0, 1), (292, .ireturn, 1)]
theorem dtX7_joins_236_4_ok : dcAll cX7_joins dtX7_joins_236_4 = true := sorry
theorem dX7_joins_236 : decode cX7_joins 236 = .ok (.aload_n 0, 1) := sorry
theorem dX7_joins_237 : decode cX7_joins 237 = .ok (.getfield 24, 3) := sorry
theorem dX7_joins_240 : decode cX7_joins 240 = .ok (.iload 9, 2) := sorry
theorem dX7_joins_242 : decode cX7_joins 242 = .ok (.iconst 4, 1) := sorry
theorem dX7_joins_243 : decode cX7_joins 243 = .ok (.iadd, 1) := sorry
theorem dX7_joins_244 : decode cX7_joins 244 = .ok (.iaload, 1) := sorry
theorem dX7_joins_245 : decode cX7_joins 245 = .ok (.aload_n 0, 1) := sorry
theorem dX7_joins_246 : decode cX7_joins 246 = .ok (.getfield 24, 3) := sorry
theorem dX7_joins_249 : decode cX7_joins 249 = .ok (.iload 10, 2) := sorry
theorem dX7_joins_251 : decode cX7_joins 251 = .ok (.iconst 4, 1) := sorry
theorem dX7_joins_252 : decode cX7_joins 252 = .ok (.iadd, 1) := sorry
theorem dX7_joins_253 : decode cX7_joins 253 = .ok (.iaload, 1) := sorry
theorem dX7_joins_254 : decode cX7_joins 254 = .ok (.imul, 1) := sorry
theorem dX7_joins_255 : decode cX7_joins 255 = .ok (.iconst 0, 1) := sorry
theorem dX7_joins_256 : decode cX7_joins 256 = .ok (.invokevirtual 304, 3) := sorry
theorem dX7_joins_259 : decode cX7_joins 259 = .ok (.istore 13, 2) := sorry
theorem dX7_joins_261 : decode cX7_joins 261 = .ok (.iload 13, 2) := sorry
theorem dX7_joins_263 : decode cX7_joins 263 = .ok (.ifCond .eq 16, 3) := sorry
theorem dX7_joins_266 : decode cX7_joins 266 = .ok (.aload_n 0, 1) := sorry
theorem dX7_joins_267 : decode cX7_joins 267 = .ok (.getfield 269, 3) := sorry
theorem dX7_joins_270 : decode cX7_joins 270 = .ok (.sipush 1598, 3) := sorry
theorem dX7_joins_273 : decode cX7_joins 273 = .ok (.if_icmp .le 6, 3) := sorry
theorem dX7_joins_276 : decode cX7_joins 276 = .ok (.bipush (-3), 2) := sorry
theorem dX7_joins_278 : decode cX7_joins 278 = .ok (.ireturn, 1) := sorry
theorem dX7_joins_279 : decode cX7_joins 279 = .ok (.iinc 8 1, 3) := sorry
theorem dX7_joins_282 : decode cX7_joins 282 = .ok (.goto (-236), 3) := sorry
theorem dX7_joins_285 : decode cX7_joins 285 = .ok (.iinc 7 1, 3) := sorry
theorem dX7_joins_288 : decode cX7_joins 288 = .ok (.goto (-256), 3) := sorry
theorem dX7_joins_291 : decode cX7_joins 291 = .ok (.iconst 0, 1) := sorry
theorem dX7_joins_292 : decode cX7_joins 292 = .ok (.ireturn, 1) := sorry
def dtX7_groups_0_0 : List (Nat × Instr × Nat) := [(0, .aload_n 0, 1), (1, .iload_n 2, 1), (2, .invokevirtual 289, 3), (5, .istore_n 3, 1), (6, .aload_n 0, 1), (7, .iload_n 2, 1), (8, .invokevirtual 283, 3), (11, .istore 4, 2), (13, .aload_n 0, 1), (14, .iload_n 2, 1), (15, .iload 4, 2), (17, .iconst 1, 1), (18, .invokevirtual 286, 3), (21, .istore 5, 2), (23, .aload_n 0, 1), (24, .iload_n 2, 1), (25, .iload 4, 2), (27, .iconst 0, 1), (28, .invokevirtual 286, 3), (31, .istore 6, 2), (33, .iconst 0, 1), (34, .istore 7, 2), (36, .iload 7, 2), (38, .aload_n 0, 1), (39, .iload_n 1, 1), (40, .iload_n 3, 1), (41, .invokevirtual 295, 3), (44, .if_icmp .ge 260, 3), (47, .iload_n 1, 1), (48, .iload_n 3, 1), (49, .iload 7, 2), (51, .invokestatic 279, 3)]
theorem dtX7_groups_0_0_ok : dcAll cX7_groups dtX7_groups_0_0 = true := sorry
theorem dX7_groups_0 : decode cX7_groups 0 = .ok (.aload_n 0, 1) := sorry
theorem dX7_groups_1 : decode cX7_groups 1 = .ok (.iload_n 2, 1) := sorry
theorem dX7_groups_2 : decode cX7_groups 2 = .ok (.invokevirtual 289, 3) := sorry
theorem dX7_groups_5 : decode cX7_groups 5 = .ok (.istore_n 3, 1) := sorry
theorem dX7_groups_6 : decode cX7_groups 6 = .ok (.aload_n 0, 1) := sorry
theorem dX7_groups_7 : decode cX7_groups 7 = .ok (.iload_n 2, 1) := sorry
theorem dX7_groups_8 : decode cX7_groups 8 = .ok (.invokevirtual 283, 3) := sorry
theorem dX7_groups_11 : decode cX7_groups 11 = .ok (.istore 4, 2) := sorry
theorem dX7_groups_13 : decode cX7_groups 13 = .ok (.aload_n 0, 1) := sorry
theorem dX7_groups_14 : decode cX7_groups 14 = .ok (.iload_n 2, 1) := sorry
theorem dX7_groups_15 : decode cX7_groups 15 = .ok (.iload 4, 2) := sorry
theorem dX7_groups_17 : decode cX7_groups 17 = .ok (.iconst 1, 1) := sorry
theorem dX7_groups_18 : decode cX7_groups 18 = .ok (.invokevirtual 286, 3) := sorry
theorem dX7_groups_21 : decode cX7_groups 21 = .ok (.istore 5, 2) := sorry
theorem dX7_groups_23 : decode cX7_groups 23 = .ok (.aload_n 0, 1) := sorry
theorem dX7_groups_24 : decode cX7_groups 24 = .ok (.iload_n 2, 1) := sorry
theorem dX7_groups_25 : decode cX7_groups 25 = .ok (.iload 4, 2) := sorry
theorem dX7_groups_27 : decode cX7_groups 27 = .ok (.iconst 0, 1) := sorry
theorem dX7_groups_28 : decode cX7_groups 28 = .ok (.invokevirtual 286, 3) := sorry
theorem dX7_groups_31 : decode cX7_groups 31 = .ok (.istore 6, 2) := sorry
theorem dX7_groups_33 : decode cX7_groups 33 = .ok (.iconst 0, 1) := sorry
theorem dX7_groups_34 : decode cX7_groups 34 = .ok (.istore 7, 2) := sorry
theorem dX7_groups_36 : decode cX7_groups 36 = .ok (.iload 7, 2) := sorry
theorem dX7_groups_38 : decode cX7_groups 38 = .ok (.aload_n 0, 1) := sorry
theorem dX7_groups_39 : decode cX7_groups 39 = .ok (.iload_n 1, 1) := sorry
theorem dX7_groups_40 : decode cX7_groups 40 = .ok (.iload_n 3, 1) := sorry
theorem dX7_groups_41 : decode cX7_groups 41 = .ok (.invokevirtual 295, 3) := sorry
theorem dX7_groups_44 : decode cX7_groups 44 = .ok (.if_icmp .ge 260, 3) := sorry
theorem dX7_groups_47 : decode cX7_groups 47 = .ok (.iload_n 1, 1) := sorry
theorem dX7_groups_48 : decode cX7_groups 48 = .ok (.iload_n 3, 1) := sorry
theorem dX7_groups_49 : decode cX7_groups 49 = .ok (.iload 7, 2) := sorry
theorem dX7_groups_51 : decode cX7_groups 51 = .ok (.invokestatic 279, 3) := sorry
def dtX7_groups_54_1 : List (Nat × Instr × Nat) := [(54, .istore 8, 2), (56, .aload_n 0, 1), (57, .iload_n 1, 1), (58, .iload_n 2, 1), (59, .iload 7, 2), (61, .invokevirtual 308, 3), (64, .ifCond .ne 6, 3), (67, .goto 231, 3), (70, .iconst 0, 1), (71, .istore 9, 2), (73, .iconst 0, 1), (74, .istore 10, 2), (76, .iload 7, 2), (78, .istore 11, 2), (80, .iload 11, 2), (82, .aload_n 0, 1), (83, .iload_n 1, 1), (84, .iload_n 3, 1), (85, .invokevirtual 295, 3), (88, .if_icmp .ge 133, 3), (91, .iload_n 1, 1), (92, .iload_n 3, 1), (93, .iload 11, 2), (95, .invokestatic 279, 3), (98, .istore 12, 2), (100, .aload_n 0, 1), (101, .iload_n 2, 1), (102, .iload 8, 2), (104, .iload 12, 2), (106, .invokevirtual 311, 3), (109, .ifCond .ne 6, 3), (112, .goto 103, 3)]
theorem dtX7_groups_54_1_ok : dcAll cX7_groups dtX7_groups_54_1 = true := sorry
theorem dX7_groups_54 : decode cX7_groups 54 = .ok (.istore 8, 2) := sorry
theorem dX7_groups_56 : decode cX7_groups 56 = .ok (.aload_n 0, 1) := sorry
theorem dX7_groups_57 : decode cX7_groups 57 = .ok (.iload_n 1, 1) := sorry
theorem dX7_groups_58 : decode cX7_groups 58 = .ok (.iload_n 2, 1) := sorry
theorem dX7_groups_59 : decode cX7_groups 59 = .ok (.iload 7, 2) := sorry
theorem dX7_groups_61 : decode cX7_groups 61 = .ok (.invokevirtual 308, 3) := sorry
theorem dX7_groups_64 : decode cX7_groups 64 = .ok (.ifCond .ne 6, 3) := sorry
theorem dX7_groups_67 : decode cX7_groups 67 = .ok (.goto 231, 3) := sorry
theorem dX7_groups_70 : decode cX7_groups 70 = .ok (.iconst 0, 1) := sorry
theorem dX7_groups_71 : decode cX7_groups 71 = .ok (.istore 9, 2) := sorry
theorem dX7_groups_73 : decode cX7_groups 73 = .ok (.iconst 0, 1) := sorry
theorem dX7_groups_74 : decode cX7_groups 74 = .ok (.istore 10, 2) := sorry
theorem dX7_groups_76 : decode cX7_groups 76 = .ok (.iload 7, 2) := sorry
theorem dX7_groups_78 : decode cX7_groups 78 = .ok (.istore 11, 2) := sorry
theorem dX7_groups_80 : decode cX7_groups 80 = .ok (.iload 11, 2) := sorry
theorem dX7_groups_82 : decode cX7_groups 82 = .ok (.aload_n 0, 1) := sorry
theorem dX7_groups_83 : decode cX7_groups 83 = .ok (.iload_n 1, 1) := sorry
theorem dX7_groups_84 : decode cX7_groups 84 = .ok (.iload_n 3, 1) := sorry
theorem dX7_groups_85 : decode cX7_groups 85 = .ok (.invokevirtual 295, 3) := sorry
theorem dX7_groups_88 : decode cX7_groups 88 = .ok (.if_icmp .ge 133, 3) := sorry
theorem dX7_groups_91 : decode cX7_groups 91 = .ok (.iload_n 1, 1) := sorry
theorem dX7_groups_92 : decode cX7_groups 92 = .ok (.iload_n 3, 1) := sorry
theorem dX7_groups_93 : decode cX7_groups 93 = .ok (.iload 11, 2) := sorry
theorem dX7_groups_95 : decode cX7_groups 95 = .ok (.invokestatic 279, 3) := sorry
theorem dX7_groups_98 : decode cX7_groups 98 = .ok (.istore 12, 2) := sorry
theorem dX7_groups_100 : decode cX7_groups 100 = .ok (.aload_n 0, 1) := sorry
theorem dX7_groups_101 : decode cX7_groups 101 = .ok (.iload_n 2, 1) := sorry
theorem dX7_groups_102 : decode cX7_groups 102 = .ok (.iload 8, 2) := sorry
theorem dX7_groups_104 : decode cX7_groups 104 = .ok (.iload 12, 2) := sorry
theorem dX7_groups_106 : decode cX7_groups 106 = .ok (.invokevirtual 311, 3) := sorry
theorem dX7_groups_109 : decode cX7_groups 109 = .ok (.ifCond .ne 6, 3) := sorry
theorem dX7_groups_112 : decode cX7_groups 112 = .ok (.goto 103, 3) := sorry
def dtX7_groups_115_2 : List (Nat × Instr × Nat) := [(115, .aload_n 0, 1), (116, .getfield 24, 3), (119, .iload 12, 2), (121, .iload 6, 2), (123, .iadd, 1), (124, .iaload, 1), (125, .istore 13, 2), (127, .aload_n 0, 1), (128, .getfield 24, 3), (131, .iload 12, 2), (133, .iconst 4, 1), (134, .iadd, 1), (135, .iaload, 1), (136, .istore 14, 2), (138, .iload 5, 2), (140, .ifCond .ne 10, 3), (143, .iload 9, 2), (145, .iload 14, 2), (147, .iadd, 1), (148, .istore 9, 2), (150, .iload 5, 2), (152, .iconst 1, 1), (153, .if_icmp .ne 13, 3), (156, .iload 9, 2), (158, .iload 14, 2), (160, .iload 13, 2), (162, .imul, 1), (163, .iadd, 1), (164, .istore 9, 2), (166, .iload 5, 2), (168, .iconst 2, 1), (169, .if_icmp .lt 46, 3)]
theorem dtX7_groups_115_2_ok : dcAll cX7_groups dtX7_groups_115_2 = true := sorry
theorem dX7_groups_115 : decode cX7_groups 115 = .ok (.aload_n 0, 1) := sorry
theorem dX7_groups_116 : decode cX7_groups 116 = .ok (.getfield 24, 3) := sorry
theorem dX7_groups_119 : decode cX7_groups 119 = .ok (.iload 12, 2) := sorry
theorem dX7_groups_121 : decode cX7_groups 121 = .ok (.iload 6, 2) := sorry
theorem dX7_groups_123 : decode cX7_groups 123 = .ok (.iadd, 1) := sorry
theorem dX7_groups_124 : decode cX7_groups 124 = .ok (.iaload, 1) := sorry
theorem dX7_groups_125 : decode cX7_groups 125 = .ok (.istore 13, 2) := sorry
theorem dX7_groups_127 : decode cX7_groups 127 = .ok (.aload_n 0, 1) := sorry
theorem dX7_groups_128 : decode cX7_groups 128 = .ok (.getfield 24, 3) := sorry
theorem dX7_groups_131 : decode cX7_groups 131 = .ok (.iload 12, 2) := sorry
theorem dX7_groups_133 : decode cX7_groups 133 = .ok (.iconst 4, 1) := sorry
theorem dX7_groups_134 : decode cX7_groups 134 = .ok (.iadd, 1) := sorry
theorem dX7_groups_135 : decode cX7_groups 135 = .ok (.iaload, 1) := sorry
theorem dX7_groups_136 : decode cX7_groups 136 = .ok (.istore 14, 2) := sorry
theorem dX7_groups_138 : decode cX7_groups 138 = .ok (.iload 5, 2) := sorry
theorem dX7_groups_140 : decode cX7_groups 140 = .ok (.ifCond .ne 10, 3) := sorry
theorem dX7_groups_143 : decode cX7_groups 143 = .ok (.iload 9, 2) := sorry
theorem dX7_groups_145 : decode cX7_groups 145 = .ok (.iload 14, 2) := sorry
theorem dX7_groups_147 : decode cX7_groups 147 = .ok (.iadd, 1) := sorry
theorem dX7_groups_148 : decode cX7_groups 148 = .ok (.istore 9, 2) := sorry
theorem dX7_groups_150 : decode cX7_groups 150 = .ok (.iload 5, 2) := sorry
theorem dX7_groups_152 : decode cX7_groups 152 = .ok (.iconst 1, 1) := sorry
theorem dX7_groups_153 : decode cX7_groups 153 = .ok (.if_icmp .ne 13, 3) := sorry
theorem dX7_groups_156 : decode cX7_groups 156 = .ok (.iload 9, 2) := sorry
theorem dX7_groups_158 : decode cX7_groups 158 = .ok (.iload 14, 2) := sorry
theorem dX7_groups_160 : decode cX7_groups 160 = .ok (.iload 13, 2) := sorry
theorem dX7_groups_162 : decode cX7_groups 162 = .ok (.imul, 1) := sorry
theorem dX7_groups_163 : decode cX7_groups 163 = .ok (.iadd, 1) := sorry
theorem dX7_groups_164 : decode cX7_groups 164 = .ok (.istore 9, 2) := sorry
theorem dX7_groups_166 : decode cX7_groups 166 = .ok (.iload 5, 2) := sorry
theorem dX7_groups_168 : decode cX7_groups 168 = .ok (.iconst 2, 1) := sorry
theorem dX7_groups_169 : decode cX7_groups 169 = .ok (.if_icmp .lt 46, 3) := sorry
def dtX7_groups_172_3 : List (Nat × Instr × Nat) := [(172, .iload 14, 2), (174, .ifCond .gt 6, 3), (177, .goto 38, 3), (180, .iload 10, 2), (182, .ifCond .eq 26, 3), (185, .iload 5, 2), (187, .iconst 2, 1), (188, .if_icmp .ne 13, 3), (191, .iload 13, 2), (193, .iload 9, 2), (195, .if_icmp .ge 17, 3), (198, .goto 10, 3), (201, .iload 13, 2), (203, .iload 9, 2), (205, .if_icmp .le 7, 3), (208, .iload 13, 2), (210, .istore 9, 2), (212, .iconst 1, 1), (213, .istore 10, 2), (215, .iinc 11 1, 3), (218, .goto (-138), 3), (221, .iconst 0, 1), (222, .istore 11, 2), (224, .iload 11, 2), (226, .iconst 4, 1), (227, .if_icmp .ge 55, 3), (230, .aload_n 0, 1), (231, .getfield 45, 3), (234, .iload 11, 2), (236, .iload 11, 2), (238, .iload 4, 2), (240, .if_icmp .ge 22, 3)]
theorem dtX7_groups_172_3_ok : dcAll cX7_groups dtX7_groups_172_3 = true := sorry
theorem dX7_groups_172 : decode cX7_groups 172 = .ok (.iload 14, 2) := sorry
theorem dX7_groups_174 : decode cX7_groups 174 = .ok (.ifCond .gt 6, 3) := sorry
theorem dX7_groups_177 : decode cX7_groups 177 = .ok (.goto 38, 3) := sorry
theorem dX7_groups_180 : decode cX7_groups 180 = .ok (.iload 10, 2) := sorry
theorem dX7_groups_182 : decode cX7_groups 182 = .ok (.ifCond .eq 26, 3) := sorry
theorem dX7_groups_185 : decode cX7_groups 185 = .ok (.iload 5, 2) := sorry
theorem dX7_groups_187 : decode cX7_groups 187 = .ok (.iconst 2, 1) := sorry
theorem dX7_groups_188 : decode cX7_groups 188 = .ok (.if_icmp .ne 13, 3) := sorry
theorem dX7_groups_191 : decode cX7_groups 191 = .ok (.iload 13, 2) := sorry
theorem dX7_groups_193 : decode cX7_groups 193 = .ok (.iload 9, 2) := sorry
theorem dX7_groups_195 : decode cX7_groups 195 = .ok (.if_icmp .ge 17, 3) := sorry
theorem dX7_groups_198 : decode cX7_groups 198 = .ok (.goto 10, 3) := sorry
theorem dX7_groups_201 : decode cX7_groups 201 = .ok (.iload 13, 2) := sorry
theorem dX7_groups_203 : decode cX7_groups 203 = .ok (.iload 9, 2) := sorry
theorem dX7_groups_205 : decode cX7_groups 205 = .ok (.if_icmp .le 7, 3) := sorry
theorem dX7_groups_208 : decode cX7_groups 208 = .ok (.iload 13, 2) := sorry
theorem dX7_groups_210 : decode cX7_groups 210 = .ok (.istore 9, 2) := sorry
theorem dX7_groups_212 : decode cX7_groups 212 = .ok (.iconst 1, 1) := sorry
theorem dX7_groups_213 : decode cX7_groups 213 = .ok (.istore 10, 2) := sorry
theorem dX7_groups_215 : decode cX7_groups 215 = .ok (.iinc 11 1, 3) := sorry
theorem dX7_groups_218 : decode cX7_groups 218 = .ok (.goto (-138), 3) := sorry
theorem dX7_groups_221 : decode cX7_groups 221 = .ok (.iconst 0, 1) := sorry
theorem dX7_groups_222 : decode cX7_groups 222 = .ok (.istore 11, 2) := sorry
theorem dX7_groups_224 : decode cX7_groups 224 = .ok (.iload 11, 2) := sorry
theorem dX7_groups_226 : decode cX7_groups 226 = .ok (.iconst 4, 1) := sorry
theorem dX7_groups_227 : decode cX7_groups 227 = .ok (.if_icmp .ge 55, 3) := sorry
theorem dX7_groups_230 : decode cX7_groups 230 = .ok (.aload_n 0, 1) := sorry
theorem dX7_groups_231 : decode cX7_groups 231 = .ok (.getfield 45, 3) := sorry
theorem dX7_groups_234 : decode cX7_groups 234 = .ok (.iload 11, 2) := sorry
theorem dX7_groups_236 : decode cX7_groups 236 = .ok (.iload 11, 2) := sorry
theorem dX7_groups_238 : decode cX7_groups 238 = .ok (.iload 4, 2) := sorry
theorem dX7_groups_240 : decode cX7_groups 240 = .ok (.if_icmp .ge 22, 3) := sorry
def dtX7_groups_243_4 : List (Nat × Instr × Nat) := [(243, .aload_n 0, 1), (244, .getfield 24, 3), (247, .iload 8, 2), (249, .aload_n 0, 1), (250, .iload_n 2, 1), (251, .iload 11, 2), (253, .iconst 0, 1), (254, .invokevirtual 286, 3), (257, .iadd, 1), (258, .iaload, 1), (259, .goto 16, 3), (262, .iload 11, 2), (264, .iload 4, 2), (266, .if_icmp .ne 8, 3), (269, .iload 9, 2), (271, .goto 4, 3), (274, .iconst 0, 1), (275, .iastore, 1), (276, .iinc 11 1, 3), (279, .goto (-55), 3), (282, .aload_n 0, 1), (283, .iconst 1, 1), (284, .iconst 0, 1), (285, .invokevirtual 304, 3), (288, .istore 11, 2), (290, .iload 11, 2), (292, .ifCond .ne 6, 3), (295, .iconst 0, 1), (296, .istore 9, 2), (298, .iinc 7 1, 3), (301, .goto (-265), 3), (304, .return_, 1)]
theorem dtX7_groups_243_4_ok : dcAll cX7_groups dtX7_groups_243_4 = true := sorry
theorem dX7_groups_243 : decode cX7_groups 243 = .ok (.aload_n 0, 1) := sorry
theorem dX7_groups_244 : decode cX7_groups 244 = .ok (.getfield 24, 3) := sorry
theorem dX7_groups_247 : decode cX7_groups 247 = .ok (.iload 8, 2) := sorry
theorem dX7_groups_249 : decode cX7_groups 249 = .ok (.aload_n 0, 1) := sorry
theorem dX7_groups_250 : decode cX7_groups 250 = .ok (.iload_n 2, 1) := sorry
theorem dX7_groups_251 : decode cX7_groups 251 = .ok (.iload 11, 2) := sorry
theorem dX7_groups_253 : decode cX7_groups 253 = .ok (.iconst 0, 1) := sorry
theorem dX7_groups_254 : decode cX7_groups 254 = .ok (.invokevirtual 286, 3) := sorry
theorem dX7_groups_257 : decode cX7_groups 257 = .ok (.iadd, 1) := sorry
theorem dX7_groups_258 : decode cX7_groups 258 = .ok (.iaload, 1) := sorry
theorem dX7_groups_259 : decode cX7_groups 259 = .ok (.goto 16, 3) := sorry
theorem dX7_groups_262 : decode cX7_groups 262 = .ok (.iload 11, 2) := sorry
theorem dX7_groups_264 : decode cX7_groups 264 = .ok (.iload 4, 2) := sorry
theorem dX7_groups_266 : decode cX7_groups 266 = .ok (.if_icmp .ne 8, 3) := sorry
theorem dX7_groups_269 : decode cX7_groups 269 = .ok (.iload 9, 2) := sorry
theorem dX7_groups_271 : decode cX7_groups 271 = .ok (.goto 4, 3) := sorry
theorem dX7_groups_274 : decode cX7_groups 274 = .ok (.iconst 0, 1) := sorry
theorem dX7_groups_275 : decode cX7_groups 275 = .ok (.iastore, 1) := sorry
theorem dX7_groups_276 : decode cX7_groups 276 = .ok (.iinc 11 1, 3) := sorry
theorem dX7_groups_279 : decode cX7_groups 279 = .ok (.goto (-55), 3) := sorry
theorem dX7_groups_282 : decode cX7_groups 282 = .ok (.aload_n 0, 1) := sorry
theorem dX7_groups_283 : decode cX7_groups 283 = .ok (.iconst 1, 1) := sorry
theorem dX7_groups_284 : decode cX7_groups 284 = .ok (.iconst 0, 1) := sorry
theorem dX7_groups_285 : decode cX7_groups 285 = .ok (.invokevirtual 304, 3) := sorry
theorem dX7_groups_288 : decode cX7_groups 288 = .ok (.istore 11, 2) := sorry
theorem dX7_groups_290 : decode cX7_groups 290 = .ok (.iload 11, 2) := sorry
theorem dX7_groups_292 : decode cX7_groups 292 = .ok (.ifCond .ne 6, 3) := sorry
theorem dX7_groups_295 : decode cX7_groups 295 = .ok (.iconst 0, 1) := sorry
theorem dX7_groups_296 : decode cX7_groups 296 = .ok (.istore 9, 2) := sorry
theorem dX7_groups_298 : decode cX7_groups 298 = .ok (.iinc 7 1, 3) := sorry
theorem dX7_groups_301 : decode cX7_groups 301 = .ok (.goto (-265), 3) := sorry
theorem dX7_groups_304 : decode cX7_groups 304 = .ok (.return_, 1) := sorry
def dtX7_areOneGroup_0_0 : List (Nat × Instr × Nat) := [(0, .iconst 0, 1), (1, .istore 4, 2), (3, .iload 4, 2), (5, .aload_n 0, 1), (6, .iload_n 1, 1), (7, .invokevirtual 283, 3), (10, .if_icmp .ge 44, 3), (13, .aload_n 0, 1), (14, .getfield 24, 3), (17, .iload_n 2, 1), (18, .aload_n 0, 1), (19, .iload_n 1, 1), (20, .iload 4, 2), (22, .iconst 0, 1), (23, .invokevirtual 286, 3), (26, .iadd, 1), (27, .iaload, 1), (28, .aload_n 0, 1), (29, .getfield 24, 3), (32, .iload_n 3, 1), (33, .aload_n 0, 1), (34, .iload_n 1, 1), (35, .iload 4, 2), (37, .iconst 0, 1), (38, .invokevirtual 286, 3), (41, .iadd, 1), (42, .iaload, 1), (43, .if_icmp .eq 5, 3), (46, .iconst 0, 1), (47, .ireturn, 1), (48, .iinc 4 1, 3), (51, .goto (-48), 3)]
theorem dtX7_areOneGroup_0_0_ok : dcAll cX7_areOneGroup dtX7_areOneGroup_0_0 = true := sorry
theorem dX7_areOneGroup_0 : decode cX7_areOneGroup 0 = .ok (.iconst 0, 1) := sorry
theorem dX7_areOneGroup_1 : decode cX7_areOneGroup 1 = .ok (.istore 4, 2) := sorry
theorem dX7_areOneGroup_3 : decode cX7_areOneGroup 3 = .ok (.iload 4, 2) := sorry
theorem dX7_areOneGroup_5 : decode cX7_areOneGroup 5 = .ok (.aload_n 0, 1) := sorry
theorem dX7_areOneGroup_6 : decode cX7_areOneGroup 6 = .ok (.iload_n 1, 1) := sorry
theorem dX7_areOneGroup_7 : decode cX7_areOneGroup 7 = .ok (.invokevirtual 283, 3) := sorry
theorem dX7_areOneGroup_10 : decode cX7_areOneGroup 10 = .ok (.if_icmp .ge 44, 3) := sorry
theorem dX7_areOneGroup_13 : decode cX7_areOneGroup 13 = .ok (.aload_n 0, 1) := sorry
theorem dX7_areOneGroup_14 : decode cX7_areOneGroup 14 = .ok (.getfield 24, 3) := sorry
theorem dX7_areOneGroup_17 : decode cX7_areOneGroup 17 = .ok (.iload_n 2, 1) := sorry
theorem dX7_areOneGroup_18 : decode cX7_areOneGroup 18 = .ok (.aload_n 0, 1) := sorry
theorem dX7_areOneGroup_19 : decode cX7_areOneGroup 19 = .ok (.iload_n 1, 1) := sorry
theorem dX7_areOneGroup_20 : decode cX7_areOneGroup 20 = .ok (.iload 4, 2) := sorry
theorem dX7_areOneGroup_22 : decode cX7_areOneGroup 22 = .ok (.iconst 0, 1) := sorry
theorem dX7_areOneGroup_23 : decode cX7_areOneGroup 23 = .ok (.invokevirtual 286, 3) := sorry
theorem dX7_areOneGroup_26 : decode cX7_areOneGroup 26 = .ok (.iadd, 1) := sorry
theorem dX7_areOneGroup_27 : decode cX7_areOneGroup 27 = .ok (.iaload, 1) := sorry
theorem dX7_areOneGroup_28 : decode cX7_areOneGroup 28 = .ok (.aload_n 0, 1) := sorry
theorem dX7_areOneGroup_29 : decode cX7_areOneGroup 29 = .ok (.getfield 24, 3) := sorry
theorem dX7_areOneGroup_32 : decode cX7_areOneGroup 32 = .ok (.iload_n 3, 1) := sorry
theorem dX7_areOneGroup_33 : decode cX7_areOneGroup 33 = .ok (.aload_n 0, 1) := sorry
theorem dX7_areOneGroup_34 : decode cX7_areOneGroup 34 = .ok (.iload_n 1, 1) := sorry
theorem dX7_areOneGroup_35 : decode cX7_areOneGroup 35 = .ok (.iload 4, 2) := sorry
theorem dX7_areOneGroup_37 : decode cX7_areOneGroup 37 = .ok (.iconst 0, 1) := sorry
theorem dX7_areOneGroup_38 : decode cX7_areOneGroup 38 = .ok (.invokevirtual 286, 3) := sorry
theorem dX7_areOneGroup_41 : decode cX7_areOneGroup 41 = .ok (.iadd, 1) := sorry
theorem dX7_areOneGroup_42 : decode cX7_areOneGroup 42 = .ok (.iaload, 1) := sorry
theorem dX7_areOneGroup_43 : decode cX7_areOneGroup 43 = .ok (.if_icmp .eq 5, 3) := sorry
theorem dX7_areOneGroup_46 : decode cX7_areOneGroup 46 = .ok (.iconst 0, 1) := sorry
theorem dX7_areOneGroup_47 : decode cX7_areOneGroup 47 = .ok (.ireturn, 1) := sorry
theorem dX7_areOneGroup_48 : decode cX7_areOneGroup 48 = .ok (.iinc 4 1, 3) := sorry
theorem dX7_areOneGroup_51 : decode cX7_areOneGroup 51 = .ok (.goto (-48), 3) := sorry
def dtX7_areOneGroup_54_1 : List (Nat × Instr × Nat) := [(54, .iconst 1, 1), (55, .ireturn, 1)]
theorem dtX7_areOneGroup_54_1_ok : dcAll cX7_areOneGroup dtX7_areOneGroup_54_1 = true := sorry
theorem dX7_areOneGroup_54 : decode cX7_areOneGroup 54 = .ok (.iconst 1, 1) := sorry
theorem dX7_areOneGroup_55 : decode cX7_areOneGroup 55 = .ok (.ireturn, 1) := sorry
def dtX7_isFirstOfGroup_0_0 : List (Nat × Instr × Nat) := [(0, .iconst 0, 1), (1, .istore 4, 2), (3, .iload 4, 2), (5, .iload_n 3, 1), (6, .if_icmp .ge 40, 3), (9, .aload_n 0, 1), (10, .iload_n 2, 1), (11, .iload_n 1, 1), (12, .aload_n 0, 1), (13, .iload_n 2, 1), (14, .invokevirtual 289, 3), (17, .iload 4, 2), (19, .invokestatic 279, 3), (22, .iload_n 1, 1), (23, .aload_n 0, 1), (24, .iload_n 2, 1), (25, .invokevirtual 289, 3), (28, .iload_n 3, 1), (29, .invokestatic 279, 3), (32, .invokevirtual 311, 3), (35, .ifCond .eq 5, 3), (38, .iconst 0, 1), (39, .ireturn, 1), (40, .iinc 4 1, 3), (43, .goto (-40), 3), (46, .iconst 1, 1), (47, .ireturn, 1)]
theorem dtX7_isFirstOfGroup_0_0_ok : dcAll cX7_isFirstOfGroup dtX7_isFirstOfGroup_0_0 = true := sorry
theorem dX7_isFirstOfGroup_0 : decode cX7_isFirstOfGroup 0 = .ok (.iconst 0, 1) := sorry
theorem dX7_isFirstOfGroup_1 : decode cX7_isFirstOfGroup 1 = .ok (.istore 4, 2) := sorry
theorem dX7_isFirstOfGroup_3 : decode cX7_isFirstOfGroup 3 = .ok (.iload 4, 2) := sorry
theorem dX7_isFirstOfGroup_5 : decode cX7_isFirstOfGroup 5 = .ok (.iload_n 3, 1) := sorry
theorem dX7_isFirstOfGroup_6 : decode cX7_isFirstOfGroup 6 = .ok (.if_icmp .ge 40, 3) := sorry
theorem dX7_isFirstOfGroup_9 : decode cX7_isFirstOfGroup 9 = .ok (.aload_n 0, 1) := sorry
theorem dX7_isFirstOfGroup_10 : decode cX7_isFirstOfGroup 10 = .ok (.iload_n 2, 1) := sorry
theorem dX7_isFirstOfGroup_11 : decode cX7_isFirstOfGroup 11 = .ok (.iload_n 1, 1) := sorry
theorem dX7_isFirstOfGroup_12 : decode cX7_isFirstOfGroup 12 = .ok (.aload_n 0, 1) := sorry
theorem dX7_isFirstOfGroup_13 : decode cX7_isFirstOfGroup 13 = .ok (.iload_n 2, 1) := sorry
theorem dX7_isFirstOfGroup_14 : decode cX7_isFirstOfGroup 14 = .ok (.invokevirtual 289, 3) := sorry
theorem dX7_isFirstOfGroup_17 : decode cX7_isFirstOfGroup 17 = .ok (.iload 4, 2) := sorry
theorem dX7_isFirstOfGroup_19 : decode cX7_isFirstOfGroup 19 = .ok (.invokestatic 279, 3) := sorry
theorem dX7_isFirstOfGroup_22 : decode cX7_isFirstOfGroup 22 = .ok (.iload_n 1, 1) := sorry
theorem dX7_isFirstOfGroup_23 : decode cX7_isFirstOfGroup 23 = .ok (.aload_n 0, 1) := sorry
theorem dX7_isFirstOfGroup_24 : decode cX7_isFirstOfGroup 24 = .ok (.iload_n 2, 1) := sorry
theorem dX7_isFirstOfGroup_25 : decode cX7_isFirstOfGroup 25 = .ok (.invokevirtual 289, 3) := sorry
theorem dX7_isFirstOfGroup_28 : decode cX7_isFirstOfGroup 28 = .ok (.iload_n 3, 1) := sorry
theorem dX7_isFirstOfGroup_29 : decode cX7_isFirstOfGroup 29 = .ok (.invokestatic 279, 3) := sorry
theorem dX7_isFirstOfGroup_32 : decode cX7_isFirstOfGroup 32 = .ok (.invokevirtual 311, 3) := sorry
theorem dX7_isFirstOfGroup_35 : decode cX7_isFirstOfGroup 35 = .ok (.ifCond .eq 5, 3) := sorry
theorem dX7_isFirstOfGroup_38 : decode cX7_isFirstOfGroup 38 = .ok (.iconst 0, 1) := sorry
theorem dX7_isFirstOfGroup_39 : decode cX7_isFirstOfGroup 39 = .ok (.ireturn, 1) := sorry
theorem dX7_isFirstOfGroup_40 : decode cX7_isFirstOfGroup 40 = .ok (.iinc 4 1, 3) := sorry
theorem dX7_isFirstOfGroup_43 : decode cX7_isFirstOfGroup 43 = .ok (.goto (-40), 3) := sorry
theorem dX7_isFirstOfGroup_46 : decode cX7_isFirstOfGroup 46 = .ok (.iconst 1, 1) := sorry
theorem dX7_isFirstOfGroup_47 : decode cX7_isFirstOfGroup 47 = .ok (.ireturn, 1) := sorry
def dtX7_rings_0_0 : List (Nat × Instr × Nat) := [(0, .aload_n 0, 1), (1, .iload_n 2, 1), (2, .invokevirtual 289, 3), (5, .istore_n 3, 1), (6, .aload_n 0, 1), (7, .iload_n 3, 1), (8, .invokevirtual 301, 3), (11, .istore 4, 2), (13, .iconst 0, 1), (14, .istore 5, 2), (16, .iload 5, 2), (18, .aload_n 0, 1), (19, .iload_n 1, 1), (20, .iload_n 3, 1), (21, .invokevirtual 295, 3), (24, .if_icmp .ge 48, 3), (27, .aload_n 0, 1), (28, .getfield 24, 3), (31, .iload_n 1, 1), (32, .iload_n 3, 1), (33, .iload 5, 2), (35, .invokestatic 279, 3), (38, .iconst 4, 1), (39, .iadd, 1), (40, .iaload, 1), (41, .ifCond .gt 6, 3), (44, .goto 22, 3), (47, .aload_n 0, 1), (48, .iload_n 1, 1), (49, .iload_n 3, 1), (50, .iload 5, 2), (52, .invokestatic 279, 3)]
theorem dtX7_rings_0_0_ok : dcAll cX7_rings dtX7_rings_0_0 = true := sorry
theorem dX7_rings_0 : decode cX7_rings 0 = .ok (.aload_n 0, 1) := sorry
theorem dX7_rings_1 : decode cX7_rings 1 = .ok (.iload_n 2, 1) := sorry
theorem dX7_rings_2 : decode cX7_rings 2 = .ok (.invokevirtual 289, 3) := sorry
theorem dX7_rings_5 : decode cX7_rings 5 = .ok (.istore_n 3, 1) := sorry
theorem dX7_rings_6 : decode cX7_rings 6 = .ok (.aload_n 0, 1) := sorry
theorem dX7_rings_7 : decode cX7_rings 7 = .ok (.iload_n 3, 1) := sorry
theorem dX7_rings_8 : decode cX7_rings 8 = .ok (.invokevirtual 301, 3) := sorry
theorem dX7_rings_11 : decode cX7_rings 11 = .ok (.istore 4, 2) := sorry
theorem dX7_rings_13 : decode cX7_rings 13 = .ok (.iconst 0, 1) := sorry
theorem dX7_rings_14 : decode cX7_rings 14 = .ok (.istore 5, 2) := sorry
theorem dX7_rings_16 : decode cX7_rings 16 = .ok (.iload 5, 2) := sorry
theorem dX7_rings_18 : decode cX7_rings 18 = .ok (.aload_n 0, 1) := sorry
theorem dX7_rings_19 : decode cX7_rings 19 = .ok (.iload_n 1, 1) := sorry
theorem dX7_rings_20 : decode cX7_rings 20 = .ok (.iload_n 3, 1) := sorry
theorem dX7_rings_21 : decode cX7_rings 21 = .ok (.invokevirtual 295, 3) := sorry
theorem dX7_rings_24 : decode cX7_rings 24 = .ok (.if_icmp .ge 48, 3) := sorry
theorem dX7_rings_27 : decode cX7_rings 27 = .ok (.aload_n 0, 1) := sorry
theorem dX7_rings_28 : decode cX7_rings 28 = .ok (.getfield 24, 3) := sorry
theorem dX7_rings_31 : decode cX7_rings 31 = .ok (.iload_n 1, 1) := sorry
theorem dX7_rings_32 : decode cX7_rings 32 = .ok (.iload_n 3, 1) := sorry
theorem dX7_rings_33 : decode cX7_rings 33 = .ok (.iload 5, 2) := sorry
theorem dX7_rings_35 : decode cX7_rings 35 = .ok (.invokestatic 279, 3) := sorry
theorem dX7_rings_38 : decode cX7_rings 38 = .ok (.iconst 4, 1) := sorry
theorem dX7_rings_39 : decode cX7_rings 39 = .ok (.iadd, 1) := sorry
theorem dX7_rings_40 : decode cX7_rings 40 = .ok (.iaload, 1) := sorry
theorem dX7_rings_41 : decode cX7_rings 41 = .ok (.ifCond .gt 6, 3) := sorry
theorem dX7_rings_44 : decode cX7_rings 44 = .ok (.goto 22, 3) := sorry
theorem dX7_rings_47 : decode cX7_rings 47 = .ok (.aload_n 0, 1) := sorry
theorem dX7_rings_48 : decode cX7_rings 48 = .ok (.iload_n 1, 1) := sorry
theorem dX7_rings_49 : decode cX7_rings 49 = .ok (.iload_n 3, 1) := sorry
theorem dX7_rings_50 : decode cX7_rings 50 = .ok (.iload 5, 2) := sorry
theorem dX7_rings_52 : decode cX7_rings 52 = .ok (.invokestatic 279, 3) := sorry
def dtX7_rings_55_1 : List (Nat × Instr × Nat) := [(55, .invokevirtual 298, 3), (58, .aload_n 0, 1), (59, .iconst 1, 1), (60, .iconst 0, 1), (61, .invokevirtual 304, 3), (64, .istore 6, 2), (66, .iinc 5 1, 3), (69, .goto (-53), 3), (72, .aload_n 0, 1), (73, .getfield 51, 3), (76, .bipush 16, 2), (78, .iload_n 1, 1), (79, .imul, 1), (80, .iload_n 2, 1), (81, .iadd, 1), (82, .iconst 0, 1), (83, .iastore, 1), (84, .iconst 1, 1), (85, .istore 5, 2), (87, .iconst 0, 1), (88, .istore 6, 2), (90, .iconst 0, 1), (91, .istore 7, 2), (93, .iload 7, 2), (95, .aload_n 0, 1), (96, .getfield 269, 3), (99, .if_icmp .ge 74, 3), (102, .aload_n 0, 1), (103, .getfield 42, 3), (106, .bipush 6, 2), (108, .iload 7, 2), (110, .imul, 1)]
theorem dtX7_rings_55_1_ok : dcAll cX7_rings dtX7_rings_55_1 = true := sorry
theorem dX7_rings_55 : decode cX7_rings 55 = .ok (.invokevirtual 298, 3) := sorry
theorem dX7_rings_58 : decode cX7_rings 58 = .ok (.aload_n 0, 1) := sorry
theorem dX7_rings_59 : decode cX7_rings 59 = .ok (.iconst 1, 1) := sorry
theorem dX7_rings_60 : decode cX7_rings 60 = .ok (.iconst 0, 1) := sorry
theorem dX7_rings_61 : decode cX7_rings 61 = .ok (.invokevirtual 304, 3) := sorry
theorem dX7_rings_64 : decode cX7_rings 64 = .ok (.istore 6, 2) := sorry
theorem dX7_rings_66 : decode cX7_rings 66 = .ok (.iinc 5 1, 3) := sorry
theorem dX7_rings_69 : decode cX7_rings 69 = .ok (.goto (-53), 3) := sorry
theorem dX7_rings_72 : decode cX7_rings 72 = .ok (.aload_n 0, 1) := sorry
theorem dX7_rings_73 : decode cX7_rings 73 = .ok (.getfield 51, 3) := sorry
theorem dX7_rings_76 : decode cX7_rings 76 = .ok (.bipush 16, 2) := sorry
theorem dX7_rings_78 : decode cX7_rings 78 = .ok (.iload_n 1, 1) := sorry
theorem dX7_rings_79 : decode cX7_rings 79 = .ok (.imul, 1) := sorry
theorem dX7_rings_80 : decode cX7_rings 80 = .ok (.iload_n 2, 1) := sorry
theorem dX7_rings_81 : decode cX7_rings 81 = .ok (.iadd, 1) := sorry
theorem dX7_rings_82 : decode cX7_rings 82 = .ok (.iconst 0, 1) := sorry
theorem dX7_rings_83 : decode cX7_rings 83 = .ok (.iastore, 1) := sorry
theorem dX7_rings_84 : decode cX7_rings 84 = .ok (.iconst 1, 1) := sorry
theorem dX7_rings_85 : decode cX7_rings 85 = .ok (.istore 5, 2) := sorry
theorem dX7_rings_87 : decode cX7_rings 87 = .ok (.iconst 0, 1) := sorry
theorem dX7_rings_88 : decode cX7_rings 88 = .ok (.istore 6, 2) := sorry
theorem dX7_rings_90 : decode cX7_rings 90 = .ok (.iconst 0, 1) := sorry
theorem dX7_rings_91 : decode cX7_rings 91 = .ok (.istore 7, 2) := sorry
theorem dX7_rings_93 : decode cX7_rings 93 = .ok (.iload 7, 2) := sorry
theorem dX7_rings_95 : decode cX7_rings 95 = .ok (.aload_n 0, 1) := sorry
theorem dX7_rings_96 : decode cX7_rings 96 = .ok (.getfield 269, 3) := sorry
theorem dX7_rings_99 : decode cX7_rings 99 = .ok (.if_icmp .ge 74, 3) := sorry
theorem dX7_rings_102 : decode cX7_rings 102 = .ok (.aload_n 0, 1) := sorry
theorem dX7_rings_103 : decode cX7_rings 103 = .ok (.getfield 42, 3) := sorry
theorem dX7_rings_106 : decode cX7_rings 106 = .ok (.bipush 6, 2) := sorry
theorem dX7_rings_108 : decode cX7_rings 108 = .ok (.iload 7, 2) := sorry
theorem dX7_rings_110 : decode cX7_rings 110 = .ok (.imul, 1) := sorry
def dtX7_rings_111_2 : List (Nat × Instr × Nat) := [(111, .iconst 5, 1), (112, .iadd, 1), (113, .iaload, 1), (114, .iload 5, 2), (116, .iconst 1, 1), (117, .isub, 1), (118, .if_icmp .eq 6, 3), (121, .goto 46, 3), (124, .iconst 0, 1), (125, .istore 8, 2), (127, .iload 8, 2), (129, .iconst 4, 1), (130, .if_icmp .ge 34, 3), (133, .aload_n 0, 1), (134, .getfield 54, 3), (137, .iconst 4, 1), (138, .iload 6, 2), (140, .imul, 1), (141, .iload 8, 2), (143, .iadd, 1), (144, .aload_n 0, 1), (145, .getfield 42, 3), (148, .bipush 6, 2), (150, .iload 7, 2), (152, .imul, 1), (153, .iload 8, 2), (155, .iadd, 1), (156, .iaload, 1), (157, .iastore, 1), (158, .iinc 8 1, 3), (161, .goto (-34), 3), (164, .iinc 6 1, 3)]
theorem dtX7_rings_111_2_ok : dcAll cX7_rings dtX7_rings_111_2 = true := sorry
theorem dX7_rings_111 : decode cX7_rings 111 = .ok (.iconst 5, 1) := sorry
theorem dX7_rings_112 : decode cX7_rings 112 = .ok (.iadd, 1) := sorry
theorem dX7_rings_113 : decode cX7_rings 113 = .ok (.iaload, 1) := sorry
theorem dX7_rings_114 : decode cX7_rings 114 = .ok (.iload 5, 2) := sorry
theorem dX7_rings_116 : decode cX7_rings 116 = .ok (.iconst 1, 1) := sorry
theorem dX7_rings_117 : decode cX7_rings 117 = .ok (.isub, 1) := sorry
theorem dX7_rings_118 : decode cX7_rings 118 = .ok (.if_icmp .eq 6, 3) := sorry
theorem dX7_rings_121 : decode cX7_rings 121 = .ok (.goto 46, 3) := sorry
theorem dX7_rings_124 : decode cX7_rings 124 = .ok (.iconst 0, 1) := sorry
theorem dX7_rings_125 : decode cX7_rings 125 = .ok (.istore 8, 2) := sorry
theorem dX7_rings_127 : decode cX7_rings 127 = .ok (.iload 8, 2) := sorry
theorem dX7_rings_129 : decode cX7_rings 129 = .ok (.iconst 4, 1) := sorry
theorem dX7_rings_130 : decode cX7_rings 130 = .ok (.if_icmp .ge 34, 3) := sorry
theorem dX7_rings_133 : decode cX7_rings 133 = .ok (.aload_n 0, 1) := sorry
theorem dX7_rings_134 : decode cX7_rings 134 = .ok (.getfield 54, 3) := sorry
theorem dX7_rings_137 : decode cX7_rings 137 = .ok (.iconst 4, 1) := sorry
theorem dX7_rings_138 : decode cX7_rings 138 = .ok (.iload 6, 2) := sorry
theorem dX7_rings_140 : decode cX7_rings 140 = .ok (.imul, 1) := sorry
theorem dX7_rings_141 : decode cX7_rings 141 = .ok (.iload 8, 2) := sorry
theorem dX7_rings_143 : decode cX7_rings 143 = .ok (.iadd, 1) := sorry
theorem dX7_rings_144 : decode cX7_rings 144 = .ok (.aload_n 0, 1) := sorry
theorem dX7_rings_145 : decode cX7_rings 145 = .ok (.getfield 42, 3) := sorry
theorem dX7_rings_148 : decode cX7_rings 148 = .ok (.bipush 6, 2) := sorry
theorem dX7_rings_150 : decode cX7_rings 150 = .ok (.iload 7, 2) := sorry
theorem dX7_rings_152 : decode cX7_rings 152 = .ok (.imul, 1) := sorry
theorem dX7_rings_153 : decode cX7_rings 153 = .ok (.iload 8, 2) := sorry
theorem dX7_rings_155 : decode cX7_rings 155 = .ok (.iadd, 1) := sorry
theorem dX7_rings_156 : decode cX7_rings 156 = .ok (.iaload, 1) := sorry
theorem dX7_rings_157 : decode cX7_rings 157 = .ok (.iastore, 1) := sorry
theorem dX7_rings_158 : decode cX7_rings 158 = .ok (.iinc 8 1, 3) := sorry
theorem dX7_rings_161 : decode cX7_rings 161 = .ok (.goto (-34), 3) := sorry
theorem dX7_rings_164 : decode cX7_rings 164 = .ok (.iinc 6 1, 3) := sorry
def dtX7_rings_167_3 : List (Nat × Instr × Nat) := [(167, .iinc 7 1, 3), (170, .goto (-77), 3), (173, .aload_n 0, 1), (174, .getfield 269, 3), (177, .istore 7, 2), (179, .aload_n 0, 1), (180, .iload_n 1, 1), (181, .iload_n 2, 1), (182, .iload 4, 2), (184, .iload 6, 2), (186, .iload 5, 2), (188, .invokevirtual 314, 3), (191, .istore 8, 2), (193, .iload 8, 2), (195, .ifCond .ge 6, 3), (198, .iload 8, 2), (200, .ireturn, 1), (201, .aload_n 0, 1), (202, .getfield 269, 3), (205, .iload 7, 2), (207, .if_icmp .ne 5, 3), (210, .iconst 0, 1), (211, .ireturn, 1), (212, .aload_n 0, 1), (213, .getfield 51, 3), (216, .bipush 16, 2), (218, .iload_n 1, 1), (219, .imul, 1), (220, .iload_n 2, 1), (221, .iadd, 1), (222, .iload 5, 2), (224, .iastore, 1)]
theorem dtX7_rings_167_3_ok : dcAll cX7_rings dtX7_rings_167_3 = true := sorry
theorem dX7_rings_167 : decode cX7_rings 167 = .ok (.iinc 7 1, 3) := sorry
theorem dX7_rings_170 : decode cX7_rings 170 = .ok (.goto (-77), 3) := sorry
theorem dX7_rings_173 : decode cX7_rings 173 = .ok (.aload_n 0, 1) := sorry
theorem dX7_rings_174 : decode cX7_rings 174 = .ok (.getfield 269, 3) := sorry
theorem dX7_rings_177 : decode cX7_rings 177 = .ok (.istore 7, 2) := sorry
theorem dX7_rings_179 : decode cX7_rings 179 = .ok (.aload_n 0, 1) := sorry
theorem dX7_rings_180 : decode cX7_rings 180 = .ok (.iload_n 1, 1) := sorry
theorem dX7_rings_181 : decode cX7_rings 181 = .ok (.iload_n 2, 1) := sorry
theorem dX7_rings_182 : decode cX7_rings 182 = .ok (.iload 4, 2) := sorry
theorem dX7_rings_184 : decode cX7_rings 184 = .ok (.iload 6, 2) := sorry
theorem dX7_rings_186 : decode cX7_rings 186 = .ok (.iload 5, 2) := sorry
theorem dX7_rings_188 : decode cX7_rings 188 = .ok (.invokevirtual 314, 3) := sorry
theorem dX7_rings_191 : decode cX7_rings 191 = .ok (.istore 8, 2) := sorry
theorem dX7_rings_193 : decode cX7_rings 193 = .ok (.iload 8, 2) := sorry
theorem dX7_rings_195 : decode cX7_rings 195 = .ok (.ifCond .ge 6, 3) := sorry
theorem dX7_rings_198 : decode cX7_rings 198 = .ok (.iload 8, 2) := sorry
theorem dX7_rings_200 : decode cX7_rings 200 = .ok (.ireturn, 1) := sorry
theorem dX7_rings_201 : decode cX7_rings 201 = .ok (.aload_n 0, 1) := sorry
theorem dX7_rings_202 : decode cX7_rings 202 = .ok (.getfield 269, 3) := sorry
theorem dX7_rings_205 : decode cX7_rings 205 = .ok (.iload 7, 2) := sorry
theorem dX7_rings_207 : decode cX7_rings 207 = .ok (.if_icmp .ne 5, 3) := sorry
theorem dX7_rings_210 : decode cX7_rings 210 = .ok (.iconst 0, 1) := sorry
theorem dX7_rings_211 : decode cX7_rings 211 = .ok (.ireturn, 1) := sorry
theorem dX7_rings_212 : decode cX7_rings 212 = .ok (.aload_n 0, 1) := sorry
theorem dX7_rings_213 : decode cX7_rings 213 = .ok (.getfield 51, 3) := sorry
theorem dX7_rings_216 : decode cX7_rings 216 = .ok (.bipush 16, 2) := sorry
theorem dX7_rings_218 : decode cX7_rings 218 = .ok (.iload_n 1, 1) := sorry
theorem dX7_rings_219 : decode cX7_rings 219 = .ok (.imul, 1) := sorry
theorem dX7_rings_220 : decode cX7_rings 220 = .ok (.iload_n 2, 1) := sorry
theorem dX7_rings_221 : decode cX7_rings 221 = .ok (.iadd, 1) := sorry
theorem dX7_rings_222 : decode cX7_rings 222 = .ok (.iload 5, 2) := sorry
theorem dX7_rings_224 : decode cX7_rings 224 = .ok (.iastore, 1) := sorry
def dtX7_rings_225_4 : List (Nat × Instr × Nat) := [(225, .iinc 5 1, 3), (228, .goto (-141), 3)]
theorem dtX7_rings_225_4_ok : dcAll cX7_rings dtX7_rings_225_4 = true := sorry
theorem dX7_rings_225 : decode cX7_rings 225 = .ok (.iinc 5 1, 3) := sorry
theorem dX7_rings_228 : decode cX7_rings 228 = .ok (.goto (-141), 3) := sorry
def dtX7_ringsOnce_0_0 : List (Nat × Instr × Nat) := [(0, .aload_n 0, 1), (1, .iload_n 2, 1), (2, .invokevirtual 292, 3), (5, .istore 6, 2), (7, .iconst 0, 1), (8, .istore 7, 2), (10, .iload 7, 2), (12, .iload 4, 2), (14, .if_icmp .ge 244, 3), (17, .iconst 0, 1), (18, .istore 8, 2), (20, .iload 8, 2), (22, .aload_n 0, 1), (23, .iload_n 1, 1), (24, .iload 6, 2), (26, .invokevirtual 295, 3), (29, .if_icmp .ge 223, 3), (32, .iload_n 1, 1), (33, .iload 6, 2), (35, .iload 8, 2), (37, .invokestatic 279, 3), (40, .istore 9, 2), (42, .aload_n 0, 1), (43, .getfield 24, 3), (46, .iload 9, 2), (48, .iconst 4, 1), (49, .iadd, 1), (50, .iaload, 1), (51, .ifCond .le 195, 3), (54, .aload_n 0, 1), (55, .getfield 54, 3), (58, .iconst 4, 1)]
theorem dtX7_ringsOnce_0_0_ok : dcAll cX7_ringsOnce dtX7_ringsOnce_0_0 = true := sorry
theorem dX7_ringsOnce_0 : decode cX7_ringsOnce 0 = .ok (.aload_n 0, 1) := sorry
theorem dX7_ringsOnce_1 : decode cX7_ringsOnce 1 = .ok (.iload_n 2, 1) := sorry
theorem dX7_ringsOnce_2 : decode cX7_ringsOnce 2 = .ok (.invokevirtual 292, 3) := sorry
theorem dX7_ringsOnce_5 : decode cX7_ringsOnce 5 = .ok (.istore 6, 2) := sorry
theorem dX7_ringsOnce_7 : decode cX7_ringsOnce 7 = .ok (.iconst 0, 1) := sorry
theorem dX7_ringsOnce_8 : decode cX7_ringsOnce 8 = .ok (.istore 7, 2) := sorry
theorem dX7_ringsOnce_10 : decode cX7_ringsOnce 10 = .ok (.iload 7, 2) := sorry
theorem dX7_ringsOnce_12 : decode cX7_ringsOnce 12 = .ok (.iload 4, 2) := sorry
theorem dX7_ringsOnce_14 : decode cX7_ringsOnce 14 = .ok (.if_icmp .ge 244, 3) := sorry
theorem dX7_ringsOnce_17 : decode cX7_ringsOnce 17 = .ok (.iconst 0, 1) := sorry
theorem dX7_ringsOnce_18 : decode cX7_ringsOnce 18 = .ok (.istore 8, 2) := sorry
theorem dX7_ringsOnce_20 : decode cX7_ringsOnce 20 = .ok (.iload 8, 2) := sorry
theorem dX7_ringsOnce_22 : decode cX7_ringsOnce 22 = .ok (.aload_n 0, 1) := sorry
theorem dX7_ringsOnce_23 : decode cX7_ringsOnce 23 = .ok (.iload_n 1, 1) := sorry
theorem dX7_ringsOnce_24 : decode cX7_ringsOnce 24 = .ok (.iload 6, 2) := sorry
theorem dX7_ringsOnce_26 : decode cX7_ringsOnce 26 = .ok (.invokevirtual 295, 3) := sorry
theorem dX7_ringsOnce_29 : decode cX7_ringsOnce 29 = .ok (.if_icmp .ge 223, 3) := sorry
theorem dX7_ringsOnce_32 : decode cX7_ringsOnce 32 = .ok (.iload_n 1, 1) := sorry
theorem dX7_ringsOnce_33 : decode cX7_ringsOnce 33 = .ok (.iload 6, 2) := sorry
theorem dX7_ringsOnce_35 : decode cX7_ringsOnce 35 = .ok (.iload 8, 2) := sorry
theorem dX7_ringsOnce_37 : decode cX7_ringsOnce 37 = .ok (.invokestatic 279, 3) := sorry
theorem dX7_ringsOnce_40 : decode cX7_ringsOnce 40 = .ok (.istore 9, 2) := sorry
theorem dX7_ringsOnce_42 : decode cX7_ringsOnce 42 = .ok (.aload_n 0, 1) := sorry
theorem dX7_ringsOnce_43 : decode cX7_ringsOnce 43 = .ok (.getfield 24, 3) := sorry
theorem dX7_ringsOnce_46 : decode cX7_ringsOnce 46 = .ok (.iload 9, 2) := sorry
theorem dX7_ringsOnce_48 : decode cX7_ringsOnce 48 = .ok (.iconst 4, 1) := sorry
theorem dX7_ringsOnce_49 : decode cX7_ringsOnce 49 = .ok (.iadd, 1) := sorry
theorem dX7_ringsOnce_50 : decode cX7_ringsOnce 50 = .ok (.iaload, 1) := sorry
theorem dX7_ringsOnce_51 : decode cX7_ringsOnce 51 = .ok (.ifCond .le 195, 3) := sorry
theorem dX7_ringsOnce_54 : decode cX7_ringsOnce 54 = .ok (.aload_n 0, 1) := sorry
theorem dX7_ringsOnce_55 : decode cX7_ringsOnce 55 = .ok (.getfield 54, 3) := sorry
theorem dX7_ringsOnce_58 : decode cX7_ringsOnce 58 = .ok (.iconst 4, 1) := sorry
def dtX7_ringsOnce_59_1 : List (Nat × Instr × Nat) := [(59, .iload 7, 2), (61, .imul, 1), (62, .aload_n 0, 1), (63, .iload_n 2, 1), (64, .iconst 0, 1), (65, .iconst 0, 1), (66, .invokevirtual 286, 3), (69, .iadd, 1), (70, .iaload, 1), (71, .aload_n 0, 1), (72, .getfield 24, 3), (75, .iload 9, 2), (77, .aload_n 0, 1), (78, .iload_n 2, 1), (79, .iconst 0, 1), (80, .iconst 1, 1), (81, .invokevirtual 286, 3), (84, .iadd, 1), (85, .iaload, 1), (86, .if_icmp .eq 6, 3), (89, .goto 157, 3), (92, .iconst 0, 1), (93, .istore 10, 2), (95, .iload 10, 2), (97, .iload_n 3, 1), (98, .if_icmp .ge 28, 3), (101, .aload_n 0, 1), (102, .getfield 48, 3), (105, .iload 10, 2), (107, .aload_n 0, 1), (108, .getfield 54, 3), (111, .iconst 4, 1)]
theorem dtX7_ringsOnce_59_1_ok : dcAll cX7_ringsOnce dtX7_ringsOnce_59_1 = true := sorry
theorem dX7_ringsOnce_59 : decode cX7_ringsOnce 59 = .ok (.iload 7, 2) := sorry
theorem dX7_ringsOnce_61 : decode cX7_ringsOnce 61 = .ok (.imul, 1) := sorry
theorem dX7_ringsOnce_62 : decode cX7_ringsOnce 62 = .ok (.aload_n 0, 1) := sorry
theorem dX7_ringsOnce_63 : decode cX7_ringsOnce 63 = .ok (.iload_n 2, 1) := sorry
theorem dX7_ringsOnce_64 : decode cX7_ringsOnce 64 = .ok (.iconst 0, 1) := sorry
theorem dX7_ringsOnce_65 : decode cX7_ringsOnce 65 = .ok (.iconst 0, 1) := sorry
theorem dX7_ringsOnce_66 : decode cX7_ringsOnce 66 = .ok (.invokevirtual 286, 3) := sorry
theorem dX7_ringsOnce_69 : decode cX7_ringsOnce 69 = .ok (.iadd, 1) := sorry
theorem dX7_ringsOnce_70 : decode cX7_ringsOnce 70 = .ok (.iaload, 1) := sorry
theorem dX7_ringsOnce_71 : decode cX7_ringsOnce 71 = .ok (.aload_n 0, 1) := sorry
theorem dX7_ringsOnce_72 : decode cX7_ringsOnce 72 = .ok (.getfield 24, 3) := sorry
theorem dX7_ringsOnce_75 : decode cX7_ringsOnce 75 = .ok (.iload 9, 2) := sorry
theorem dX7_ringsOnce_77 : decode cX7_ringsOnce 77 = .ok (.aload_n 0, 1) := sorry
theorem dX7_ringsOnce_78 : decode cX7_ringsOnce 78 = .ok (.iload_n 2, 1) := sorry
theorem dX7_ringsOnce_79 : decode cX7_ringsOnce 79 = .ok (.iconst 0, 1) := sorry
theorem dX7_ringsOnce_80 : decode cX7_ringsOnce 80 = .ok (.iconst 1, 1) := sorry
theorem dX7_ringsOnce_81 : decode cX7_ringsOnce 81 = .ok (.invokevirtual 286, 3) := sorry
theorem dX7_ringsOnce_84 : decode cX7_ringsOnce 84 = .ok (.iadd, 1) := sorry
theorem dX7_ringsOnce_85 : decode cX7_ringsOnce 85 = .ok (.iaload, 1) := sorry
theorem dX7_ringsOnce_86 : decode cX7_ringsOnce 86 = .ok (.if_icmp .eq 6, 3) := sorry
theorem dX7_ringsOnce_89 : decode cX7_ringsOnce 89 = .ok (.goto 157, 3) := sorry
theorem dX7_ringsOnce_92 : decode cX7_ringsOnce 92 = .ok (.iconst 0, 1) := sorry
theorem dX7_ringsOnce_93 : decode cX7_ringsOnce 93 = .ok (.istore 10, 2) := sorry
theorem dX7_ringsOnce_95 : decode cX7_ringsOnce 95 = .ok (.iload 10, 2) := sorry
theorem dX7_ringsOnce_97 : decode cX7_ringsOnce 97 = .ok (.iload_n 3, 1) := sorry
theorem dX7_ringsOnce_98 : decode cX7_ringsOnce 98 = .ok (.if_icmp .ge 28, 3) := sorry
theorem dX7_ringsOnce_101 : decode cX7_ringsOnce 101 = .ok (.aload_n 0, 1) := sorry
theorem dX7_ringsOnce_102 : decode cX7_ringsOnce 102 = .ok (.getfield 48, 3) := sorry
theorem dX7_ringsOnce_105 : decode cX7_ringsOnce 105 = .ok (.iload 10, 2) := sorry
theorem dX7_ringsOnce_107 : decode cX7_ringsOnce 107 = .ok (.aload_n 0, 1) := sorry
theorem dX7_ringsOnce_108 : decode cX7_ringsOnce 108 = .ok (.getfield 54, 3) := sorry
theorem dX7_ringsOnce_111 : decode cX7_ringsOnce 111 = .ok (.iconst 4, 1) := sorry
def dtX7_ringsOnce_112_2 : List (Nat × Instr × Nat) := [(112, .iload 7, 2), (114, .imul, 1), (115, .iload 10, 2), (117, .iadd, 1), (118, .iaload, 1), (119, .iastore, 1), (120, .iinc 10 1, 3), (123, .goto (-28), 3), (126, .iconst 0, 1), (127, .istore 10, 2), (129, .iload 10, 2), (131, .aload_n 0, 1), (132, .iload 6, 2), (134, .invokevirtual 301, 3), (137, .if_icmp .ge 28, 3), (140, .aload_n 0, 1), (141, .getfield 48, 3), (144, .iload_n 3, 1), (145, .iload 10, 2), (147, .iadd, 1), (148, .aload_n 0, 1), (149, .getfield 24, 3), (152, .iload 9, 2), (154, .iload 10, 2), (156, .iadd, 1), (157, .iaload, 1), (158, .iastore, 1), (159, .iinc 10 1, 3), (162, .goto (-33), 3), (165, .aload_n 0, 1), (166, .iload_n 2, 1), (167, .iconst 1, 1)]
theorem dtX7_ringsOnce_112_2_ok : dcAll cX7_ringsOnce dtX7_ringsOnce_112_2 = true := sorry
theorem dX7_ringsOnce_112 : decode cX7_ringsOnce 112 = .ok (.iload 7, 2) := sorry
theorem dX7_ringsOnce_114 : decode cX7_ringsOnce 114 = .ok (.imul, 1) := sorry
theorem dX7_ringsOnce_115 : decode cX7_ringsOnce 115 = .ok (.iload 10, 2) := sorry
theorem dX7_ringsOnce_117 : decode cX7_ringsOnce 117 = .ok (.iadd, 1) := sorry
theorem dX7_ringsOnce_118 : decode cX7_ringsOnce 118 = .ok (.iaload, 1) := sorry
theorem dX7_ringsOnce_119 : decode cX7_ringsOnce 119 = .ok (.iastore, 1) := sorry
theorem dX7_ringsOnce_120 : decode cX7_ringsOnce 120 = .ok (.iinc 10 1, 3) := sorry
theorem dX7_ringsOnce_123 : decode cX7_ringsOnce 123 = .ok (.goto (-28), 3) := sorry
theorem dX7_ringsOnce_126 : decode cX7_ringsOnce 126 = .ok (.iconst 0, 1) := sorry
theorem dX7_ringsOnce_127 : decode cX7_ringsOnce 127 = .ok (.istore 10, 2) := sorry
theorem dX7_ringsOnce_129 : decode cX7_ringsOnce 129 = .ok (.iload 10, 2) := sorry
theorem dX7_ringsOnce_131 : decode cX7_ringsOnce 131 = .ok (.aload_n 0, 1) := sorry
theorem dX7_ringsOnce_132 : decode cX7_ringsOnce 132 = .ok (.iload 6, 2) := sorry
theorem dX7_ringsOnce_134 : decode cX7_ringsOnce 134 = .ok (.invokevirtual 301, 3) := sorry
theorem dX7_ringsOnce_137 : decode cX7_ringsOnce 137 = .ok (.if_icmp .ge 28, 3) := sorry
theorem dX7_ringsOnce_140 : decode cX7_ringsOnce 140 = .ok (.aload_n 0, 1) := sorry
theorem dX7_ringsOnce_141 : decode cX7_ringsOnce 141 = .ok (.getfield 48, 3) := sorry
theorem dX7_ringsOnce_144 : decode cX7_ringsOnce 144 = .ok (.iload_n 3, 1) := sorry
theorem dX7_ringsOnce_145 : decode cX7_ringsOnce 145 = .ok (.iload 10, 2) := sorry
theorem dX7_ringsOnce_147 : decode cX7_ringsOnce 147 = .ok (.iadd, 1) := sorry
theorem dX7_ringsOnce_148 : decode cX7_ringsOnce 148 = .ok (.aload_n 0, 1) := sorry
theorem dX7_ringsOnce_149 : decode cX7_ringsOnce 149 = .ok (.getfield 24, 3) := sorry
theorem dX7_ringsOnce_152 : decode cX7_ringsOnce 152 = .ok (.iload 9, 2) := sorry
theorem dX7_ringsOnce_154 : decode cX7_ringsOnce 154 = .ok (.iload 10, 2) := sorry
theorem dX7_ringsOnce_156 : decode cX7_ringsOnce 156 = .ok (.iadd, 1) := sorry
theorem dX7_ringsOnce_157 : decode cX7_ringsOnce 157 = .ok (.iaload, 1) := sorry
theorem dX7_ringsOnce_158 : decode cX7_ringsOnce 158 = .ok (.iastore, 1) := sorry
theorem dX7_ringsOnce_159 : decode cX7_ringsOnce 159 = .ok (.iinc 10 1, 3) := sorry
theorem dX7_ringsOnce_162 : decode cX7_ringsOnce 162 = .ok (.goto (-33), 3) := sorry
theorem dX7_ringsOnce_165 : decode cX7_ringsOnce 165 = .ok (.aload_n 0, 1) := sorry
theorem dX7_ringsOnce_166 : decode cX7_ringsOnce 166 = .ok (.iload_n 2, 1) := sorry
theorem dX7_ringsOnce_167 : decode cX7_ringsOnce 167 = .ok (.iconst 1, 1) := sorry
def dtX7_ringsOnce_168_3 : List (Nat × Instr × Nat) := [(168, .iload_n 3, 1), (169, .invokevirtual 318, 3), (172, .aload_n 0, 1), (173, .invokevirtual 276, 3), (176, .istore 10, 2), (178, .iload 10, 2), (180, .aload_n 0, 1), (181, .getfield 269, 3), (184, .if_icmp .ge 26, 3), (187, .aload_n 0, 1), (188, .getfield 42, 3), (191, .bipush 6, 2), (193, .iload 10, 2), (195, .imul, 1), (196, .aload_n 0, 1), (197, .getfield 45, 3), (200, .iconst 0, 1), (201, .invokestatic 272, 3), (204, .ifCond .ne 6, 3), (207, .goto 39, 3), (210, .iload 5, 2), (212, .bipush 40, 2), (214, .if_icmp .le 6, 3), (217, .bipush (-4), 2), (219, .ireturn, 1), (220, .aload_n 0, 1), (221, .iconst 1, 1), (222, .iload 5, 2), (224, .invokevirtual 304, 3), (227, .istore 11, 2), (229, .iload 11, 2), (231, .ifCond .eq 15, 3)]
theorem dtX7_ringsOnce_168_3_ok : dcAll cX7_ringsOnce dtX7_ringsOnce_168_3 = true := sorry
theorem dX7_ringsOnce_168 : decode cX7_ringsOnce 168 = .ok (.iload_n 3, 1) := sorry
theorem dX7_ringsOnce_169 : decode cX7_ringsOnce 169 = .ok (.invokevirtual 318, 3) := sorry
theorem dX7_ringsOnce_172 : decode cX7_ringsOnce 172 = .ok (.aload_n 0, 1) := sorry
theorem dX7_ringsOnce_173 : decode cX7_ringsOnce 173 = .ok (.invokevirtual 276, 3) := sorry
theorem dX7_ringsOnce_176 : decode cX7_ringsOnce 176 = .ok (.istore 10, 2) := sorry
theorem dX7_ringsOnce_178 : decode cX7_ringsOnce 178 = .ok (.iload 10, 2) := sorry
theorem dX7_ringsOnce_180 : decode cX7_ringsOnce 180 = .ok (.aload_n 0, 1) := sorry
theorem dX7_ringsOnce_181 : decode cX7_ringsOnce 181 = .ok (.getfield 269, 3) := sorry
theorem dX7_ringsOnce_184 : decode cX7_ringsOnce 184 = .ok (.if_icmp .ge 26, 3) := sorry
theorem dX7_ringsOnce_187 : decode cX7_ringsOnce 187 = .ok (.aload_n 0, 1) := sorry
theorem dX7_ringsOnce_188 : decode cX7_ringsOnce 188 = .ok (.getfield 42, 3) := sorry
theorem dX7_ringsOnce_191 : decode cX7_ringsOnce 191 = .ok (.bipush 6, 2) := sorry
theorem dX7_ringsOnce_193 : decode cX7_ringsOnce 193 = .ok (.iload 10, 2) := sorry
theorem dX7_ringsOnce_195 : decode cX7_ringsOnce 195 = .ok (.imul, 1) := sorry
theorem dX7_ringsOnce_196 : decode cX7_ringsOnce 196 = .ok (.aload_n 0, 1) := sorry
theorem dX7_ringsOnce_197 : decode cX7_ringsOnce 197 = .ok (.getfield 45, 3) := sorry
theorem dX7_ringsOnce_200 : decode cX7_ringsOnce 200 = .ok (.iconst 0, 1) := sorry
theorem dX7_ringsOnce_201 : decode cX7_ringsOnce 201 = .ok (.invokestatic 272, 3) := sorry
theorem dX7_ringsOnce_204 : decode cX7_ringsOnce 204 = .ok (.ifCond .ne 6, 3) := sorry
theorem dX7_ringsOnce_207 : decode cX7_ringsOnce 207 = .ok (.goto 39, 3) := sorry
theorem dX7_ringsOnce_210 : decode cX7_ringsOnce 210 = .ok (.iload 5, 2) := sorry
theorem dX7_ringsOnce_212 : decode cX7_ringsOnce 212 = .ok (.bipush 40, 2) := sorry
theorem dX7_ringsOnce_214 : decode cX7_ringsOnce 214 = .ok (.if_icmp .le 6, 3) := sorry
theorem dX7_ringsOnce_217 : decode cX7_ringsOnce 217 = .ok (.bipush (-4), 2) := sorry
theorem dX7_ringsOnce_219 : decode cX7_ringsOnce 219 = .ok (.ireturn, 1) := sorry
theorem dX7_ringsOnce_220 : decode cX7_ringsOnce 220 = .ok (.aload_n 0, 1) := sorry
theorem dX7_ringsOnce_221 : decode cX7_ringsOnce 221 = .ok (.iconst 1, 1) := sorry
theorem dX7_ringsOnce_222 : decode cX7_ringsOnce 222 = .ok (.iload 5, 2) := sorry
theorem dX7_ringsOnce_224 : decode cX7_ringsOnce 224 = .ok (.invokevirtual 304, 3) := sorry
theorem dX7_ringsOnce_227 : decode cX7_ringsOnce 227 = .ok (.istore 11, 2) := sorry
theorem dX7_ringsOnce_229 : decode cX7_ringsOnce 229 = .ok (.iload 11, 2) := sorry
theorem dX7_ringsOnce_231 : decode cX7_ringsOnce 231 = .ok (.ifCond .eq 15, 3) := sorry
def dtX7_ringsOnce_234_4 : List (Nat × Instr × Nat) := [(234, .aload_n 0, 1), (235, .getfield 269, 3), (238, .bipush 120, 2), (240, .if_icmp .le 6, 3), (243, .bipush (-3), 2), (245, .ireturn, 1), (246, .iinc 8 1, 3), (249, .goto (-229), 3), (252, .iinc 7 1, 3), (255, .goto (-245), 3), (258, .iconst 0, 1), (259, .ireturn, 1)]
theorem dtX7_ringsOnce_234_4_ok : dcAll cX7_ringsOnce dtX7_ringsOnce_234_4 = true := sorry
theorem dX7_ringsOnce_234 : decode cX7_ringsOnce 234 = .ok (.aload_n 0, 1) := sorry
theorem dX7_ringsOnce_235 : decode cX7_ringsOnce 235 = .ok (.getfield 269, 3) := sorry
theorem dX7_ringsOnce_238 : decode cX7_ringsOnce 238 = .ok (.bipush 120, 2) := sorry
theorem dX7_ringsOnce_240 : decode cX7_ringsOnce 240 = .ok (.if_icmp .le 6, 3) := sorry
theorem dX7_ringsOnce_243 : decode cX7_ringsOnce 243 = .ok (.bipush (-3), 2) := sorry
theorem dX7_ringsOnce_245 : decode cX7_ringsOnce 245 = .ok (.ireturn, 1) := sorry
theorem dX7_ringsOnce_246 : decode cX7_ringsOnce 246 = .ok (.iinc 8 1, 3) := sorry
theorem dX7_ringsOnce_249 : decode cX7_ringsOnce 249 = .ok (.goto (-229), 3) := sorry
theorem dX7_ringsOnce_252 : decode cX7_ringsOnce 252 = .ok (.iinc 7 1, 3) := sorry
theorem dX7_ringsOnce_255 : decode cX7_ringsOnce 255 = .ok (.goto (-245), 3) := sorry
theorem dX7_ringsOnce_258 : decode cX7_ringsOnce 258 = .ok (.iconst 0, 1) := sorry
theorem dX7_ringsOnce_259 : decode cX7_ringsOnce 259 = .ok (.ireturn, 1) := sorry
def dtX7_reckons_0_0 : List (Nat × Instr × Nat) := [(0, .aload_n 0, 1), (1, .iconst 0, 1), (2, .putfield 269, 3), (5, .aload_n 0, 1), (6, .iload_n 2, 1), (7, .invokevirtual 289, 3), (10, .istore_n 3, 1), (11, .aload_n 0, 1), (12, .iload_n 2, 1), (13, .invokevirtual 322, 3), (16, .istore 4, 2), (18, .iload 4, 2), (20, .iconst 3, 1), (21, .if_icmp .ne 28, 3), (24, .aload_n 0, 1), (25, .iload_n 1, 1), (26, .iload_n 2, 1), (27, .invokevirtual 325, 3), (30, .istore 5, 2), (32, .iload 5, 2), (34, .ifCond .ge 8, 3), (37, .iload 5, 2), (39, .goto 9, 3), (42, .aload_n 0, 1), (43, .iload_n 1, 1), (44, .iload_n 2, 1), (45, .invokevirtual 328, 3), (48, .ireturn, 1), (49, .iload 4, 2), (51, .bipush 8, 2), (53, .if_icmp .ne 28, 3), (56, .aload_n 0, 1)]
theorem dtX7_reckons_0_0_ok : dcAll cX7_reckons dtX7_reckons_0_0 = true := sorry
theorem dX7_reckons_0 : decode cX7_reckons 0 = .ok (.aload_n 0, 1) := sorry
theorem dX7_reckons_1 : decode cX7_reckons 1 = .ok (.iconst 0, 1) := sorry
theorem dX7_reckons_2 : decode cX7_reckons 2 = .ok (.putfield 269, 3) := sorry
theorem dX7_reckons_5 : decode cX7_reckons 5 = .ok (.aload_n 0, 1) := sorry
theorem dX7_reckons_6 : decode cX7_reckons 6 = .ok (.iload_n 2, 1) := sorry
theorem dX7_reckons_7 : decode cX7_reckons 7 = .ok (.invokevirtual 289, 3) := sorry
theorem dX7_reckons_10 : decode cX7_reckons 10 = .ok (.istore_n 3, 1) := sorry
theorem dX7_reckons_11 : decode cX7_reckons 11 = .ok (.aload_n 0, 1) := sorry
theorem dX7_reckons_12 : decode cX7_reckons 12 = .ok (.iload_n 2, 1) := sorry
theorem dX7_reckons_13 : decode cX7_reckons 13 = .ok (.invokevirtual 322, 3) := sorry
theorem dX7_reckons_16 : decode cX7_reckons 16 = .ok (.istore 4, 2) := sorry
theorem dX7_reckons_18 : decode cX7_reckons 18 = .ok (.iload 4, 2) := sorry
theorem dX7_reckons_20 : decode cX7_reckons 20 = .ok (.iconst 3, 1) := sorry
theorem dX7_reckons_21 : decode cX7_reckons 21 = .ok (.if_icmp .ne 28, 3) := sorry
theorem dX7_reckons_24 : decode cX7_reckons 24 = .ok (.aload_n 0, 1) := sorry
theorem dX7_reckons_25 : decode cX7_reckons 25 = .ok (.iload_n 1, 1) := sorry
theorem dX7_reckons_26 : decode cX7_reckons 26 = .ok (.iload_n 2, 1) := sorry
theorem dX7_reckons_27 : decode cX7_reckons 27 = .ok (.invokevirtual 325, 3) := sorry
theorem dX7_reckons_30 : decode cX7_reckons 30 = .ok (.istore 5, 2) := sorry
theorem dX7_reckons_32 : decode cX7_reckons 32 = .ok (.iload 5, 2) := sorry
theorem dX7_reckons_34 : decode cX7_reckons 34 = .ok (.ifCond .ge 8, 3) := sorry
theorem dX7_reckons_37 : decode cX7_reckons 37 = .ok (.iload 5, 2) := sorry
theorem dX7_reckons_39 : decode cX7_reckons 39 = .ok (.goto 9, 3) := sorry
theorem dX7_reckons_42 : decode cX7_reckons 42 = .ok (.aload_n 0, 1) := sorry
theorem dX7_reckons_43 : decode cX7_reckons 43 = .ok (.iload_n 1, 1) := sorry
theorem dX7_reckons_44 : decode cX7_reckons 44 = .ok (.iload_n 2, 1) := sorry
theorem dX7_reckons_45 : decode cX7_reckons 45 = .ok (.invokevirtual 328, 3) := sorry
theorem dX7_reckons_48 : decode cX7_reckons 48 = .ok (.ireturn, 1) := sorry
theorem dX7_reckons_49 : decode cX7_reckons 49 = .ok (.iload 4, 2) := sorry
theorem dX7_reckons_51 : decode cX7_reckons 51 = .ok (.bipush 8, 2) := sorry
theorem dX7_reckons_53 : decode cX7_reckons 53 = .ok (.if_icmp .ne 28, 3) := sorry
theorem dX7_reckons_56 : decode cX7_reckons 56 = .ok (.aload_n 0, 1) := sorry
def dtX7_reckons_57_1 : List (Nat × Instr × Nat) := [(57, .iload_n 1, 1), (58, .iload_n 2, 1), (59, .invokevirtual 331, 3), (62, .istore 5, 2), (64, .iload 5, 2), (66, .ifCond .ge 8, 3), (69, .iload 5, 2), (71, .goto 9, 3), (74, .aload_n 0, 1), (75, .iload_n 1, 1), (76, .iload_n 2, 1), (77, .invokevirtual 328, 3), (80, .ireturn, 1), (81, .iload 4, 2), (83, .bipush 7, 2), (85, .if_icmp .ne 16, 3), (88, .aload_n 0, 1), (89, .iload_n 1, 1), (90, .iload_n 2, 1), (91, .invokevirtual 334, 3), (94, .aload_n 0, 1), (95, .iload_n 1, 1), (96, .iload_n 2, 1), (97, .invokevirtual 328, 3), (100, .ireturn, 1), (101, .iconst 0, 1), (102, .istore 5, 2), (104, .iload 5, 2), (106, .aload_n 0, 1), (107, .iload_n 1, 1), (108, .iload_n 3, 1), (109, .invokevirtual 295, 3)]
theorem dtX7_reckons_57_1_ok : dcAll cX7_reckons dtX7_reckons_57_1 = true := sorry
theorem dX7_reckons_57 : decode cX7_reckons 57 = .ok (.iload_n 1, 1) := sorry
theorem dX7_reckons_58 : decode cX7_reckons 58 = .ok (.iload_n 2, 1) := sorry
theorem dX7_reckons_59 : decode cX7_reckons 59 = .ok (.invokevirtual 331, 3) := sorry
theorem dX7_reckons_62 : decode cX7_reckons 62 = .ok (.istore 5, 2) := sorry
theorem dX7_reckons_64 : decode cX7_reckons 64 = .ok (.iload 5, 2) := sorry
theorem dX7_reckons_66 : decode cX7_reckons 66 = .ok (.ifCond .ge 8, 3) := sorry
theorem dX7_reckons_69 : decode cX7_reckons 69 = .ok (.iload 5, 2) := sorry
theorem dX7_reckons_71 : decode cX7_reckons 71 = .ok (.goto 9, 3) := sorry
theorem dX7_reckons_74 : decode cX7_reckons 74 = .ok (.aload_n 0, 1) := sorry
theorem dX7_reckons_75 : decode cX7_reckons 75 = .ok (.iload_n 1, 1) := sorry
theorem dX7_reckons_76 : decode cX7_reckons 76 = .ok (.iload_n 2, 1) := sorry
theorem dX7_reckons_77 : decode cX7_reckons 77 = .ok (.invokevirtual 328, 3) := sorry
theorem dX7_reckons_80 : decode cX7_reckons 80 = .ok (.ireturn, 1) := sorry
theorem dX7_reckons_81 : decode cX7_reckons 81 = .ok (.iload 4, 2) := sorry
theorem dX7_reckons_83 : decode cX7_reckons 83 = .ok (.bipush 7, 2) := sorry
theorem dX7_reckons_85 : decode cX7_reckons 85 = .ok (.if_icmp .ne 16, 3) := sorry
theorem dX7_reckons_88 : decode cX7_reckons 88 = .ok (.aload_n 0, 1) := sorry
theorem dX7_reckons_89 : decode cX7_reckons 89 = .ok (.iload_n 1, 1) := sorry
theorem dX7_reckons_90 : decode cX7_reckons 90 = .ok (.iload_n 2, 1) := sorry
theorem dX7_reckons_91 : decode cX7_reckons 91 = .ok (.invokevirtual 334, 3) := sorry
theorem dX7_reckons_94 : decode cX7_reckons 94 = .ok (.aload_n 0, 1) := sorry
theorem dX7_reckons_95 : decode cX7_reckons 95 = .ok (.iload_n 1, 1) := sorry
theorem dX7_reckons_96 : decode cX7_reckons 96 = .ok (.iload_n 2, 1) := sorry
theorem dX7_reckons_97 : decode cX7_reckons 97 = .ok (.invokevirtual 328, 3) := sorry
theorem dX7_reckons_100 : decode cX7_reckons 100 = .ok (.ireturn, 1) := sorry
theorem dX7_reckons_101 : decode cX7_reckons 101 = .ok (.iconst 0, 1) := sorry
theorem dX7_reckons_102 : decode cX7_reckons 102 = .ok (.istore 5, 2) := sorry
theorem dX7_reckons_104 : decode cX7_reckons 104 = .ok (.iload 5, 2) := sorry
theorem dX7_reckons_106 : decode cX7_reckons 106 = .ok (.aload_n 0, 1) := sorry
theorem dX7_reckons_107 : decode cX7_reckons 107 = .ok (.iload_n 1, 1) := sorry
theorem dX7_reckons_108 : decode cX7_reckons 108 = .ok (.iload_n 3, 1) := sorry
theorem dX7_reckons_109 : decode cX7_reckons 109 = .ok (.invokevirtual 295, 3) := sorry
def dtX7_reckons_112_2 : List (Nat × Instr × Nat) := [(112, .if_icmp .ge 165, 3), (115, .iload_n 1, 1), (116, .iload_n 3, 1), (117, .iload 5, 2), (119, .invokestatic 279, 3), (122, .istore 6, 2), (124, .aload_n 0, 1), (125, .getfield 24, 3), (128, .iload 6, 2), (130, .iconst 4, 1), (131, .iadd, 1), (132, .iaload, 1), (133, .istore 7, 2), (135, .iload 4, 2), (137, .iconst 1, 1), (138, .if_icmp .ne 13, 3), (141, .aload_n 0, 1), (142, .iload_n 2, 1), (143, .iload 6, 2), (145, .invokevirtual 337, 3), (148, .goto 20, 3), (151, .iload 4, 2), (153, .bipush 6, 2), (155, .if_icmp .ne 8, 3), (158, .iload 7, 2), (160, .ifCond .le 7, 3), (163, .iconst 1, 1), (164, .goto 4, 3), (167, .iconst 0, 1), (168, .istore 8, 2), (170, .iload 8, 2), (172, .ifCond .ne 6, 3)]
theorem dtX7_reckons_112_2_ok : dcAll cX7_reckons dtX7_reckons_112_2 = true := sorry
theorem dX7_reckons_112 : decode cX7_reckons 112 = .ok (.if_icmp .ge 165, 3) := sorry
theorem dX7_reckons_115 : decode cX7_reckons 115 = .ok (.iload_n 1, 1) := sorry
theorem dX7_reckons_116 : decode cX7_reckons 116 = .ok (.iload_n 3, 1) := sorry
theorem dX7_reckons_117 : decode cX7_reckons 117 = .ok (.iload 5, 2) := sorry
theorem dX7_reckons_119 : decode cX7_reckons 119 = .ok (.invokestatic 279, 3) := sorry
theorem dX7_reckons_122 : decode cX7_reckons 122 = .ok (.istore 6, 2) := sorry
theorem dX7_reckons_124 : decode cX7_reckons 124 = .ok (.aload_n 0, 1) := sorry
theorem dX7_reckons_125 : decode cX7_reckons 125 = .ok (.getfield 24, 3) := sorry
theorem dX7_reckons_128 : decode cX7_reckons 128 = .ok (.iload 6, 2) := sorry
theorem dX7_reckons_130 : decode cX7_reckons 130 = .ok (.iconst 4, 1) := sorry
theorem dX7_reckons_131 : decode cX7_reckons 131 = .ok (.iadd, 1) := sorry
theorem dX7_reckons_132 : decode cX7_reckons 132 = .ok (.iaload, 1) := sorry
theorem dX7_reckons_133 : decode cX7_reckons 133 = .ok (.istore 7, 2) := sorry
theorem dX7_reckons_135 : decode cX7_reckons 135 = .ok (.iload 4, 2) := sorry
theorem dX7_reckons_137 : decode cX7_reckons 137 = .ok (.iconst 1, 1) := sorry
theorem dX7_reckons_138 : decode cX7_reckons 138 = .ok (.if_icmp .ne 13, 3) := sorry
theorem dX7_reckons_141 : decode cX7_reckons 141 = .ok (.aload_n 0, 1) := sorry
theorem dX7_reckons_142 : decode cX7_reckons 142 = .ok (.iload_n 2, 1) := sorry
theorem dX7_reckons_143 : decode cX7_reckons 143 = .ok (.iload 6, 2) := sorry
theorem dX7_reckons_145 : decode cX7_reckons 145 = .ok (.invokevirtual 337, 3) := sorry
theorem dX7_reckons_148 : decode cX7_reckons 148 = .ok (.goto 20, 3) := sorry
theorem dX7_reckons_151 : decode cX7_reckons 151 = .ok (.iload 4, 2) := sorry
theorem dX7_reckons_153 : decode cX7_reckons 153 = .ok (.bipush 6, 2) := sorry
theorem dX7_reckons_155 : decode cX7_reckons 155 = .ok (.if_icmp .ne 8, 3) := sorry
theorem dX7_reckons_158 : decode cX7_reckons 158 = .ok (.iload 7, 2) := sorry
theorem dX7_reckons_160 : decode cX7_reckons 160 = .ok (.ifCond .le 7, 3) := sorry
theorem dX7_reckons_163 : decode cX7_reckons 163 = .ok (.iconst 1, 1) := sorry
theorem dX7_reckons_164 : decode cX7_reckons 164 = .ok (.goto 4, 3) := sorry
theorem dX7_reckons_167 : decode cX7_reckons 167 = .ok (.iconst 0, 1) := sorry
theorem dX7_reckons_168 : decode cX7_reckons 168 = .ok (.istore 8, 2) := sorry
theorem dX7_reckons_170 : decode cX7_reckons 170 = .ok (.iload 8, 2) := sorry
theorem dX7_reckons_172 : decode cX7_reckons 172 = .ok (.ifCond .ne 6, 3) := sorry
def dtX7_reckons_175_3 : List (Nat × Instr × Nat) := [(175, .goto 96, 3), (178, .aload_n 0, 1), (179, .iload 6, 2), (181, .invokevirtual 298, 3), (184, .iload 4, 2), (186, .iconst 2, 1), (187, .if_icmp .ne 46, 3), (190, .iconst 0, 1), (191, .istore 9, 2), (193, .iload 9, 2), (195, .iconst 4, 1), (196, .if_icmp .ge 26, 3), (199, .aload_n 0, 1), (200, .getfield 48, 3), (203, .iload 9, 2), (205, .aload_n 0, 1), (206, .getfield 24, 3), (209, .iload 6, 2), (211, .iload 9, 2), (213, .iadd, 1), (214, .iaload, 1), (215, .iastore, 1), (216, .iinc 9 1, 3), (219, .goto (-26), 3), (222, .aload_n 0, 1), (223, .iload_n 2, 1), (224, .iconst 0, 1), (225, .aload_n 0, 1), (226, .iload_n 2, 1), (227, .invokevirtual 283, 3), (230, .invokevirtual 318, 3), (233, .aload_n 0, 1)]
theorem dtX7_reckons_175_3_ok : dcAll cX7_reckons dtX7_reckons_175_3 = true := sorry
theorem dX7_reckons_175 : decode cX7_reckons 175 = .ok (.goto 96, 3) := sorry
theorem dX7_reckons_178 : decode cX7_reckons 178 = .ok (.aload_n 0, 1) := sorry
theorem dX7_reckons_179 : decode cX7_reckons 179 = .ok (.iload 6, 2) := sorry
theorem dX7_reckons_181 : decode cX7_reckons 181 = .ok (.invokevirtual 298, 3) := sorry
theorem dX7_reckons_184 : decode cX7_reckons 184 = .ok (.iload 4, 2) := sorry
theorem dX7_reckons_186 : decode cX7_reckons 186 = .ok (.iconst 2, 1) := sorry
theorem dX7_reckons_187 : decode cX7_reckons 187 = .ok (.if_icmp .ne 46, 3) := sorry
theorem dX7_reckons_190 : decode cX7_reckons 190 = .ok (.iconst 0, 1) := sorry
theorem dX7_reckons_191 : decode cX7_reckons 191 = .ok (.istore 9, 2) := sorry
theorem dX7_reckons_193 : decode cX7_reckons 193 = .ok (.iload 9, 2) := sorry
theorem dX7_reckons_195 : decode cX7_reckons 195 = .ok (.iconst 4, 1) := sorry
theorem dX7_reckons_196 : decode cX7_reckons 196 = .ok (.if_icmp .ge 26, 3) := sorry
theorem dX7_reckons_199 : decode cX7_reckons 199 = .ok (.aload_n 0, 1) := sorry
theorem dX7_reckons_200 : decode cX7_reckons 200 = .ok (.getfield 48, 3) := sorry
theorem dX7_reckons_203 : decode cX7_reckons 203 = .ok (.iload 9, 2) := sorry
theorem dX7_reckons_205 : decode cX7_reckons 205 = .ok (.aload_n 0, 1) := sorry
theorem dX7_reckons_206 : decode cX7_reckons 206 = .ok (.getfield 24, 3) := sorry
theorem dX7_reckons_209 : decode cX7_reckons 209 = .ok (.iload 6, 2) := sorry
theorem dX7_reckons_211 : decode cX7_reckons 211 = .ok (.iload 9, 2) := sorry
theorem dX7_reckons_213 : decode cX7_reckons 213 = .ok (.iadd, 1) := sorry
theorem dX7_reckons_214 : decode cX7_reckons 214 = .ok (.iaload, 1) := sorry
theorem dX7_reckons_215 : decode cX7_reckons 215 = .ok (.iastore, 1) := sorry
theorem dX7_reckons_216 : decode cX7_reckons 216 = .ok (.iinc 9 1, 3) := sorry
theorem dX7_reckons_219 : decode cX7_reckons 219 = .ok (.goto (-26), 3) := sorry
theorem dX7_reckons_222 : decode cX7_reckons 222 = .ok (.aload_n 0, 1) := sorry
theorem dX7_reckons_223 : decode cX7_reckons 223 = .ok (.iload_n 2, 1) := sorry
theorem dX7_reckons_224 : decode cX7_reckons 224 = .ok (.iconst 0, 1) := sorry
theorem dX7_reckons_225 : decode cX7_reckons 225 = .ok (.aload_n 0, 1) := sorry
theorem dX7_reckons_226 : decode cX7_reckons 226 = .ok (.iload_n 2, 1) := sorry
theorem dX7_reckons_227 : decode cX7_reckons 227 = .ok (.invokevirtual 283, 3) := sorry
theorem dX7_reckons_230 : decode cX7_reckons 230 = .ok (.invokevirtual 318, 3) := sorry
theorem dX7_reckons_233 : decode cX7_reckons 233 = .ok (.aload_n 0, 1) := sorry
def dtX7_reckons_234_4 : List (Nat × Instr × Nat) := [(234, .iload 4, 2), (236, .bipush 6, 2), (238, .if_icmp .ne 7, 3), (241, .iconst 1, 1), (242, .goto 5, 3), (245, .iload 7, 2), (247, .iconst 0, 1), (248, .invokevirtual 304, 3), (251, .istore 9, 2), (253, .iload 9, 2), (255, .ifCond .eq 16, 3), (258, .aload_n 0, 1), (259, .getfield 269, 3), (262, .sipush 1600, 3), (265, .if_icmp .le 6, 3), (268, .bipush (-3), 2), (270, .ireturn, 1), (271, .iinc 5 1, 3), (274, .goto (-170), 3), (277, .iload 4, 2), (279, .iconst 4, 1), (280, .if_icmp .eq 9, 3), (283, .iload 4, 2), (285, .iconst 5, 1), (286, .if_icmp .ne 99, 3), (289, .aload_n 0, 1), (290, .iload_n 2, 1), (291, .invokevirtual 292, 3), (294, .istore 5, 2), (296, .iconst 0, 1), (297, .istore 6, 2), (299, .iload 6, 2)]
theorem dtX7_reckons_234_4_ok : dcAll cX7_reckons dtX7_reckons_234_4 = true := sorry
theorem dX7_reckons_234 : decode cX7_reckons 234 = .ok (.iload 4, 2) := sorry
theorem dX7_reckons_236 : decode cX7_reckons 236 = .ok (.bipush 6, 2) := sorry
theorem dX7_reckons_238 : decode cX7_reckons 238 = .ok (.if_icmp .ne 7, 3) := sorry
theorem dX7_reckons_241 : decode cX7_reckons 241 = .ok (.iconst 1, 1) := sorry
theorem dX7_reckons_242 : decode cX7_reckons 242 = .ok (.goto 5, 3) := sorry
theorem dX7_reckons_245 : decode cX7_reckons 245 = .ok (.iload 7, 2) := sorry
theorem dX7_reckons_247 : decode cX7_reckons 247 = .ok (.iconst 0, 1) := sorry
theorem dX7_reckons_248 : decode cX7_reckons 248 = .ok (.invokevirtual 304, 3) := sorry
theorem dX7_reckons_251 : decode cX7_reckons 251 = .ok (.istore 9, 2) := sorry
theorem dX7_reckons_253 : decode cX7_reckons 253 = .ok (.iload 9, 2) := sorry
theorem dX7_reckons_255 : decode cX7_reckons 255 = .ok (.ifCond .eq 16, 3) := sorry
theorem dX7_reckons_258 : decode cX7_reckons 258 = .ok (.aload_n 0, 1) := sorry
theorem dX7_reckons_259 : decode cX7_reckons 259 = .ok (.getfield 269, 3) := sorry
theorem dX7_reckons_262 : decode cX7_reckons 262 = .ok (.sipush 1600, 3) := sorry
theorem dX7_reckons_265 : decode cX7_reckons 265 = .ok (.if_icmp .le 6, 3) := sorry
theorem dX7_reckons_268 : decode cX7_reckons 268 = .ok (.bipush (-3), 2) := sorry
theorem dX7_reckons_270 : decode cX7_reckons 270 = .ok (.ireturn, 1) := sorry
theorem dX7_reckons_271 : decode cX7_reckons 271 = .ok (.iinc 5 1, 3) := sorry
theorem dX7_reckons_274 : decode cX7_reckons 274 = .ok (.goto (-170), 3) := sorry
theorem dX7_reckons_277 : decode cX7_reckons 277 = .ok (.iload 4, 2) := sorry
theorem dX7_reckons_279 : decode cX7_reckons 279 = .ok (.iconst 4, 1) := sorry
theorem dX7_reckons_280 : decode cX7_reckons 280 = .ok (.if_icmp .eq 9, 3) := sorry
theorem dX7_reckons_283 : decode cX7_reckons 283 = .ok (.iload 4, 2) := sorry
theorem dX7_reckons_285 : decode cX7_reckons 285 = .ok (.iconst 5, 1) := sorry
theorem dX7_reckons_286 : decode cX7_reckons 286 = .ok (.if_icmp .ne 99, 3) := sorry
theorem dX7_reckons_289 : decode cX7_reckons 289 = .ok (.aload_n 0, 1) := sorry
theorem dX7_reckons_290 : decode cX7_reckons 290 = .ok (.iload_n 2, 1) := sorry
theorem dX7_reckons_291 : decode cX7_reckons 291 = .ok (.invokevirtual 292, 3) := sorry
theorem dX7_reckons_294 : decode cX7_reckons 294 = .ok (.istore 5, 2) := sorry
theorem dX7_reckons_296 : decode cX7_reckons 296 = .ok (.iconst 0, 1) := sorry
theorem dX7_reckons_297 : decode cX7_reckons 297 = .ok (.istore 6, 2) := sorry
theorem dX7_reckons_299 : decode cX7_reckons 299 = .ok (.iload 6, 2) := sorry
def dtX7_reckons_301_5 : List (Nat × Instr × Nat) := [(301, .aload_n 0, 1), (302, .iload_n 1, 1), (303, .iload 5, 2), (305, .invokevirtual 295, 3), (308, .if_icmp .ge 77, 3), (311, .aload_n 0, 1), (312, .iload_n 1, 1), (313, .iload 5, 2), (315, .iload 6, 2), (317, .invokestatic 279, 3), (320, .invokevirtual 298, 3), (323, .aload_n 0, 1), (324, .getfield 24, 3), (327, .iload_n 1, 1), (328, .iload 5, 2), (330, .iload 6, 2), (332, .invokestatic 279, 3), (335, .iconst 4, 1), (336, .iadd, 1), (337, .iaload, 1), (338, .istore 7, 2), (340, .aload_n 0, 1), (341, .iload 4, 2), (343, .iconst 4, 1), (344, .if_icmp .ne 8, 3), (347, .iload 7, 2), (349, .goto 6, 3), (352, .iload 7, 2), (354, .ineg, 1), (355, .iconst 0, 1), (356, .invokevirtual 304, 3), (359, .istore 8, 2)]
theorem dtX7_reckons_301_5_ok : dcAll cX7_reckons dtX7_reckons_301_5 = true := sorry
theorem dX7_reckons_301 : decode cX7_reckons 301 = .ok (.aload_n 0, 1) := sorry
theorem dX7_reckons_302 : decode cX7_reckons 302 = .ok (.iload_n 1, 1) := sorry
theorem dX7_reckons_303 : decode cX7_reckons 303 = .ok (.iload 5, 2) := sorry
theorem dX7_reckons_305 : decode cX7_reckons 305 = .ok (.invokevirtual 295, 3) := sorry
theorem dX7_reckons_308 : decode cX7_reckons 308 = .ok (.if_icmp .ge 77, 3) := sorry
theorem dX7_reckons_311 : decode cX7_reckons 311 = .ok (.aload_n 0, 1) := sorry
theorem dX7_reckons_312 : decode cX7_reckons 312 = .ok (.iload_n 1, 1) := sorry
theorem dX7_reckons_313 : decode cX7_reckons 313 = .ok (.iload 5, 2) := sorry
theorem dX7_reckons_315 : decode cX7_reckons 315 = .ok (.iload 6, 2) := sorry
theorem dX7_reckons_317 : decode cX7_reckons 317 = .ok (.invokestatic 279, 3) := sorry
theorem dX7_reckons_320 : decode cX7_reckons 320 = .ok (.invokevirtual 298, 3) := sorry
theorem dX7_reckons_323 : decode cX7_reckons 323 = .ok (.aload_n 0, 1) := sorry
theorem dX7_reckons_324 : decode cX7_reckons 324 = .ok (.getfield 24, 3) := sorry
theorem dX7_reckons_327 : decode cX7_reckons 327 = .ok (.iload_n 1, 1) := sorry
theorem dX7_reckons_328 : decode cX7_reckons 328 = .ok (.iload 5, 2) := sorry
theorem dX7_reckons_330 : decode cX7_reckons 330 = .ok (.iload 6, 2) := sorry
theorem dX7_reckons_332 : decode cX7_reckons 332 = .ok (.invokestatic 279, 3) := sorry
theorem dX7_reckons_335 : decode cX7_reckons 335 = .ok (.iconst 4, 1) := sorry
theorem dX7_reckons_336 : decode cX7_reckons 336 = .ok (.iadd, 1) := sorry
theorem dX7_reckons_337 : decode cX7_reckons 337 = .ok (.iaload, 1) := sorry
theorem dX7_reckons_338 : decode cX7_reckons 338 = .ok (.istore 7, 2) := sorry
theorem dX7_reckons_340 : decode cX7_reckons 340 = .ok (.aload_n 0, 1) := sorry
theorem dX7_reckons_341 : decode cX7_reckons 341 = .ok (.iload 4, 2) := sorry
theorem dX7_reckons_343 : decode cX7_reckons 343 = .ok (.iconst 4, 1) := sorry
theorem dX7_reckons_344 : decode cX7_reckons 344 = .ok (.if_icmp .ne 8, 3) := sorry
theorem dX7_reckons_347 : decode cX7_reckons 347 = .ok (.iload 7, 2) := sorry
theorem dX7_reckons_349 : decode cX7_reckons 349 = .ok (.goto 6, 3) := sorry
theorem dX7_reckons_352 : decode cX7_reckons 352 = .ok (.iload 7, 2) := sorry
theorem dX7_reckons_354 : decode cX7_reckons 354 = .ok (.ineg, 1) := sorry
theorem dX7_reckons_355 : decode cX7_reckons 355 = .ok (.iconst 0, 1) := sorry
theorem dX7_reckons_356 : decode cX7_reckons 356 = .ok (.invokevirtual 304, 3) := sorry
theorem dX7_reckons_359 : decode cX7_reckons 359 = .ok (.istore 8, 2) := sorry
def dtX7_reckons_361_6 : List (Nat × Instr × Nat) := [(361, .iload 8, 2), (363, .ifCond .eq 16, 3), (366, .aload_n 0, 1), (367, .getfield 269, 3), (370, .sipush 1600, 3), (373, .if_icmp .le 6, 3), (376, .bipush (-3), 2), (378, .ireturn, 1), (379, .iinc 6 1, 3), (382, .goto (-83), 3), (385, .aload_n 0, 1), (386, .iload_n 1, 1), (387, .iload_n 2, 1), (388, .invokevirtual 328, 3), (391, .ireturn, 1)]
theorem dtX7_reckons_361_6_ok : dcAll cX7_reckons dtX7_reckons_361_6 = true := sorry
theorem dX7_reckons_361 : decode cX7_reckons 361 = .ok (.iload 8, 2) := sorry
theorem dX7_reckons_363 : decode cX7_reckons 363 = .ok (.ifCond .eq 16, 3) := sorry
theorem dX7_reckons_366 : decode cX7_reckons 366 = .ok (.aload_n 0, 1) := sorry
theorem dX7_reckons_367 : decode cX7_reckons 367 = .ok (.getfield 269, 3) := sorry
theorem dX7_reckons_370 : decode cX7_reckons 370 = .ok (.sipush 1600, 3) := sorry
theorem dX7_reckons_373 : decode cX7_reckons 373 = .ok (.if_icmp .le 6, 3) := sorry
theorem dX7_reckons_376 : decode cX7_reckons 376 = .ok (.bipush (-3), 2) := sorry
theorem dX7_reckons_378 : decode cX7_reckons 378 = .ok (.ireturn, 1) := sorry
theorem dX7_reckons_379 : decode cX7_reckons 379 = .ok (.iinc 6 1, 3) := sorry
theorem dX7_reckons_382 : decode cX7_reckons 382 = .ok (.goto (-83), 3) := sorry
theorem dX7_reckons_385 : decode cX7_reckons 385 = .ok (.aload_n 0, 1) := sorry
theorem dX7_reckons_386 : decode cX7_reckons 386 = .ok (.iload_n 1, 1) := sorry
theorem dX7_reckons_387 : decode cX7_reckons 387 = .ok (.iload_n 2, 1) := sorry
theorem dX7_reckons_388 : decode cX7_reckons 388 = .ok (.invokevirtual 328, 3) := sorry
theorem dX7_reckons_391 : decode cX7_reckons 391 = .ok (.ireturn, 1) := sorry
def dtX7_copies_0_0 : List (Nat × Instr × Nat) := [(0, .iconst 0, 1), (1, .istore_n 3, 1), (2, .iload_n 3, 1), (3, .sipush 11520, 3), (6, .if_icmp .ge 33, 3), (9, .aload_n 0, 1), (10, .getfield 24, 3), (13, .sipush 11520, 3), (16, .iload_n 2, 1), (17, .imul, 1), (18, .iload_n 3, 1), (19, .iadd, 1), (20, .aload_n 0, 1), (21, .getfield 24, 3), (24, .sipush 11520, 3), (27, .iload_n 1, 1), (28, .imul, 1), (29, .iload_n 3, 1), (30, .iadd, 1), (31, .iaload, 1), (32, .iastore, 1), (33, .iinc 3 1, 3), (36, .goto (-34), 3), (39, .iconst 0, 1), (40, .istore_n 3, 1), (41, .iload_n 3, 1), (42, .bipush 16, 2), (44, .if_icmp .ge 53, 3), (47, .aload_n 0, 1), (48, .getfield 27, 3), (51, .bipush 16, 2), (53, .iload_n 2, 1)]
theorem dtX7_copies_0_0_ok : dcAll cX7_copies dtX7_copies_0_0 = true := sorry
theorem dX7_copies_0 : decode cX7_copies 0 = .ok (.iconst 0, 1) := sorry
theorem dX7_copies_1 : decode cX7_copies 1 = .ok (.istore_n 3, 1) := sorry
theorem dX7_copies_2 : decode cX7_copies 2 = .ok (.iload_n 3, 1) := sorry
theorem dX7_copies_3 : decode cX7_copies 3 = .ok (.sipush 11520, 3) := sorry
theorem dX7_copies_6 : decode cX7_copies 6 = .ok (.if_icmp .ge 33, 3) := sorry
theorem dX7_copies_9 : decode cX7_copies 9 = .ok (.aload_n 0, 1) := sorry
theorem dX7_copies_10 : decode cX7_copies 10 = .ok (.getfield 24, 3) := sorry
theorem dX7_copies_13 : decode cX7_copies 13 = .ok (.sipush 11520, 3) := sorry
theorem dX7_copies_16 : decode cX7_copies 16 = .ok (.iload_n 2, 1) := sorry
theorem dX7_copies_17 : decode cX7_copies 17 = .ok (.imul, 1) := sorry
theorem dX7_copies_18 : decode cX7_copies 18 = .ok (.iload_n 3, 1) := sorry
theorem dX7_copies_19 : decode cX7_copies 19 = .ok (.iadd, 1) := sorry
theorem dX7_copies_20 : decode cX7_copies 20 = .ok (.aload_n 0, 1) := sorry
theorem dX7_copies_21 : decode cX7_copies 21 = .ok (.getfield 24, 3) := sorry
theorem dX7_copies_24 : decode cX7_copies 24 = .ok (.sipush 11520, 3) := sorry
theorem dX7_copies_27 : decode cX7_copies 27 = .ok (.iload_n 1, 1) := sorry
theorem dX7_copies_28 : decode cX7_copies 28 = .ok (.imul, 1) := sorry
theorem dX7_copies_29 : decode cX7_copies 29 = .ok (.iload_n 3, 1) := sorry
theorem dX7_copies_30 : decode cX7_copies 30 = .ok (.iadd, 1) := sorry
theorem dX7_copies_31 : decode cX7_copies 31 = .ok (.iaload, 1) := sorry
theorem dX7_copies_32 : decode cX7_copies 32 = .ok (.iastore, 1) := sorry
theorem dX7_copies_33 : decode cX7_copies 33 = .ok (.iinc 3 1, 3) := sorry
theorem dX7_copies_36 : decode cX7_copies 36 = .ok (.goto (-34), 3) := sorry
theorem dX7_copies_39 : decode cX7_copies 39 = .ok (.iconst 0, 1) := sorry
theorem dX7_copies_40 : decode cX7_copies 40 = .ok (.istore_n 3, 1) := sorry
theorem dX7_copies_41 : decode cX7_copies 41 = .ok (.iload_n 3, 1) := sorry
theorem dX7_copies_42 : decode cX7_copies 42 = .ok (.bipush 16, 2) := sorry
theorem dX7_copies_44 : decode cX7_copies 44 = .ok (.if_icmp .ge 53, 3) := sorry
theorem dX7_copies_47 : decode cX7_copies 47 = .ok (.aload_n 0, 1) := sorry
theorem dX7_copies_48 : decode cX7_copies 48 = .ok (.getfield 27, 3) := sorry
theorem dX7_copies_51 : decode cX7_copies 51 = .ok (.bipush 16, 2) := sorry
theorem dX7_copies_53 : decode cX7_copies 53 = .ok (.iload_n 2, 1) := sorry
def dtX7_copies_54_1 : List (Nat × Instr × Nat) := [(54, .imul, 1), (55, .iload_n 3, 1), (56, .iadd, 1), (57, .aload_n 0, 1), (58, .getfield 27, 3), (61, .bipush 16, 2), (63, .iload_n 1, 1), (64, .imul, 1), (65, .iload_n 3, 1), (66, .iadd, 1), (67, .iaload, 1), (68, .iastore, 1), (69, .aload_n 0, 1), (70, .getfield 51, 3), (73, .bipush 16, 2), (75, .iload_n 2, 1), (76, .imul, 1), (77, .iload_n 3, 1), (78, .iadd, 1), (79, .aload_n 0, 1), (80, .getfield 51, 3), (83, .bipush 16, 2), (85, .iload_n 1, 1), (86, .imul, 1), (87, .iload_n 3, 1), (88, .iadd, 1), (89, .iaload, 1), (90, .iastore, 1), (91, .iinc 3 1, 3), (94, .goto (-53), 3), (97, .return_, 1)]
theorem dtX7_copies_54_1_ok : dcAll cX7_copies dtX7_copies_54_1 = true := sorry
theorem dX7_copies_54 : decode cX7_copies 54 = .ok (.imul, 1) := sorry
theorem dX7_copies_55 : decode cX7_copies 55 = .ok (.iload_n 3, 1) := sorry
theorem dX7_copies_56 : decode cX7_copies 56 = .ok (.iadd, 1) := sorry
theorem dX7_copies_57 : decode cX7_copies 57 = .ok (.aload_n 0, 1) := sorry
theorem dX7_copies_58 : decode cX7_copies 58 = .ok (.getfield 27, 3) := sorry
theorem dX7_copies_61 : decode cX7_copies 61 = .ok (.bipush 16, 2) := sorry
theorem dX7_copies_63 : decode cX7_copies 63 = .ok (.iload_n 1, 1) := sorry
theorem dX7_copies_64 : decode cX7_copies 64 = .ok (.imul, 1) := sorry
theorem dX7_copies_65 : decode cX7_copies 65 = .ok (.iload_n 3, 1) := sorry
theorem dX7_copies_66 : decode cX7_copies 66 = .ok (.iadd, 1) := sorry
theorem dX7_copies_67 : decode cX7_copies 67 = .ok (.iaload, 1) := sorry
theorem dX7_copies_68 : decode cX7_copies 68 = .ok (.iastore, 1) := sorry
theorem dX7_copies_69 : decode cX7_copies 69 = .ok (.aload_n 0, 1) := sorry
theorem dX7_copies_70 : decode cX7_copies 70 = .ok (.getfield 51, 3) := sorry
theorem dX7_copies_73 : decode cX7_copies 73 = .ok (.bipush 16, 2) := sorry
theorem dX7_copies_75 : decode cX7_copies 75 = .ok (.iload_n 2, 1) := sorry
theorem dX7_copies_76 : decode cX7_copies 76 = .ok (.imul, 1) := sorry
theorem dX7_copies_77 : decode cX7_copies 77 = .ok (.iload_n 3, 1) := sorry
theorem dX7_copies_78 : decode cX7_copies 78 = .ok (.iadd, 1) := sorry
theorem dX7_copies_79 : decode cX7_copies 79 = .ok (.aload_n 0, 1) := sorry
theorem dX7_copies_80 : decode cX7_copies 80 = .ok (.getfield 51, 3) := sorry
theorem dX7_copies_83 : decode cX7_copies 83 = .ok (.bipush 16, 2) := sorry
theorem dX7_copies_85 : decode cX7_copies 85 = .ok (.iload_n 1, 1) := sorry
theorem dX7_copies_86 : decode cX7_copies 86 = .ok (.imul, 1) := sorry
theorem dX7_copies_87 : decode cX7_copies 87 = .ok (.iload_n 3, 1) := sorry
theorem dX7_copies_88 : decode cX7_copies 88 = .ok (.iadd, 1) := sorry
theorem dX7_copies_89 : decode cX7_copies 89 = .ok (.iaload, 1) := sorry
theorem dX7_copies_90 : decode cX7_copies 90 = .ok (.iastore, 1) := sorry
theorem dX7_copies_91 : decode cX7_copies 91 = .ok (.iinc 3 1, 3) := sorry
theorem dX7_copies_94 : decode cX7_copies 94 = .ok (.goto (-53), 3) := sorry
theorem dX7_copies_97 : decode cX7_copies 97 = .ok (.return_, 1) := sorry
def dtX7_changesOf_0_0 : List (Nat × Instr × Nat) := [(0, .aload_n 0, 1), (1, .iconst 0, 1), (2, .putfield 269, 3), (5, .iconst 1, 1), (6, .istore_n 3, 1), (7, .iconst 0, 1), (8, .istore 4, 2), (10, .iload 4, 2), (12, .aload_n 0, 1), (13, .iload_n 1, 1), (14, .iload_n 2, 1), (15, .invokevirtual 295, 3), (18, .if_icmp .ge 40, 3), (21, .aload_n 0, 1), (22, .iload_n 1, 1), (23, .iload_n 2, 1), (24, .iload 4, 2), (26, .invokestatic 279, 3), (29, .invokevirtual 298, 3), (32, .aload_n 0, 1), (33, .aload_n 0, 1), (34, .getfield 24, 3), (37, .iload_n 1, 1), (38, .iload_n 2, 1), (39, .iload 4, 2), (41, .invokestatic 279, 3), (44, .iconst 4, 1), (45, .iadd, 1), (46, .iaload, 1), (47, .iconst 0, 1), (48, .invokevirtual 304, 3), (51, .istore_n 3, 1)]
theorem dtX7_changesOf_0_0_ok : dcAll cX7_changesOf dtX7_changesOf_0_0 = true := sorry
theorem dX7_changesOf_0 : decode cX7_changesOf 0 = .ok (.aload_n 0, 1) := sorry
theorem dX7_changesOf_1 : decode cX7_changesOf 1 = .ok (.iconst 0, 1) := sorry
theorem dX7_changesOf_2 : decode cX7_changesOf 2 = .ok (.putfield 269, 3) := sorry
theorem dX7_changesOf_5 : decode cX7_changesOf 5 = .ok (.iconst 1, 1) := sorry
theorem dX7_changesOf_6 : decode cX7_changesOf 6 = .ok (.istore_n 3, 1) := sorry
theorem dX7_changesOf_7 : decode cX7_changesOf 7 = .ok (.iconst 0, 1) := sorry
theorem dX7_changesOf_8 : decode cX7_changesOf 8 = .ok (.istore 4, 2) := sorry
theorem dX7_changesOf_10 : decode cX7_changesOf 10 = .ok (.iload 4, 2) := sorry
theorem dX7_changesOf_12 : decode cX7_changesOf 12 = .ok (.aload_n 0, 1) := sorry
theorem dX7_changesOf_13 : decode cX7_changesOf 13 = .ok (.iload_n 1, 1) := sorry
theorem dX7_changesOf_14 : decode cX7_changesOf 14 = .ok (.iload_n 2, 1) := sorry
theorem dX7_changesOf_15 : decode cX7_changesOf 15 = .ok (.invokevirtual 295, 3) := sorry
theorem dX7_changesOf_18 : decode cX7_changesOf 18 = .ok (.if_icmp .ge 40, 3) := sorry
theorem dX7_changesOf_21 : decode cX7_changesOf 21 = .ok (.aload_n 0, 1) := sorry
theorem dX7_changesOf_22 : decode cX7_changesOf 22 = .ok (.iload_n 1, 1) := sorry
theorem dX7_changesOf_23 : decode cX7_changesOf 23 = .ok (.iload_n 2, 1) := sorry
theorem dX7_changesOf_24 : decode cX7_changesOf 24 = .ok (.iload 4, 2) := sorry
theorem dX7_changesOf_26 : decode cX7_changesOf 26 = .ok (.invokestatic 279, 3) := sorry
theorem dX7_changesOf_29 : decode cX7_changesOf 29 = .ok (.invokevirtual 298, 3) := sorry
theorem dX7_changesOf_32 : decode cX7_changesOf 32 = .ok (.aload_n 0, 1) := sorry
theorem dX7_changesOf_33 : decode cX7_changesOf 33 = .ok (.aload_n 0, 1) := sorry
theorem dX7_changesOf_34 : decode cX7_changesOf 34 = .ok (.getfield 24, 3) := sorry
theorem dX7_changesOf_37 : decode cX7_changesOf 37 = .ok (.iload_n 1, 1) := sorry
theorem dX7_changesOf_38 : decode cX7_changesOf 38 = .ok (.iload_n 2, 1) := sorry
theorem dX7_changesOf_39 : decode cX7_changesOf 39 = .ok (.iload 4, 2) := sorry
theorem dX7_changesOf_41 : decode cX7_changesOf 41 = .ok (.invokestatic 279, 3) := sorry
theorem dX7_changesOf_44 : decode cX7_changesOf 44 = .ok (.iconst 4, 1) := sorry
theorem dX7_changesOf_45 : decode cX7_changesOf 45 = .ok (.iadd, 1) := sorry
theorem dX7_changesOf_46 : decode cX7_changesOf 46 = .ok (.iaload, 1) := sorry
theorem dX7_changesOf_47 : decode cX7_changesOf 47 = .ok (.iconst 0, 1) := sorry
theorem dX7_changesOf_48 : decode cX7_changesOf 48 = .ok (.invokevirtual 304, 3) := sorry
theorem dX7_changesOf_51 : decode cX7_changesOf 51 = .ok (.istore_n 3, 1) := sorry
def dtX7_changesOf_52_1 : List (Nat × Instr × Nat) := [(52, .iinc 4 1, 3), (55, .goto (-45), 3), (58, .iconst 0, 1), (59, .istore 4, 2), (61, .iload 4, 2), (63, .aload_n 0, 1), (64, .getfield 266, 3), (67, .if_icmp .ge 82, 3), (70, .aload_n 0, 1), (71, .getfield 30, 3), (74, .iload 4, 2), (76, .iaload, 1), (77, .iload_n 2, 1), (78, .if_icmp .eq 6, 3), (81, .goto 62, 3), (84, .iconst 0, 1), (85, .istore 5, 2), (87, .iload 5, 2), (89, .iconst 4, 1), (90, .if_icmp .ge 28, 3), (93, .aload_n 0, 1), (94, .getfield 45, 3), (97, .iload 5, 2), (99, .aload_n 0, 1), (100, .getfield 33, 3), (103, .iconst 4, 1), (104, .iload 4, 2), (106, .imul, 1), (107, .iload 5, 2), (109, .iadd, 1), (110, .iaload, 1), (111, .iastore, 1)]
theorem dtX7_changesOf_52_1_ok : dcAll cX7_changesOf dtX7_changesOf_52_1 = true := sorry
theorem dX7_changesOf_52 : decode cX7_changesOf 52 = .ok (.iinc 4 1, 3) := sorry
theorem dX7_changesOf_55 : decode cX7_changesOf 55 = .ok (.goto (-45), 3) := sorry
theorem dX7_changesOf_58 : decode cX7_changesOf 58 = .ok (.iconst 0, 1) := sorry
theorem dX7_changesOf_59 : decode cX7_changesOf 59 = .ok (.istore 4, 2) := sorry
theorem dX7_changesOf_61 : decode cX7_changesOf 61 = .ok (.iload 4, 2) := sorry
theorem dX7_changesOf_63 : decode cX7_changesOf 63 = .ok (.aload_n 0, 1) := sorry
theorem dX7_changesOf_64 : decode cX7_changesOf 64 = .ok (.getfield 266, 3) := sorry
theorem dX7_changesOf_67 : decode cX7_changesOf 67 = .ok (.if_icmp .ge 82, 3) := sorry
theorem dX7_changesOf_70 : decode cX7_changesOf 70 = .ok (.aload_n 0, 1) := sorry
theorem dX7_changesOf_71 : decode cX7_changesOf 71 = .ok (.getfield 30, 3) := sorry
theorem dX7_changesOf_74 : decode cX7_changesOf 74 = .ok (.iload 4, 2) := sorry
theorem dX7_changesOf_76 : decode cX7_changesOf 76 = .ok (.iaload, 1) := sorry
theorem dX7_changesOf_77 : decode cX7_changesOf 77 = .ok (.iload_n 2, 1) := sorry
theorem dX7_changesOf_78 : decode cX7_changesOf 78 = .ok (.if_icmp .eq 6, 3) := sorry
theorem dX7_changesOf_81 : decode cX7_changesOf 81 = .ok (.goto 62, 3) := sorry
theorem dX7_changesOf_84 : decode cX7_changesOf 84 = .ok (.iconst 0, 1) := sorry
theorem dX7_changesOf_85 : decode cX7_changesOf 85 = .ok (.istore 5, 2) := sorry
theorem dX7_changesOf_87 : decode cX7_changesOf 87 = .ok (.iload 5, 2) := sorry
theorem dX7_changesOf_89 : decode cX7_changesOf 89 = .ok (.iconst 4, 1) := sorry
theorem dX7_changesOf_90 : decode cX7_changesOf 90 = .ok (.if_icmp .ge 28, 3) := sorry
theorem dX7_changesOf_93 : decode cX7_changesOf 93 = .ok (.aload_n 0, 1) := sorry
theorem dX7_changesOf_94 : decode cX7_changesOf 94 = .ok (.getfield 45, 3) := sorry
theorem dX7_changesOf_97 : decode cX7_changesOf 97 = .ok (.iload 5, 2) := sorry
theorem dX7_changesOf_99 : decode cX7_changesOf 99 = .ok (.aload_n 0, 1) := sorry
theorem dX7_changesOf_100 : decode cX7_changesOf 100 = .ok (.getfield 33, 3) := sorry
theorem dX7_changesOf_103 : decode cX7_changesOf 103 = .ok (.iconst 4, 1) := sorry
theorem dX7_changesOf_104 : decode cX7_changesOf 104 = .ok (.iload 4, 2) := sorry
theorem dX7_changesOf_106 : decode cX7_changesOf 106 = .ok (.imul, 1) := sorry
theorem dX7_changesOf_107 : decode cX7_changesOf 107 = .ok (.iload 5, 2) := sorry
theorem dX7_changesOf_109 : decode cX7_changesOf 109 = .ok (.iadd, 1) := sorry
theorem dX7_changesOf_110 : decode cX7_changesOf 110 = .ok (.iaload, 1) := sorry
theorem dX7_changesOf_111 : decode cX7_changesOf 111 = .ok (.iastore, 1) := sorry
def dtX7_changesOf_112_2 : List (Nat × Instr × Nat) := [(112, .iinc 5 1, 3), (115, .goto (-28), 3), (118, .aload_n 0, 1), (119, .aload_n 0, 1), (120, .getfield 36, 3), (123, .iload 4, 2), (125, .iaload, 1), (126, .iconst 0, 1), (127, .invokevirtual 304, 3), (130, .ifCond .ne 7, 3), (133, .iload_n 3, 1), (134, .ifCond .eq 7, 3), (137, .iconst 1, 1), (138, .goto 4, 3), (141, .iconst 0, 1), (142, .istore_n 3, 1), (143, .iinc 4 1, 3), (146, .goto (-85), 3), (149, .iconst 0, 1), (150, .istore 4, 2), (152, .iload 4, 2), (154, .aload_n 0, 1), (155, .getfield 269, 3), (158, .if_icmp .ge 26, 3), (161, .aload_n 0, 1), (162, .getfield 42, 3), (165, .bipush 6, 2), (167, .iload 4, 2), (169, .imul, 1), (170, .iconst 4, 1), (171, .iadd, 1), (172, .iaload, 1)]
theorem dtX7_changesOf_112_2_ok : dcAll cX7_changesOf dtX7_changesOf_112_2 = true := sorry
theorem dX7_changesOf_112 : decode cX7_changesOf 112 = .ok (.iinc 5 1, 3) := sorry
theorem dX7_changesOf_115 : decode cX7_changesOf 115 = .ok (.goto (-28), 3) := sorry
theorem dX7_changesOf_118 : decode cX7_changesOf 118 = .ok (.aload_n 0, 1) := sorry
theorem dX7_changesOf_119 : decode cX7_changesOf 119 = .ok (.aload_n 0, 1) := sorry
theorem dX7_changesOf_120 : decode cX7_changesOf 120 = .ok (.getfield 36, 3) := sorry
theorem dX7_changesOf_123 : decode cX7_changesOf 123 = .ok (.iload 4, 2) := sorry
theorem dX7_changesOf_125 : decode cX7_changesOf 125 = .ok (.iaload, 1) := sorry
theorem dX7_changesOf_126 : decode cX7_changesOf 126 = .ok (.iconst 0, 1) := sorry
theorem dX7_changesOf_127 : decode cX7_changesOf 127 = .ok (.invokevirtual 304, 3) := sorry
theorem dX7_changesOf_130 : decode cX7_changesOf 130 = .ok (.ifCond .ne 7, 3) := sorry
theorem dX7_changesOf_133 : decode cX7_changesOf 133 = .ok (.iload_n 3, 1) := sorry
theorem dX7_changesOf_134 : decode cX7_changesOf 134 = .ok (.ifCond .eq 7, 3) := sorry
theorem dX7_changesOf_137 : decode cX7_changesOf 137 = .ok (.iconst 1, 1) := sorry
theorem dX7_changesOf_138 : decode cX7_changesOf 138 = .ok (.goto 4, 3) := sorry
theorem dX7_changesOf_141 : decode cX7_changesOf 141 = .ok (.iconst 0, 1) := sorry
theorem dX7_changesOf_142 : decode cX7_changesOf 142 = .ok (.istore_n 3, 1) := sorry
theorem dX7_changesOf_143 : decode cX7_changesOf 143 = .ok (.iinc 4 1, 3) := sorry
theorem dX7_changesOf_146 : decode cX7_changesOf 146 = .ok (.goto (-85), 3) := sorry
theorem dX7_changesOf_149 : decode cX7_changesOf 149 = .ok (.iconst 0, 1) := sorry
theorem dX7_changesOf_150 : decode cX7_changesOf 150 = .ok (.istore 4, 2) := sorry
theorem dX7_changesOf_152 : decode cX7_changesOf 152 = .ok (.iload 4, 2) := sorry
theorem dX7_changesOf_154 : decode cX7_changesOf 154 = .ok (.aload_n 0, 1) := sorry
theorem dX7_changesOf_155 : decode cX7_changesOf 155 = .ok (.getfield 269, 3) := sorry
theorem dX7_changesOf_158 : decode cX7_changesOf 158 = .ok (.if_icmp .ge 26, 3) := sorry
theorem dX7_changesOf_161 : decode cX7_changesOf 161 = .ok (.aload_n 0, 1) := sorry
theorem dX7_changesOf_162 : decode cX7_changesOf 162 = .ok (.getfield 42, 3) := sorry
theorem dX7_changesOf_165 : decode cX7_changesOf 165 = .ok (.bipush 6, 2) := sorry
theorem dX7_changesOf_167 : decode cX7_changesOf 167 = .ok (.iload 4, 2) := sorry
theorem dX7_changesOf_169 : decode cX7_changesOf 169 = .ok (.imul, 1) := sorry
theorem dX7_changesOf_170 : decode cX7_changesOf 170 = .ok (.iconst 4, 1) := sorry
theorem dX7_changesOf_171 : decode cX7_changesOf 171 = .ok (.iadd, 1) := sorry
theorem dX7_changesOf_172 : decode cX7_changesOf 172 = .ok (.iaload, 1) := sorry
def dtX7_changesOf_173_3 : List (Nat × Instr × Nat) := [(173, .ifCond .ge 5, 3), (176, .iconst 1, 1), (177, .ireturn, 1), (178, .iinc 4 1, 3), (181, .goto (-29), 3), (184, .iconst 0, 1), (185, .ireturn, 1)]
theorem dtX7_changesOf_173_3_ok : dcAll cX7_changesOf dtX7_changesOf_173_3 = true := sorry
theorem dX7_changesOf_173 : decode cX7_changesOf 173 = .ok (.ifCond .ge 5, 3) := sorry
theorem dX7_changesOf_176 : decode cX7_changesOf 176 = .ok (.iconst 1, 1) := sorry
theorem dX7_changesOf_177 : decode cX7_changesOf 177 = .ok (.ireturn, 1) := sorry
theorem dX7_changesOf_178 : decode cX7_changesOf 178 = .ok (.iinc 4 1, 3) := sorry
theorem dX7_changesOf_181 : decode cX7_changesOf 181 = .ok (.goto (-29), 3) := sorry
theorem dX7_changesOf_184 : decode cX7_changesOf 184 = .ok (.iconst 0, 1) := sorry
theorem dX7_changesOf_185 : decode cX7_changesOf 185 = .ok (.ireturn, 1) := sorry
def dtX7_tables_0_0 : List (Nat × Instr × Nat) := [(0, .iconst 0, 1), (1, .istore_n 1, 1), (2, .iload_n 1, 1), (3, .aload_n 0, 1), (4, .getfield 64, 3), (7, .if_icmp .ge 17, 3), (10, .aload_n 0, 1), (11, .iload_n 1, 1), (12, .invokevirtual 322, 3), (15, .ifCond .ne 9, 3), (18, .iinc 1 1, 3), (21, .goto (-19), 3), (24, .iload_n 1, 1), (25, .ireturn, 1)]
theorem dtX7_tables_0_0_ok : dcAll cX7_tables dtX7_tables_0_0 = true := sorry
theorem dX7_tables_0 : decode cX7_tables 0 = .ok (.iconst 0, 1) := sorry
theorem dX7_tables_1 : decode cX7_tables 1 = .ok (.istore_n 1, 1) := sorry
theorem dX7_tables_2 : decode cX7_tables 2 = .ok (.iload_n 1, 1) := sorry
theorem dX7_tables_3 : decode cX7_tables 3 = .ok (.aload_n 0, 1) := sorry
theorem dX7_tables_4 : decode cX7_tables 4 = .ok (.getfield 64, 3) := sorry
theorem dX7_tables_7 : decode cX7_tables 7 = .ok (.if_icmp .ge 17, 3) := sorry
theorem dX7_tables_10 : decode cX7_tables 10 = .ok (.aload_n 0, 1) := sorry
theorem dX7_tables_11 : decode cX7_tables 11 = .ok (.iload_n 1, 1) := sorry
theorem dX7_tables_12 : decode cX7_tables 12 = .ok (.invokevirtual 322, 3) := sorry
theorem dX7_tables_15 : decode cX7_tables 15 = .ok (.ifCond .ne 9, 3) := sorry
theorem dX7_tables_18 : decode cX7_tables 18 = .ok (.iinc 1 1, 3) := sorry
theorem dX7_tables_21 : decode cX7_tables 21 = .ok (.goto (-19), 3) := sorry
theorem dX7_tables_24 : decode cX7_tables 24 = .ok (.iload_n 1, 1) := sorry
theorem dX7_tables_25 : decode cX7_tables 25 = .ok (.ireturn, 1) := sorry
def dtX7_drafts_0_0 : List (Nat × Instr × Nat) := [(0, .aload_n 0, 1), (1, .iconst 0, 1), (2, .bipush 10, 2), (4, .invokevirtual 340, 3), (7, .iconst 0, 1), (8, .istore_n 1, 1), (9, .iload_n 1, 1), (10, .aload_n 0, 1), (11, .invokevirtual 343, 3), (14, .if_icmp .ge 22, 3), (17, .aload_n 0, 1), (18, .bipush 10, 2), (20, .iload_n 1, 1), (21, .invokevirtual 346, 3), (24, .ifCond .eq 6, 3), (27, .bipush (-2), 2), (29, .ireturn, 1), (30, .iinc 1 1, 3), (33, .goto (-24), 3), (36, .iconst 0, 1), (37, .istore_n 1, 1), (38, .iload_n 1, 1), (39, .aload_n 0, 1), (40, .getfield 64, 3), (43, .if_icmp .ge 59, 3), (46, .aload_n 0, 1), (47, .iload_n 1, 1), (48, .invokevirtual 322, 3), (51, .ifCond .ne 31, 3), (54, .aload_n 0, 1), (55, .bipush 10, 2), (57, .iload_n 1, 1)]
theorem dtX7_drafts_0_0_ok : dcAll cX7_drafts dtX7_drafts_0_0 = true := sorry
theorem dX7_drafts_0 : decode cX7_drafts 0 = .ok (.aload_n 0, 1) := sorry
theorem dX7_drafts_1 : decode cX7_drafts 1 = .ok (.iconst 0, 1) := sorry
theorem dX7_drafts_2 : decode cX7_drafts 2 = .ok (.bipush 10, 2) := sorry
theorem dX7_drafts_4 : decode cX7_drafts 4 = .ok (.invokevirtual 340, 3) := sorry
theorem dX7_drafts_7 : decode cX7_drafts 7 = .ok (.iconst 0, 1) := sorry
theorem dX7_drafts_8 : decode cX7_drafts 8 = .ok (.istore_n 1, 1) := sorry
theorem dX7_drafts_9 : decode cX7_drafts 9 = .ok (.iload_n 1, 1) := sorry
theorem dX7_drafts_10 : decode cX7_drafts 10 = .ok (.aload_n 0, 1) := sorry
theorem dX7_drafts_11 : decode cX7_drafts 11 = .ok (.invokevirtual 343, 3) := sorry
theorem dX7_drafts_14 : decode cX7_drafts 14 = .ok (.if_icmp .ge 22, 3) := sorry
theorem dX7_drafts_17 : decode cX7_drafts 17 = .ok (.aload_n 0, 1) := sorry
theorem dX7_drafts_18 : decode cX7_drafts 18 = .ok (.bipush 10, 2) := sorry
theorem dX7_drafts_20 : decode cX7_drafts 20 = .ok (.iload_n 1, 1) := sorry
theorem dX7_drafts_21 : decode cX7_drafts 21 = .ok (.invokevirtual 346, 3) := sorry
theorem dX7_drafts_24 : decode cX7_drafts 24 = .ok (.ifCond .eq 6, 3) := sorry
theorem dX7_drafts_27 : decode cX7_drafts 27 = .ok (.bipush (-2), 2) := sorry
theorem dX7_drafts_29 : decode cX7_drafts 29 = .ok (.ireturn, 1) := sorry
theorem dX7_drafts_30 : decode cX7_drafts 30 = .ok (.iinc 1 1, 3) := sorry
theorem dX7_drafts_33 : decode cX7_drafts 33 = .ok (.goto (-24), 3) := sorry
theorem dX7_drafts_36 : decode cX7_drafts 36 = .ok (.iconst 0, 1) := sorry
theorem dX7_drafts_37 : decode cX7_drafts 37 = .ok (.istore_n 1, 1) := sorry
theorem dX7_drafts_38 : decode cX7_drafts 38 = .ok (.iload_n 1, 1) := sorry
theorem dX7_drafts_39 : decode cX7_drafts 39 = .ok (.aload_n 0, 1) := sorry
theorem dX7_drafts_40 : decode cX7_drafts 40 = .ok (.getfield 64, 3) := sorry
theorem dX7_drafts_43 : decode cX7_drafts 43 = .ok (.if_icmp .ge 59, 3) := sorry
theorem dX7_drafts_46 : decode cX7_drafts 46 = .ok (.aload_n 0, 1) := sorry
theorem dX7_drafts_47 : decode cX7_drafts 47 = .ok (.iload_n 1, 1) := sorry
theorem dX7_drafts_48 : decode cX7_drafts 48 = .ok (.invokevirtual 322, 3) := sorry
theorem dX7_drafts_51 : decode cX7_drafts 51 = .ok (.ifCond .ne 31, 3) := sorry
theorem dX7_drafts_54 : decode cX7_drafts 54 = .ok (.aload_n 0, 1) := sorry
theorem dX7_drafts_55 : decode cX7_drafts 55 = .ok (.bipush 10, 2) := sorry
theorem dX7_drafts_57 : decode cX7_drafts 57 = .ok (.iload_n 1, 1) := sorry
def dtX7_drafts_58_1 : List (Nat × Instr × Nat) := [(58, .invokevirtual 346, 3), (61, .istore_n 3, 1), (62, .iload_n 3, 1), (63, .ifCond .eq 8, 3), (66, .bipush (-2), 2), (68, .goto 10, 3), (71, .aload_n 0, 1), (72, .bipush 10, 2), (74, .iload_n 1, 1), (75, .invokevirtual 328, 3), (78, .istore_n 2, 1), (79, .goto 11, 3), (82, .aload_n 0, 1), (83, .bipush 10, 2), (85, .iload_n 1, 1), (86, .invokevirtual 349, 3), (89, .istore_n 2, 1), (90, .iload_n 2, 1), (91, .ifCond .ge 5, 3), (94, .iload_n 2, 1), (95, .ireturn, 1), (96, .iinc 1 1, 3), (99, .goto (-61), 3), (102, .iconst 0, 1), (103, .ireturn, 1)]
theorem dtX7_drafts_58_1_ok : dcAll cX7_drafts dtX7_drafts_58_1 = true := sorry
theorem dX7_drafts_58 : decode cX7_drafts 58 = .ok (.invokevirtual 346, 3) := sorry
theorem dX7_drafts_61 : decode cX7_drafts 61 = .ok (.istore_n 3, 1) := sorry
theorem dX7_drafts_62 : decode cX7_drafts 62 = .ok (.iload_n 3, 1) := sorry
theorem dX7_drafts_63 : decode cX7_drafts 63 = .ok (.ifCond .eq 8, 3) := sorry
theorem dX7_drafts_66 : decode cX7_drafts 66 = .ok (.bipush (-2), 2) := sorry
theorem dX7_drafts_68 : decode cX7_drafts 68 = .ok (.goto 10, 3) := sorry
theorem dX7_drafts_71 : decode cX7_drafts 71 = .ok (.aload_n 0, 1) := sorry
theorem dX7_drafts_72 : decode cX7_drafts 72 = .ok (.bipush 10, 2) := sorry
theorem dX7_drafts_74 : decode cX7_drafts 74 = .ok (.iload_n 1, 1) := sorry
theorem dX7_drafts_75 : decode cX7_drafts 75 = .ok (.invokevirtual 328, 3) := sorry
theorem dX7_drafts_78 : decode cX7_drafts 78 = .ok (.istore_n 2, 1) := sorry
theorem dX7_drafts_79 : decode cX7_drafts 79 = .ok (.goto 11, 3) := sorry
theorem dX7_drafts_82 : decode cX7_drafts 82 = .ok (.aload_n 0, 1) := sorry
theorem dX7_drafts_83 : decode cX7_drafts 83 = .ok (.bipush 10, 2) := sorry
theorem dX7_drafts_85 : decode cX7_drafts 85 = .ok (.iload_n 1, 1) := sorry
theorem dX7_drafts_86 : decode cX7_drafts 86 = .ok (.invokevirtual 349, 3) := sorry
theorem dX7_drafts_89 : decode cX7_drafts 89 = .ok (.istore_n 2, 1) := sorry
theorem dX7_drafts_90 : decode cX7_drafts 90 = .ok (.iload_n 2, 1) := sorry
theorem dX7_drafts_91 : decode cX7_drafts 91 = .ok (.ifCond .ge 5, 3) := sorry
theorem dX7_drafts_94 : decode cX7_drafts 94 = .ok (.iload_n 2, 1) := sorry
theorem dX7_drafts_95 : decode cX7_drafts 95 = .ok (.ireturn, 1) := sorry
theorem dX7_drafts_96 : decode cX7_drafts 96 = .ok (.iinc 1 1, 3) := sorry
theorem dX7_drafts_99 : decode cX7_drafts 99 = .ok (.goto (-61), 3) := sorry
theorem dX7_drafts_102 : decode cX7_drafts 102 = .ok (.iconst 0, 1) := sorry
theorem dX7_drafts_103 : decode cX7_drafts 103 = .ok (.ireturn, 1) := sorry
def dtX7_change_0_0 : List (Nat × Instr × Nat) := [(0, .aload_n 0, 1), (1, .iconst 0, 1), (2, .putfield 60, 3), (5, .aload_n 0, 1), (6, .iload_n 1, 1), (7, .invokevirtual 352, 3), (10, .ifCond .eq 28, 3), (13, .aload_n 0, 1), (14, .iload_n 1, 1), (15, .invokevirtual 322, 3), (18, .ifCond .ne 20, 3), (21, .iload 6, 2), (23, .bipush (-9), 2), (25, .bipush 9, 2), (27, .invokestatic 67, 3), (30, .ifCond .eq 8, 3), (33, .iload 6, 2), (35, .ifCond .ne 5, 3), (38, .iconst (-1), 1), (39, .ireturn, 1), (40, .aload_n 0, 1), (41, .iload_n 1, 1), (42, .invokevirtual 301, 3), (45, .istore 7, 2), (47, .aload_n 0, 1), (48, .getfield 45, 3), (51, .iconst 0, 1), (52, .iload_n 2, 1), (53, .iastore, 1), (54, .aload_n 0, 1), (55, .getfield 45, 3), (58, .iconst 1, 1)]
theorem dtX7_change_0_0_ok : dcAll cX7_change dtX7_change_0_0 = true := sorry
theorem dX7_change_0 : decode cX7_change 0 = .ok (.aload_n 0, 1) := sorry
theorem dX7_change_1 : decode cX7_change 1 = .ok (.iconst 0, 1) := sorry
theorem dX7_change_2 : decode cX7_change 2 = .ok (.putfield 60, 3) := sorry
theorem dX7_change_5 : decode cX7_change 5 = .ok (.aload_n 0, 1) := sorry
theorem dX7_change_6 : decode cX7_change 6 = .ok (.iload_n 1, 1) := sorry
theorem dX7_change_7 : decode cX7_change 7 = .ok (.invokevirtual 352, 3) := sorry
theorem dX7_change_10 : decode cX7_change 10 = .ok (.ifCond .eq 28, 3) := sorry
theorem dX7_change_13 : decode cX7_change 13 = .ok (.aload_n 0, 1) := sorry
theorem dX7_change_14 : decode cX7_change 14 = .ok (.iload_n 1, 1) := sorry
theorem dX7_change_15 : decode cX7_change 15 = .ok (.invokevirtual 322, 3) := sorry
theorem dX7_change_18 : decode cX7_change 18 = .ok (.ifCond .ne 20, 3) := sorry
theorem dX7_change_21 : decode cX7_change 21 = .ok (.iload 6, 2) := sorry
theorem dX7_change_23 : decode cX7_change 23 = .ok (.bipush (-9), 2) := sorry
theorem dX7_change_25 : decode cX7_change 25 = .ok (.bipush 9, 2) := sorry
theorem dX7_change_27 : decode cX7_change 27 = .ok (.invokestatic 67, 3) := sorry
theorem dX7_change_30 : decode cX7_change 30 = .ok (.ifCond .eq 8, 3) := sorry
theorem dX7_change_33 : decode cX7_change 33 = .ok (.iload 6, 2) := sorry
theorem dX7_change_35 : decode cX7_change 35 = .ok (.ifCond .ne 5, 3) := sorry
theorem dX7_change_38 : decode cX7_change 38 = .ok (.iconst (-1), 1) := sorry
theorem dX7_change_39 : decode cX7_change 39 = .ok (.ireturn, 1) := sorry
theorem dX7_change_40 : decode cX7_change 40 = .ok (.aload_n 0, 1) := sorry
theorem dX7_change_41 : decode cX7_change 41 = .ok (.iload_n 1, 1) := sorry
theorem dX7_change_42 : decode cX7_change 42 = .ok (.invokevirtual 301, 3) := sorry
theorem dX7_change_45 : decode cX7_change 45 = .ok (.istore 7, 2) := sorry
theorem dX7_change_47 : decode cX7_change 47 = .ok (.aload_n 0, 1) := sorry
theorem dX7_change_48 : decode cX7_change 48 = .ok (.getfield 45, 3) := sorry
theorem dX7_change_51 : decode cX7_change 51 = .ok (.iconst 0, 1) := sorry
theorem dX7_change_52 : decode cX7_change 52 = .ok (.iload_n 2, 1) := sorry
theorem dX7_change_53 : decode cX7_change 53 = .ok (.iastore, 1) := sorry
theorem dX7_change_54 : decode cX7_change 54 = .ok (.aload_n 0, 1) := sorry
theorem dX7_change_55 : decode cX7_change 55 = .ok (.getfield 45, 3) := sorry
theorem dX7_change_58 : decode cX7_change 58 = .ok (.iconst 1, 1) := sorry
def dtX7_change_59_1 : List (Nat × Instr × Nat) := [(59, .iload 7, 2), (61, .iconst 1, 1), (62, .if_icmp .le 7, 3), (65, .iload_n 3, 1), (66, .goto 4, 3), (69, .iconst 0, 1), (70, .iastore, 1), (71, .aload_n 0, 1), (72, .getfield 45, 3), (75, .iconst 2, 1), (76, .iload 7, 2), (78, .iconst 2, 1), (79, .if_icmp .le 8, 3), (82, .iload 4, 2), (84, .goto 4, 3), (87, .iconst 0, 1), (88, .iastore, 1), (89, .aload_n 0, 1), (90, .getfield 45, 3), (93, .iconst 3, 1), (94, .iload 7, 2), (96, .iconst 3, 1), (97, .if_icmp .le 8, 3), (100, .iload 5, 2), (102, .goto 4, 3), (105, .iconst 0, 1), (106, .iastore, 1), (107, .iconst 0, 1), (108, .istore 8, 2), (110, .iload 8, 2), (112, .aload_n 0, 1), (113, .getfield 266, 3)]
theorem dtX7_change_59_1_ok : dcAll cX7_change dtX7_change_59_1 = true := sorry
theorem dX7_change_59 : decode cX7_change 59 = .ok (.iload 7, 2) := sorry
theorem dX7_change_61 : decode cX7_change 61 = .ok (.iconst 1, 1) := sorry
theorem dX7_change_62 : decode cX7_change 62 = .ok (.if_icmp .le 7, 3) := sorry
theorem dX7_change_65 : decode cX7_change 65 = .ok (.iload_n 3, 1) := sorry
theorem dX7_change_66 : decode cX7_change 66 = .ok (.goto 4, 3) := sorry
theorem dX7_change_69 : decode cX7_change 69 = .ok (.iconst 0, 1) := sorry
theorem dX7_change_70 : decode cX7_change 70 = .ok (.iastore, 1) := sorry
theorem dX7_change_71 : decode cX7_change 71 = .ok (.aload_n 0, 1) := sorry
theorem dX7_change_72 : decode cX7_change 72 = .ok (.getfield 45, 3) := sorry
theorem dX7_change_75 : decode cX7_change 75 = .ok (.iconst 2, 1) := sorry
theorem dX7_change_76 : decode cX7_change 76 = .ok (.iload 7, 2) := sorry
theorem dX7_change_78 : decode cX7_change 78 = .ok (.iconst 2, 1) := sorry
theorem dX7_change_79 : decode cX7_change 79 = .ok (.if_icmp .le 8, 3) := sorry
theorem dX7_change_82 : decode cX7_change 82 = .ok (.iload 4, 2) := sorry
theorem dX7_change_84 : decode cX7_change 84 = .ok (.goto 4, 3) := sorry
theorem dX7_change_87 : decode cX7_change 87 = .ok (.iconst 0, 1) := sorry
theorem dX7_change_88 : decode cX7_change 88 = .ok (.iastore, 1) := sorry
theorem dX7_change_89 : decode cX7_change 89 = .ok (.aload_n 0, 1) := sorry
theorem dX7_change_90 : decode cX7_change 90 = .ok (.getfield 45, 3) := sorry
theorem dX7_change_93 : decode cX7_change 93 = .ok (.iconst 3, 1) := sorry
theorem dX7_change_94 : decode cX7_change 94 = .ok (.iload 7, 2) := sorry
theorem dX7_change_96 : decode cX7_change 96 = .ok (.iconst 3, 1) := sorry
theorem dX7_change_97 : decode cX7_change 97 = .ok (.if_icmp .le 8, 3) := sorry
theorem dX7_change_100 : decode cX7_change 100 = .ok (.iload 5, 2) := sorry
theorem dX7_change_102 : decode cX7_change 102 = .ok (.goto 4, 3) := sorry
theorem dX7_change_105 : decode cX7_change 105 = .ok (.iconst 0, 1) := sorry
theorem dX7_change_106 : decode cX7_change 106 = .ok (.iastore, 1) := sorry
theorem dX7_change_107 : decode cX7_change 107 = .ok (.iconst 0, 1) := sorry
theorem dX7_change_108 : decode cX7_change 108 = .ok (.istore 8, 2) := sorry
theorem dX7_change_110 : decode cX7_change 110 = .ok (.iload 8, 2) := sorry
theorem dX7_change_112 : decode cX7_change 112 = .ok (.aload_n 0, 1) := sorry
theorem dX7_change_113 : decode cX7_change 113 = .ok (.getfield 266, 3) := sorry
def dtX7_change_116_2 : List (Nat × Instr × Nat) := [(116, .if_icmp .ge 50, 3), (119, .aload_n 0, 1), (120, .getfield 30, 3), (123, .iload 8, 2), (125, .iaload, 1), (126, .iload_n 1, 1), (127, .if_icmp .lt 33, 3), (130, .aload_n 0, 1), (131, .getfield 30, 3), (134, .iload 8, 2), (136, .iaload, 1), (137, .iload_n 1, 1), (138, .if_icmp .ne 28, 3), (141, .aload_n 0, 1), (142, .getfield 33, 3), (145, .iconst 4, 1), (146, .iload 8, 2), (148, .imul, 1), (149, .aload_n 0, 1), (150, .getfield 45, 3), (153, .iconst 0, 1), (154, .invokestatic 272, 3), (157, .ifCond .ge 9, 3), (160, .iinc 8 1, 3), (163, .goto (-53), 3), (166, .iload 8, 2), (168, .aload_n 0, 1), (169, .getfield 266, 3), (172, .if_icmp .ge 37, 3), (175, .aload_n 0, 1), (176, .getfield 30, 3), (179, .iload 8, 2)]
theorem dtX7_change_116_2_ok : dcAll cX7_change dtX7_change_116_2 = true := sorry
theorem dX7_change_116 : decode cX7_change 116 = .ok (.if_icmp .ge 50, 3) := sorry
theorem dX7_change_119 : decode cX7_change 119 = .ok (.aload_n 0, 1) := sorry
theorem dX7_change_120 : decode cX7_change 120 = .ok (.getfield 30, 3) := sorry
theorem dX7_change_123 : decode cX7_change 123 = .ok (.iload 8, 2) := sorry
theorem dX7_change_125 : decode cX7_change 125 = .ok (.iaload, 1) := sorry
theorem dX7_change_126 : decode cX7_change 126 = .ok (.iload_n 1, 1) := sorry
theorem dX7_change_127 : decode cX7_change 127 = .ok (.if_icmp .lt 33, 3) := sorry
theorem dX7_change_130 : decode cX7_change 130 = .ok (.aload_n 0, 1) := sorry
theorem dX7_change_131 : decode cX7_change 131 = .ok (.getfield 30, 3) := sorry
theorem dX7_change_134 : decode cX7_change 134 = .ok (.iload 8, 2) := sorry
theorem dX7_change_136 : decode cX7_change 136 = .ok (.iaload, 1) := sorry
theorem dX7_change_137 : decode cX7_change 137 = .ok (.iload_n 1, 1) := sorry
theorem dX7_change_138 : decode cX7_change 138 = .ok (.if_icmp .ne 28, 3) := sorry
theorem dX7_change_141 : decode cX7_change 141 = .ok (.aload_n 0, 1) := sorry
theorem dX7_change_142 : decode cX7_change 142 = .ok (.getfield 33, 3) := sorry
theorem dX7_change_145 : decode cX7_change 145 = .ok (.iconst 4, 1) := sorry
theorem dX7_change_146 : decode cX7_change 146 = .ok (.iload 8, 2) := sorry
theorem dX7_change_148 : decode cX7_change 148 = .ok (.imul, 1) := sorry
theorem dX7_change_149 : decode cX7_change 149 = .ok (.aload_n 0, 1) := sorry
theorem dX7_change_150 : decode cX7_change 150 = .ok (.getfield 45, 3) := sorry
theorem dX7_change_153 : decode cX7_change 153 = .ok (.iconst 0, 1) := sorry
theorem dX7_change_154 : decode cX7_change 154 = .ok (.invokestatic 272, 3) := sorry
theorem dX7_change_157 : decode cX7_change 157 = .ok (.ifCond .ge 9, 3) := sorry
theorem dX7_change_160 : decode cX7_change 160 = .ok (.iinc 8 1, 3) := sorry
theorem dX7_change_163 : decode cX7_change 163 = .ok (.goto (-53), 3) := sorry
theorem dX7_change_166 : decode cX7_change 166 = .ok (.iload 8, 2) := sorry
theorem dX7_change_168 : decode cX7_change 168 = .ok (.aload_n 0, 1) := sorry
theorem dX7_change_169 : decode cX7_change 169 = .ok (.getfield 266, 3) := sorry
theorem dX7_change_172 : decode cX7_change 172 = .ok (.if_icmp .ge 37, 3) := sorry
theorem dX7_change_175 : decode cX7_change 175 = .ok (.aload_n 0, 1) := sorry
theorem dX7_change_176 : decode cX7_change 176 = .ok (.getfield 30, 3) := sorry
theorem dX7_change_179 : decode cX7_change 179 = .ok (.iload 8, 2) := sorry
def dtX7_change_181_3 : List (Nat × Instr × Nat) := [(181, .iaload, 1), (182, .iload_n 1, 1), (183, .if_icmp .ne 26, 3), (186, .aload_n 0, 1), (187, .getfield 33, 3), (190, .iconst 4, 1), (191, .iload 8, 2), (193, .imul, 1), (194, .aload_n 0, 1), (195, .getfield 45, 3), (198, .iconst 0, 1), (199, .invokestatic 272, 3), (202, .ifCond .ne 7, 3), (205, .iconst 1, 1), (206, .goto 4, 3), (209, .iconst 0, 1), (210, .istore 9, 2), (212, .iload 9, 2), (214, .ifCond .ne 14, 3), (217, .aload_n 0, 1), (218, .getfield 266, 3), (221, .bipush 40, 2), (223, .if_icmp .ne 5, 3), (226, .iconst (-1), 1), (227, .ireturn, 1), (228, .iload 9, 2), (230, .ifCond .ne 98, 3), (233, .aload_n 0, 1), (234, .getfield 266, 3), (237, .istore 10, 2), (239, .iload 10, 2), (241, .iload 8, 2)]
theorem dtX7_change_181_3_ok : dcAll cX7_change dtX7_change_181_3 = true := sorry
theorem dX7_change_181 : decode cX7_change 181 = .ok (.iaload, 1) := sorry
theorem dX7_change_182 : decode cX7_change 182 = .ok (.iload_n 1, 1) := sorry
theorem dX7_change_183 : decode cX7_change 183 = .ok (.if_icmp .ne 26, 3) := sorry
theorem dX7_change_186 : decode cX7_change 186 = .ok (.aload_n 0, 1) := sorry
theorem dX7_change_187 : decode cX7_change 187 = .ok (.getfield 33, 3) := sorry
theorem dX7_change_190 : decode cX7_change 190 = .ok (.iconst 4, 1) := sorry
theorem dX7_change_191 : decode cX7_change 191 = .ok (.iload 8, 2) := sorry
theorem dX7_change_193 : decode cX7_change 193 = .ok (.imul, 1) := sorry
theorem dX7_change_194 : decode cX7_change 194 = .ok (.aload_n 0, 1) := sorry
theorem dX7_change_195 : decode cX7_change 195 = .ok (.getfield 45, 3) := sorry
theorem dX7_change_198 : decode cX7_change 198 = .ok (.iconst 0, 1) := sorry
theorem dX7_change_199 : decode cX7_change 199 = .ok (.invokestatic 272, 3) := sorry
theorem dX7_change_202 : decode cX7_change 202 = .ok (.ifCond .ne 7, 3) := sorry
theorem dX7_change_205 : decode cX7_change 205 = .ok (.iconst 1, 1) := sorry
theorem dX7_change_206 : decode cX7_change 206 = .ok (.goto 4, 3) := sorry
theorem dX7_change_209 : decode cX7_change 209 = .ok (.iconst 0, 1) := sorry
theorem dX7_change_210 : decode cX7_change 210 = .ok (.istore 9, 2) := sorry
theorem dX7_change_212 : decode cX7_change 212 = .ok (.iload 9, 2) := sorry
theorem dX7_change_214 : decode cX7_change 214 = .ok (.ifCond .ne 14, 3) := sorry
theorem dX7_change_217 : decode cX7_change 217 = .ok (.aload_n 0, 1) := sorry
theorem dX7_change_218 : decode cX7_change 218 = .ok (.getfield 266, 3) := sorry
theorem dX7_change_221 : decode cX7_change 221 = .ok (.bipush 40, 2) := sorry
theorem dX7_change_223 : decode cX7_change 223 = .ok (.if_icmp .ne 5, 3) := sorry
theorem dX7_change_226 : decode cX7_change 226 = .ok (.iconst (-1), 1) := sorry
theorem dX7_change_227 : decode cX7_change 227 = .ok (.ireturn, 1) := sorry
theorem dX7_change_228 : decode cX7_change 228 = .ok (.iload 9, 2) := sorry
theorem dX7_change_230 : decode cX7_change 230 = .ok (.ifCond .ne 98, 3) := sorry
theorem dX7_change_233 : decode cX7_change 233 = .ok (.aload_n 0, 1) := sorry
theorem dX7_change_234 : decode cX7_change 234 = .ok (.getfield 266, 3) := sorry
theorem dX7_change_237 : decode cX7_change 237 = .ok (.istore 10, 2) := sorry
theorem dX7_change_239 : decode cX7_change 239 = .ok (.iload 10, 2) := sorry
theorem dX7_change_241 : decode cX7_change 241 = .ok (.iload 8, 2) := sorry
def dtX7_change_243_4 : List (Nat × Instr × Nat) := [(243, .if_icmp .le 19, 3), (246, .aload_n 0, 1), (247, .iload 10, 2), (249, .iconst 1, 1), (250, .isub, 1), (251, .iload 10, 2), (253, .invokevirtual 355, 3), (256, .iinc 10 (-1), 3), (259, .goto (-20), 3), (262, .aload_n 0, 1), (263, .dup, 1), (264, .getfield 266, 3), (267, .iconst 1, 1), (268, .iadd, 1), (269, .putfield 266, 3), (272, .aload_n 0, 1), (273, .getfield 30, 3), (276, .iload 8, 2), (278, .iload_n 1, 1), (279, .iastore, 1), (280, .iconst 0, 1), (281, .istore 10, 2), (283, .iload 10, 2), (285, .iconst 4, 1), (286, .if_icmp .ge 28, 3), (289, .aload_n 0, 1), (290, .getfield 33, 3), (293, .iconst 4, 1), (294, .iload 8, 2), (296, .imul, 1), (297, .iload 10, 2), (299, .iadd, 1)]
theorem dtX7_change_243_4_ok : dcAll cX7_change dtX7_change_243_4 = true := sorry
theorem dX7_change_243 : decode cX7_change 243 = .ok (.if_icmp .le 19, 3) := sorry
theorem dX7_change_246 : decode cX7_change 246 = .ok (.aload_n 0, 1) := sorry
theorem dX7_change_247 : decode cX7_change 247 = .ok (.iload 10, 2) := sorry
theorem dX7_change_249 : decode cX7_change 249 = .ok (.iconst 1, 1) := sorry
theorem dX7_change_250 : decode cX7_change 250 = .ok (.isub, 1) := sorry
theorem dX7_change_251 : decode cX7_change 251 = .ok (.iload 10, 2) := sorry
theorem dX7_change_253 : decode cX7_change 253 = .ok (.invokevirtual 355, 3) := sorry
theorem dX7_change_256 : decode cX7_change 256 = .ok (.iinc 10 (-1), 3) := sorry
theorem dX7_change_259 : decode cX7_change 259 = .ok (.goto (-20), 3) := sorry
theorem dX7_change_262 : decode cX7_change 262 = .ok (.aload_n 0, 1) := sorry
theorem dX7_change_263 : decode cX7_change 263 = .ok (.dup, 1) := sorry
theorem dX7_change_264 : decode cX7_change 264 = .ok (.getfield 266, 3) := sorry
theorem dX7_change_267 : decode cX7_change 267 = .ok (.iconst 1, 1) := sorry
theorem dX7_change_268 : decode cX7_change 268 = .ok (.iadd, 1) := sorry
theorem dX7_change_269 : decode cX7_change 269 = .ok (.putfield 266, 3) := sorry
theorem dX7_change_272 : decode cX7_change 272 = .ok (.aload_n 0, 1) := sorry
theorem dX7_change_273 : decode cX7_change 273 = .ok (.getfield 30, 3) := sorry
theorem dX7_change_276 : decode cX7_change 276 = .ok (.iload 8, 2) := sorry
theorem dX7_change_278 : decode cX7_change 278 = .ok (.iload_n 1, 1) := sorry
theorem dX7_change_279 : decode cX7_change 279 = .ok (.iastore, 1) := sorry
theorem dX7_change_280 : decode cX7_change 280 = .ok (.iconst 0, 1) := sorry
theorem dX7_change_281 : decode cX7_change 281 = .ok (.istore 10, 2) := sorry
theorem dX7_change_283 : decode cX7_change 283 = .ok (.iload 10, 2) := sorry
theorem dX7_change_285 : decode cX7_change 285 = .ok (.iconst 4, 1) := sorry
theorem dX7_change_286 : decode cX7_change 286 = .ok (.if_icmp .ge 28, 3) := sorry
theorem dX7_change_289 : decode cX7_change 289 = .ok (.aload_n 0, 1) := sorry
theorem dX7_change_290 : decode cX7_change 290 = .ok (.getfield 33, 3) := sorry
theorem dX7_change_293 : decode cX7_change 293 = .ok (.iconst 4, 1) := sorry
theorem dX7_change_294 : decode cX7_change 294 = .ok (.iload 8, 2) := sorry
theorem dX7_change_296 : decode cX7_change 296 = .ok (.imul, 1) := sorry
theorem dX7_change_297 : decode cX7_change 297 = .ok (.iload 10, 2) := sorry
theorem dX7_change_299 : decode cX7_change 299 = .ok (.iadd, 1) := sorry
def dtX7_change_300_5 : List (Nat × Instr × Nat) := [(300, .aload_n 0, 1), (301, .getfield 45, 3), (304, .iload 10, 2), (306, .iaload, 1), (307, .iastore, 1), (308, .iinc 10 1, 3), (311, .goto (-28), 3), (314, .aload_n 0, 1), (315, .getfield 36, 3), (318, .iload 8, 2), (320, .iload 6, 2), (322, .iastore, 1), (323, .aload_n 0, 1), (324, .getfield 266, 3), (327, .ireturn, 1), (328, .aload_n 0, 1), (329, .getfield 36, 3), (332, .iload 8, 2), (334, .dup2, 1), (335, .iaload, 1), (336, .iload 6, 2), (338, .iadd, 1), (339, .iastore, 1), (340, .aload_n 0, 1), (341, .getfield 36, 3), (344, .iload 8, 2), (346, .iaload, 1), (347, .ifCond .eq 8, 3), (350, .aload_n 0, 1), (351, .getfield 266, 3), (354, .ireturn, 1), (355, .aload_n 0, 1)]
theorem dtX7_change_300_5_ok : dcAll cX7_change dtX7_change_300_5 = true := sorry
theorem dX7_change_300 : decode cX7_change 300 = .ok (.aload_n 0, 1) := sorry
theorem dX7_change_301 : decode cX7_change 301 = .ok (.getfield 45, 3) := sorry
theorem dX7_change_304 : decode cX7_change 304 = .ok (.iload 10, 2) := sorry
theorem dX7_change_306 : decode cX7_change 306 = .ok (.iaload, 1) := sorry
theorem dX7_change_307 : decode cX7_change 307 = .ok (.iastore, 1) := sorry
theorem dX7_change_308 : decode cX7_change 308 = .ok (.iinc 10 1, 3) := sorry
theorem dX7_change_311 : decode cX7_change 311 = .ok (.goto (-28), 3) := sorry
theorem dX7_change_314 : decode cX7_change 314 = .ok (.aload_n 0, 1) := sorry
theorem dX7_change_315 : decode cX7_change 315 = .ok (.getfield 36, 3) := sorry
theorem dX7_change_318 : decode cX7_change 318 = .ok (.iload 8, 2) := sorry
theorem dX7_change_320 : decode cX7_change 320 = .ok (.iload 6, 2) := sorry
theorem dX7_change_322 : decode cX7_change 322 = .ok (.iastore, 1) := sorry
theorem dX7_change_323 : decode cX7_change 323 = .ok (.aload_n 0, 1) := sorry
theorem dX7_change_324 : decode cX7_change 324 = .ok (.getfield 266, 3) := sorry
theorem dX7_change_327 : decode cX7_change 327 = .ok (.ireturn, 1) := sorry
theorem dX7_change_328 : decode cX7_change 328 = .ok (.aload_n 0, 1) := sorry
theorem dX7_change_329 : decode cX7_change 329 = .ok (.getfield 36, 3) := sorry
theorem dX7_change_332 : decode cX7_change 332 = .ok (.iload 8, 2) := sorry
theorem dX7_change_334 : decode cX7_change 334 = .ok (.dup2, 1) := sorry
theorem dX7_change_335 : decode cX7_change 335 = .ok (.iaload, 1) := sorry
theorem dX7_change_336 : decode cX7_change 336 = .ok (.iload 6, 2) := sorry
theorem dX7_change_338 : decode cX7_change 338 = .ok (.iadd, 1) := sorry
theorem dX7_change_339 : decode cX7_change 339 = .ok (.iastore, 1) := sorry
theorem dX7_change_340 : decode cX7_change 340 = .ok (.aload_n 0, 1) := sorry
theorem dX7_change_341 : decode cX7_change 341 = .ok (.getfield 36, 3) := sorry
theorem dX7_change_344 : decode cX7_change 344 = .ok (.iload 8, 2) := sorry
theorem dX7_change_346 : decode cX7_change 346 = .ok (.iaload, 1) := sorry
theorem dX7_change_347 : decode cX7_change 347 = .ok (.ifCond .eq 8, 3) := sorry
theorem dX7_change_350 : decode cX7_change 350 = .ok (.aload_n 0, 1) := sorry
theorem dX7_change_351 : decode cX7_change 351 = .ok (.getfield 266, 3) := sorry
theorem dX7_change_354 : decode cX7_change 354 = .ok (.ireturn, 1) := sorry
theorem dX7_change_355 : decode cX7_change 355 = .ok (.aload_n 0, 1) := sorry
def dtX7_change_356_6 : List (Nat × Instr × Nat) := [(356, .dup, 1), (357, .getfield 266, 3), (360, .iconst 1, 1), (361, .isub, 1), (362, .putfield 266, 3), (365, .iload 8, 2), (367, .istore 10, 2), (369, .iload 10, 2), (371, .aload_n 0, 1), (372, .getfield 266, 3), (375, .if_icmp .ge 19, 3), (378, .aload_n 0, 1), (379, .iload 10, 2), (381, .iconst 1, 1), (382, .iadd, 1), (383, .iload 10, 2), (385, .invokevirtual 355, 3), (388, .iinc 10 1, 3), (391, .goto (-22), 3), (394, .aload_n 0, 1), (395, .getfield 266, 3), (398, .ireturn, 1)]
theorem dtX7_change_356_6_ok : dcAll cX7_change dtX7_change_356_6 = true := sorry
theorem dX7_change_356 : decode cX7_change 356 = .ok (.dup, 1) := sorry
theorem dX7_change_357 : decode cX7_change 357 = .ok (.getfield 266, 3) := sorry
theorem dX7_change_360 : decode cX7_change 360 = .ok (.iconst 1, 1) := sorry
theorem dX7_change_361 : decode cX7_change 361 = .ok (.isub, 1) := sorry
theorem dX7_change_362 : decode cX7_change 362 = .ok (.putfield 266, 3) := sorry
theorem dX7_change_365 : decode cX7_change 365 = .ok (.iload 8, 2) := sorry
theorem dX7_change_367 : decode cX7_change 367 = .ok (.istore 10, 2) := sorry
theorem dX7_change_369 : decode cX7_change 369 = .ok (.iload 10, 2) := sorry
theorem dX7_change_371 : decode cX7_change 371 = .ok (.aload_n 0, 1) := sorry
theorem dX7_change_372 : decode cX7_change 372 = .ok (.getfield 266, 3) := sorry
theorem dX7_change_375 : decode cX7_change 375 = .ok (.if_icmp .ge 19, 3) := sorry
theorem dX7_change_378 : decode cX7_change 378 = .ok (.aload_n 0, 1) := sorry
theorem dX7_change_379 : decode cX7_change 379 = .ok (.iload 10, 2) := sorry
theorem dX7_change_381 : decode cX7_change 381 = .ok (.iconst 1, 1) := sorry
theorem dX7_change_382 : decode cX7_change 382 = .ok (.iadd, 1) := sorry
theorem dX7_change_383 : decode cX7_change 383 = .ok (.iload 10, 2) := sorry
theorem dX7_change_385 : decode cX7_change 385 = .ok (.invokevirtual 355, 3) := sorry
theorem dX7_change_388 : decode cX7_change 388 = .ok (.iinc 10 1, 3) := sorry
theorem dX7_change_391 : decode cX7_change 391 = .ok (.goto (-22), 3) := sorry
theorem dX7_change_394 : decode cX7_change 394 = .ok (.aload_n 0, 1) := sorry
theorem dX7_change_395 : decode cX7_change 395 = .ok (.getfield 266, 3) := sorry
theorem dX7_change_398 : decode cX7_change 398 = .ok (.ireturn, 1) := sorry
def dtX7_moves_0_0 : List (Nat × Instr × Nat) := [(0, .aload_n 0, 1), (1, .getfield 30, 3), (4, .iload_n 2, 1), (5, .aload_n 0, 1), (6, .getfield 30, 3), (9, .iload_n 1, 1), (10, .iaload, 1), (11, .iastore, 1), (12, .aload_n 0, 1), (13, .getfield 36, 3), (16, .iload_n 2, 1), (17, .aload_n 0, 1), (18, .getfield 36, 3), (21, .iload_n 1, 1), (22, .iaload, 1), (23, .iastore, 1), (24, .iconst 0, 1), (25, .istore_n 3, 1), (26, .iload_n 3, 1), (27, .iconst 4, 1), (28, .if_icmp .ge 29, 3), (31, .aload_n 0, 1), (32, .getfield 33, 3), (35, .iconst 4, 1), (36, .iload_n 2, 1), (37, .imul, 1), (38, .iload_n 3, 1), (39, .iadd, 1), (40, .aload_n 0, 1), (41, .getfield 33, 3), (44, .iconst 4, 1), (45, .iload_n 1, 1)]
theorem dtX7_moves_0_0_ok : dcAll cX7_moves dtX7_moves_0_0 = true := sorry
theorem dX7_moves_0 : decode cX7_moves 0 = .ok (.aload_n 0, 1) := sorry
theorem dX7_moves_1 : decode cX7_moves 1 = .ok (.getfield 30, 3) := sorry
theorem dX7_moves_4 : decode cX7_moves 4 = .ok (.iload_n 2, 1) := sorry
theorem dX7_moves_5 : decode cX7_moves 5 = .ok (.aload_n 0, 1) := sorry
theorem dX7_moves_6 : decode cX7_moves 6 = .ok (.getfield 30, 3) := sorry
theorem dX7_moves_9 : decode cX7_moves 9 = .ok (.iload_n 1, 1) := sorry
theorem dX7_moves_10 : decode cX7_moves 10 = .ok (.iaload, 1) := sorry
theorem dX7_moves_11 : decode cX7_moves 11 = .ok (.iastore, 1) := sorry
theorem dX7_moves_12 : decode cX7_moves 12 = .ok (.aload_n 0, 1) := sorry
theorem dX7_moves_13 : decode cX7_moves 13 = .ok (.getfield 36, 3) := sorry
theorem dX7_moves_16 : decode cX7_moves 16 = .ok (.iload_n 2, 1) := sorry
theorem dX7_moves_17 : decode cX7_moves 17 = .ok (.aload_n 0, 1) := sorry
theorem dX7_moves_18 : decode cX7_moves 18 = .ok (.getfield 36, 3) := sorry
theorem dX7_moves_21 : decode cX7_moves 21 = .ok (.iload_n 1, 1) := sorry
theorem dX7_moves_22 : decode cX7_moves 22 = .ok (.iaload, 1) := sorry
theorem dX7_moves_23 : decode cX7_moves 23 = .ok (.iastore, 1) := sorry
theorem dX7_moves_24 : decode cX7_moves 24 = .ok (.iconst 0, 1) := sorry
theorem dX7_moves_25 : decode cX7_moves 25 = .ok (.istore_n 3, 1) := sorry
theorem dX7_moves_26 : decode cX7_moves 26 = .ok (.iload_n 3, 1) := sorry
theorem dX7_moves_27 : decode cX7_moves 27 = .ok (.iconst 4, 1) := sorry
theorem dX7_moves_28 : decode cX7_moves 28 = .ok (.if_icmp .ge 29, 3) := sorry
theorem dX7_moves_31 : decode cX7_moves 31 = .ok (.aload_n 0, 1) := sorry
theorem dX7_moves_32 : decode cX7_moves 32 = .ok (.getfield 33, 3) := sorry
theorem dX7_moves_35 : decode cX7_moves 35 = .ok (.iconst 4, 1) := sorry
theorem dX7_moves_36 : decode cX7_moves 36 = .ok (.iload_n 2, 1) := sorry
theorem dX7_moves_37 : decode cX7_moves 37 = .ok (.imul, 1) := sorry
theorem dX7_moves_38 : decode cX7_moves 38 = .ok (.iload_n 3, 1) := sorry
theorem dX7_moves_39 : decode cX7_moves 39 = .ok (.iadd, 1) := sorry
theorem dX7_moves_40 : decode cX7_moves 40 = .ok (.aload_n 0, 1) := sorry
theorem dX7_moves_41 : decode cX7_moves 41 = .ok (.getfield 33, 3) := sorry
theorem dX7_moves_44 : decode cX7_moves 44 = .ok (.iconst 4, 1) := sorry
theorem dX7_moves_45 : decode cX7_moves 45 = .ok (.iload_n 1, 1) := sorry
def dtX7_moves_46_1 : List (Nat × Instr × Nat) := [(46, .imul, 1), (47, .iload_n 3, 1), (48, .iadd, 1), (49, .iaload, 1), (50, .iastore, 1), (51, .iinc 3 1, 3), (54, .goto (-28), 3), (57, .return_, 1)]
theorem dtX7_moves_46_1_ok : dcAll cX7_moves dtX7_moves_46_1 = true := sorry
theorem dX7_moves_46 : decode cX7_moves 46 = .ok (.imul, 1) := sorry
theorem dX7_moves_47 : decode cX7_moves 47 = .ok (.iload_n 3, 1) := sorry
theorem dX7_moves_48 : decode cX7_moves 48 = .ok (.iadd, 1) := sorry
theorem dX7_moves_49 : decode cX7_moves 49 = .ok (.iaload, 1) := sorry
theorem dX7_moves_50 : decode cX7_moves 50 = .ok (.iastore, 1) := sorry
theorem dX7_moves_51 : decode cX7_moves 51 = .ok (.iinc 3 1, 3) := sorry
theorem dX7_moves_54 : decode cX7_moves 54 = .ok (.goto (-28), 3) := sorry
theorem dX7_moves_57 : decode cX7_moves 57 = .ok (.return_, 1) := sorry
def dtX7_pending_0_0 : List (Nat × Instr × Nat) := [(0, .aload_n 0, 1), (1, .iload_n 2, 1), (2, .iconst 0, 1), (3, .iconst 5, 1), (4, .invokestatic 67, 3), (7, .ifCond .eq 7, 3), (10, .iconst 0, 1), (11, .goto 4, 3), (14, .iconst 1, 1), (15, .putfield 60, 3), (18, .aload_n 0, 1), (19, .getfield 60, 3), (22, .ifCond .ne 13, 3), (25, .iload_n 1, 1), (26, .iconst (-1), 1), (27, .if_icmp .ne 8, 3), (30, .aload_n 0, 1), (31, .getfield 266, 3), (34, .ireturn, 1), (35, .aload_n 0, 1), (36, .getfield 60, 3), (39, .ifCond .ne 45, 3), (42, .iload_n 1, 1), (43, .iconst 0, 1), (44, .aload_n 0, 1), (45, .getfield 266, 3), (48, .iconst 1, 1), (49, .isub, 1), (50, .invokestatic 67, 3), (53, .ifCond .eq 26, 3), (56, .iload_n 2, 1), (57, .iconst 1, 1)]
theorem dtX7_pending_0_0_ok : dcAll cX7_pending dtX7_pending_0_0 = true := sorry
theorem dX7_pending_0 : decode cX7_pending 0 = .ok (.aload_n 0, 1) := sorry
theorem dX7_pending_1 : decode cX7_pending 1 = .ok (.iload_n 2, 1) := sorry
theorem dX7_pending_2 : decode cX7_pending 2 = .ok (.iconst 0, 1) := sorry
theorem dX7_pending_3 : decode cX7_pending 3 = .ok (.iconst 5, 1) := sorry
theorem dX7_pending_4 : decode cX7_pending 4 = .ok (.invokestatic 67, 3) := sorry
theorem dX7_pending_7 : decode cX7_pending 7 = .ok (.ifCond .eq 7, 3) := sorry
theorem dX7_pending_10 : decode cX7_pending 10 = .ok (.iconst 0, 1) := sorry
theorem dX7_pending_11 : decode cX7_pending 11 = .ok (.goto 4, 3) := sorry
theorem dX7_pending_14 : decode cX7_pending 14 = .ok (.iconst 1, 1) := sorry
theorem dX7_pending_15 : decode cX7_pending 15 = .ok (.putfield 60, 3) := sorry
theorem dX7_pending_18 : decode cX7_pending 18 = .ok (.aload_n 0, 1) := sorry
theorem dX7_pending_19 : decode cX7_pending 19 = .ok (.getfield 60, 3) := sorry
theorem dX7_pending_22 : decode cX7_pending 22 = .ok (.ifCond .ne 13, 3) := sorry
theorem dX7_pending_25 : decode cX7_pending 25 = .ok (.iload_n 1, 1) := sorry
theorem dX7_pending_26 : decode cX7_pending 26 = .ok (.iconst (-1), 1) := sorry
theorem dX7_pending_27 : decode cX7_pending 27 = .ok (.if_icmp .ne 8, 3) := sorry
theorem dX7_pending_30 : decode cX7_pending 30 = .ok (.aload_n 0, 1) := sorry
theorem dX7_pending_31 : decode cX7_pending 31 = .ok (.getfield 266, 3) := sorry
theorem dX7_pending_34 : decode cX7_pending 34 = .ok (.ireturn, 1) := sorry
theorem dX7_pending_35 : decode cX7_pending 35 = .ok (.aload_n 0, 1) := sorry
theorem dX7_pending_36 : decode cX7_pending 36 = .ok (.getfield 60, 3) := sorry
theorem dX7_pending_39 : decode cX7_pending 39 = .ok (.ifCond .ne 45, 3) := sorry
theorem dX7_pending_42 : decode cX7_pending 42 = .ok (.iload_n 1, 1) := sorry
theorem dX7_pending_43 : decode cX7_pending 43 = .ok (.iconst 0, 1) := sorry
theorem dX7_pending_44 : decode cX7_pending 44 = .ok (.aload_n 0, 1) := sorry
theorem dX7_pending_45 : decode cX7_pending 45 = .ok (.getfield 266, 3) := sorry
theorem dX7_pending_48 : decode cX7_pending 48 = .ok (.iconst 1, 1) := sorry
theorem dX7_pending_49 : decode cX7_pending 49 = .ok (.isub, 1) := sorry
theorem dX7_pending_50 : decode cX7_pending 50 = .ok (.invokestatic 67, 3) := sorry
theorem dX7_pending_53 : decode cX7_pending 53 = .ok (.ifCond .eq 26, 3) := sorry
theorem dX7_pending_56 : decode cX7_pending 56 = .ok (.iload_n 2, 1) := sorry
theorem dX7_pending_57 : decode cX7_pending 57 = .ok (.iconst 1, 1) := sorry
def dtX7_pending_58_1 : List (Nat × Instr × Nat) := [(58, .iconst 4, 1), (59, .invokestatic 67, 3), (62, .ifCond .eq 22, 3), (65, .iload_n 2, 1), (66, .aload_n 0, 1), (67, .aload_n 0, 1), (68, .getfield 30, 3), (71, .iload_n 1, 1), (72, .iaload, 1), (73, .invokevirtual 301, 3), (76, .if_icmp .le 8, 3), (79, .aload_n 0, 1), (80, .iconst 1, 1), (81, .putfield 60, 3), (84, .aload_n 0, 1), (85, .getfield 60, 3), (88, .iconst 1, 1), (89, .if_icmp .ne 5, 3), (92, .iconst 0, 1), (93, .ireturn, 1), (94, .iload_n 2, 1), (95, .ifCond .ne 12, 3), (98, .aload_n 0, 1), (99, .getfield 30, 3), (102, .iload_n 1, 1), (103, .iaload, 1), (104, .goto 29, 3), (107, .iload_n 2, 1), (108, .iconst 5, 1), (109, .if_icmp .ne 12, 3), (112, .aload_n 0, 1), (113, .getfield 36, 3)]
theorem dtX7_pending_58_1_ok : dcAll cX7_pending dtX7_pending_58_1 = true := sorry
theorem dX7_pending_58 : decode cX7_pending 58 = .ok (.iconst 4, 1) := sorry
theorem dX7_pending_59 : decode cX7_pending 59 = .ok (.invokestatic 67, 3) := sorry
theorem dX7_pending_62 : decode cX7_pending 62 = .ok (.ifCond .eq 22, 3) := sorry
theorem dX7_pending_65 : decode cX7_pending 65 = .ok (.iload_n 2, 1) := sorry
theorem dX7_pending_66 : decode cX7_pending 66 = .ok (.aload_n 0, 1) := sorry
theorem dX7_pending_67 : decode cX7_pending 67 = .ok (.aload_n 0, 1) := sorry
theorem dX7_pending_68 : decode cX7_pending 68 = .ok (.getfield 30, 3) := sorry
theorem dX7_pending_71 : decode cX7_pending 71 = .ok (.iload_n 1, 1) := sorry
theorem dX7_pending_72 : decode cX7_pending 72 = .ok (.iaload, 1) := sorry
theorem dX7_pending_73 : decode cX7_pending 73 = .ok (.invokevirtual 301, 3) := sorry
theorem dX7_pending_76 : decode cX7_pending 76 = .ok (.if_icmp .le 8, 3) := sorry
theorem dX7_pending_79 : decode cX7_pending 79 = .ok (.aload_n 0, 1) := sorry
theorem dX7_pending_80 : decode cX7_pending 80 = .ok (.iconst 1, 1) := sorry
theorem dX7_pending_81 : decode cX7_pending 81 = .ok (.putfield 60, 3) := sorry
theorem dX7_pending_84 : decode cX7_pending 84 = .ok (.aload_n 0, 1) := sorry
theorem dX7_pending_85 : decode cX7_pending 85 = .ok (.getfield 60, 3) := sorry
theorem dX7_pending_88 : decode cX7_pending 88 = .ok (.iconst 1, 1) := sorry
theorem dX7_pending_89 : decode cX7_pending 89 = .ok (.if_icmp .ne 5, 3) := sorry
theorem dX7_pending_92 : decode cX7_pending 92 = .ok (.iconst 0, 1) := sorry
theorem dX7_pending_93 : decode cX7_pending 93 = .ok (.ireturn, 1) := sorry
theorem dX7_pending_94 : decode cX7_pending 94 = .ok (.iload_n 2, 1) := sorry
theorem dX7_pending_95 : decode cX7_pending 95 = .ok (.ifCond .ne 12, 3) := sorry
theorem dX7_pending_98 : decode cX7_pending 98 = .ok (.aload_n 0, 1) := sorry
theorem dX7_pending_99 : decode cX7_pending 99 = .ok (.getfield 30, 3) := sorry
theorem dX7_pending_102 : decode cX7_pending 102 = .ok (.iload_n 1, 1) := sorry
theorem dX7_pending_103 : decode cX7_pending 103 = .ok (.iaload, 1) := sorry
theorem dX7_pending_104 : decode cX7_pending 104 = .ok (.goto 29, 3) := sorry
theorem dX7_pending_107 : decode cX7_pending 107 = .ok (.iload_n 2, 1) := sorry
theorem dX7_pending_108 : decode cX7_pending 108 = .ok (.iconst 5, 1) := sorry
theorem dX7_pending_109 : decode cX7_pending 109 = .ok (.if_icmp .ne 12, 3) := sorry
theorem dX7_pending_112 : decode cX7_pending 112 = .ok (.aload_n 0, 1) := sorry
theorem dX7_pending_113 : decode cX7_pending 113 = .ok (.getfield 36, 3) := sorry
def dtX7_pending_116_2 : List (Nat × Instr × Nat) := [(116, .iload_n 1, 1), (117, .iaload, 1), (118, .goto 15, 3), (121, .aload_n 0, 1), (122, .getfield 33, 3), (125, .iconst 4, 1), (126, .iload_n 1, 1), (127, .imul, 1), (128, .iload_n 2, 1), (129, .iadd, 1), (130, .iconst 1, 1), (131, .isub, 1), (132, .iaload, 1), (133, .ireturn, 1)]
theorem dtX7_pending_116_2_ok : dcAll cX7_pending dtX7_pending_116_2 = true := sorry
theorem dX7_pending_116 : decode cX7_pending 116 = .ok (.iload_n 1, 1) := sorry
theorem dX7_pending_117 : decode cX7_pending 117 = .ok (.iaload, 1) := sorry
theorem dX7_pending_118 : decode cX7_pending 118 = .ok (.goto 15, 3) := sorry
theorem dX7_pending_121 : decode cX7_pending 121 = .ok (.aload_n 0, 1) := sorry
theorem dX7_pending_122 : decode cX7_pending 122 = .ok (.getfield 33, 3) := sorry
theorem dX7_pending_125 : decode cX7_pending 125 = .ok (.iconst 4, 1) := sorry
theorem dX7_pending_126 : decode cX7_pending 126 = .ok (.iload_n 1, 1) := sorry
theorem dX7_pending_127 : decode cX7_pending 127 = .ok (.imul, 1) := sorry
theorem dX7_pending_128 : decode cX7_pending 128 = .ok (.iload_n 2, 1) := sorry
theorem dX7_pending_129 : decode cX7_pending 129 = .ok (.iadd, 1) := sorry
theorem dX7_pending_130 : decode cX7_pending 130 = .ok (.iconst 1, 1) := sorry
theorem dX7_pending_131 : decode cX7_pending 131 = .ok (.isub, 1) := sorry
theorem dX7_pending_132 : decode cX7_pending 132 = .ok (.iaload, 1) := sorry
theorem dX7_pending_133 : decode cX7_pending 133 = .ok (.ireturn, 1) := sorry
def dtX7_cancel_0_0 : List (Nat × Instr × Nat) := [(0, .aload_n 0, 1), (1, .iconst 0, 1), (2, .putfield 60, 3), (5, .aload_n 0, 1), (6, .getfield 266, 3), (9, .istore_n 1, 1), (10, .aload_n 0, 1), (11, .iconst 0, 1), (12, .putfield 266, 3), (15, .iload_n 1, 1), (16, .ireturn, 1)]
theorem dtX7_cancel_0_0_ok : dcAll cX7_cancel dtX7_cancel_0_0 = true := sorry
theorem dX7_cancel_0 : decode cX7_cancel 0 = .ok (.aload_n 0, 1) := sorry
theorem dX7_cancel_1 : decode cX7_cancel 1 = .ok (.iconst 0, 1) := sorry
theorem dX7_cancel_2 : decode cX7_cancel 2 = .ok (.putfield 60, 3) := sorry
theorem dX7_cancel_5 : decode cX7_cancel 5 = .ok (.aload_n 0, 1) := sorry
theorem dX7_cancel_6 : decode cX7_cancel 6 = .ok (.getfield 266, 3) := sorry
theorem dX7_cancel_9 : decode cX7_cancel 9 = .ok (.istore_n 1, 1) := sorry
theorem dX7_cancel_10 : decode cX7_cancel 10 = .ok (.aload_n 0, 1) := sorry
theorem dX7_cancel_11 : decode cX7_cancel 11 = .ok (.iconst 0, 1) := sorry
theorem dX7_cancel_12 : decode cX7_cancel 12 = .ok (.putfield 266, 3) := sorry
theorem dX7_cancel_15 : decode cX7_cancel 15 = .ok (.iload_n 1, 1) := sorry
theorem dX7_cancel_16 : decode cX7_cancel 16 = .ok (.ireturn, 1) := sorry
def dtX7_commit_0_0 : List (Nat × Instr × Nat) := [(0, .aload_n 0, 1), (1, .iconst 0, 1), (2, .putfield 60, 3), (5, .aload_n 0, 1), (6, .invokevirtual 358, 3), (9, .istore_n 1, 1), (10, .aload_n 0, 1), (11, .iconst 0, 1), (12, .putfield 266, 3), (15, .iload_n 1, 1), (16, .ifCond .ge 15, 3), (19, .aload_n 0, 1), (20, .dup, 1), (21, .getfield 263, 3), (24, .iconst 1, 1), (25, .iadd, 1), (26, .putfield 263, 3), (29, .iload_n 1, 1), (30, .ireturn, 1), (31, .aload_n 0, 1), (32, .getfield 257, 3), (35, .bipush 8, 2), (37, .if_icmp .ne 39, 3), (40, .iconst 1, 1), (41, .istore_n 2, 1), (42, .iload_n 2, 1), (43, .bipush 8, 2), (45, .if_icmp .ge 21, 3), (48, .aload_n 0, 1), (49, .iconst 1, 1), (50, .iload_n 2, 1), (51, .iadd, 1)]
theorem dtX7_commit_0_0_ok : dcAll cX7_commit dtX7_commit_0_0 = true := sorry
theorem dX7_commit_0 : decode cX7_commit 0 = .ok (.aload_n 0, 1) := sorry
theorem dX7_commit_1 : decode cX7_commit 1 = .ok (.iconst 0, 1) := sorry
theorem dX7_commit_2 : decode cX7_commit 2 = .ok (.putfield 60, 3) := sorry
theorem dX7_commit_5 : decode cX7_commit 5 = .ok (.aload_n 0, 1) := sorry
theorem dX7_commit_6 : decode cX7_commit 6 = .ok (.invokevirtual 358, 3) := sorry
theorem dX7_commit_9 : decode cX7_commit 9 = .ok (.istore_n 1, 1) := sorry
theorem dX7_commit_10 : decode cX7_commit 10 = .ok (.aload_n 0, 1) := sorry
theorem dX7_commit_11 : decode cX7_commit 11 = .ok (.iconst 0, 1) := sorry
theorem dX7_commit_12 : decode cX7_commit 12 = .ok (.putfield 266, 3) := sorry
theorem dX7_commit_15 : decode cX7_commit 15 = .ok (.iload_n 1, 1) := sorry
theorem dX7_commit_16 : decode cX7_commit 16 = .ok (.ifCond .ge 15, 3) := sorry
theorem dX7_commit_19 : decode cX7_commit 19 = .ok (.aload_n 0, 1) := sorry
theorem dX7_commit_20 : decode cX7_commit 20 = .ok (.dup, 1) := sorry
theorem dX7_commit_21 : decode cX7_commit 21 = .ok (.getfield 263, 3) := sorry
theorem dX7_commit_24 : decode cX7_commit 24 = .ok (.iconst 1, 1) := sorry
theorem dX7_commit_25 : decode cX7_commit 25 = .ok (.iadd, 1) := sorry
theorem dX7_commit_26 : decode cX7_commit 26 = .ok (.putfield 263, 3) := sorry
theorem dX7_commit_29 : decode cX7_commit 29 = .ok (.iload_n 1, 1) := sorry
theorem dX7_commit_30 : decode cX7_commit 30 = .ok (.ireturn, 1) := sorry
theorem dX7_commit_31 : decode cX7_commit 31 = .ok (.aload_n 0, 1) := sorry
theorem dX7_commit_32 : decode cX7_commit 32 = .ok (.getfield 257, 3) := sorry
theorem dX7_commit_35 : decode cX7_commit 35 = .ok (.bipush 8, 2) := sorry
theorem dX7_commit_37 : decode cX7_commit 37 = .ok (.if_icmp .ne 39, 3) := sorry
theorem dX7_commit_40 : decode cX7_commit 40 = .ok (.iconst 1, 1) := sorry
theorem dX7_commit_41 : decode cX7_commit 41 = .ok (.istore_n 2, 1) := sorry
theorem dX7_commit_42 : decode cX7_commit 42 = .ok (.iload_n 2, 1) := sorry
theorem dX7_commit_43 : decode cX7_commit 43 = .ok (.bipush 8, 2) := sorry
theorem dX7_commit_45 : decode cX7_commit 45 = .ok (.if_icmp .ge 21, 3) := sorry
theorem dX7_commit_48 : decode cX7_commit 48 = .ok (.aload_n 0, 1) := sorry
theorem dX7_commit_49 : decode cX7_commit 49 = .ok (.iconst 1, 1) := sorry
theorem dX7_commit_50 : decode cX7_commit 50 = .ok (.iload_n 2, 1) := sorry
theorem dX7_commit_51 : decode cX7_commit 51 = .ok (.iadd, 1) := sorry
def dtX7_commit_52_1 : List (Nat × Instr × Nat) := [(52, .iconst 1, 1), (53, .iload_n 2, 1), (54, .iadd, 1), (55, .iconst 1, 1), (56, .isub, 1), (57, .invokevirtual 340, 3), (60, .iinc 2 1, 3), (63, .goto (-21), 3), (66, .aload_n 0, 1), (67, .dup, 1), (68, .getfield 257, 3), (71, .iconst 1, 1), (72, .isub, 1), (73, .putfield 257, 3), (76, .aload_n 0, 1), (77, .iconst 0, 1), (78, .iconst 1, 1), (79, .aload_n 0, 1), (80, .getfield 257, 3), (83, .iadd, 1), (84, .invokevirtual 340, 3), (87, .aload_n 0, 1), (88, .dup, 1), (89, .getfield 257, 3), (92, .iconst 1, 1), (93, .iadd, 1), (94, .putfield 257, 3), (97, .aload_n 0, 1), (98, .iconst 0, 1), (99, .bipush 9, 2), (101, .invokevirtual 340, 3), (104, .aload_n 0, 1)]
theorem dtX7_commit_52_1_ok : dcAll cX7_commit dtX7_commit_52_1 = true := sorry
theorem dX7_commit_52 : decode cX7_commit 52 = .ok (.iconst 1, 1) := sorry
theorem dX7_commit_53 : decode cX7_commit 53 = .ok (.iload_n 2, 1) := sorry
theorem dX7_commit_54 : decode cX7_commit 54 = .ok (.iadd, 1) := sorry
theorem dX7_commit_55 : decode cX7_commit 55 = .ok (.iconst 1, 1) := sorry
theorem dX7_commit_56 : decode cX7_commit 56 = .ok (.isub, 1) := sorry
theorem dX7_commit_57 : decode cX7_commit 57 = .ok (.invokevirtual 340, 3) := sorry
theorem dX7_commit_60 : decode cX7_commit 60 = .ok (.iinc 2 1, 3) := sorry
theorem dX7_commit_63 : decode cX7_commit 63 = .ok (.goto (-21), 3) := sorry
theorem dX7_commit_66 : decode cX7_commit 66 = .ok (.aload_n 0, 1) := sorry
theorem dX7_commit_67 : decode cX7_commit 67 = .ok (.dup, 1) := sorry
theorem dX7_commit_68 : decode cX7_commit 68 = .ok (.getfield 257, 3) := sorry
theorem dX7_commit_71 : decode cX7_commit 71 = .ok (.iconst 1, 1) := sorry
theorem dX7_commit_72 : decode cX7_commit 72 = .ok (.isub, 1) := sorry
theorem dX7_commit_73 : decode cX7_commit 73 = .ok (.putfield 257, 3) := sorry
theorem dX7_commit_76 : decode cX7_commit 76 = .ok (.aload_n 0, 1) := sorry
theorem dX7_commit_77 : decode cX7_commit 77 = .ok (.iconst 0, 1) := sorry
theorem dX7_commit_78 : decode cX7_commit 78 = .ok (.iconst 1, 1) := sorry
theorem dX7_commit_79 : decode cX7_commit 79 = .ok (.aload_n 0, 1) := sorry
theorem dX7_commit_80 : decode cX7_commit 80 = .ok (.getfield 257, 3) := sorry
theorem dX7_commit_83 : decode cX7_commit 83 = .ok (.iadd, 1) := sorry
theorem dX7_commit_84 : decode cX7_commit 84 = .ok (.invokevirtual 340, 3) := sorry
theorem dX7_commit_87 : decode cX7_commit 87 = .ok (.aload_n 0, 1) := sorry
theorem dX7_commit_88 : decode cX7_commit 88 = .ok (.dup, 1) := sorry
theorem dX7_commit_89 : decode cX7_commit 89 = .ok (.getfield 257, 3) := sorry
theorem dX7_commit_92 : decode cX7_commit 92 = .ok (.iconst 1, 1) := sorry
theorem dX7_commit_93 : decode cX7_commit 93 = .ok (.iadd, 1) := sorry
theorem dX7_commit_94 : decode cX7_commit 94 = .ok (.putfield 257, 3) := sorry
theorem dX7_commit_97 : decode cX7_commit 97 = .ok (.aload_n 0, 1) := sorry
theorem dX7_commit_98 : decode cX7_commit 98 = .ok (.iconst 0, 1) := sorry
theorem dX7_commit_99 : decode cX7_commit 99 = .ok (.bipush 9, 2) := sorry
theorem dX7_commit_101 : decode cX7_commit 101 = .ok (.invokevirtual 340, 3) := sorry
theorem dX7_commit_104 : decode cX7_commit 104 = .ok (.aload_n 0, 1) := sorry
def dtX7_commit_105_2 : List (Nat × Instr × Nat) := [(105, .bipush 10, 2), (107, .iconst 0, 1), (108, .invokevirtual 340, 3), (111, .aload_n 0, 1), (112, .dup, 1), (113, .getfield 260, 3), (116, .iconst 1, 1), (117, .iadd, 1), (118, .putfield 260, 3), (121, .aload_n 0, 1), (122, .invokevirtual 361, 3), (125, .ireturn, 1)]
theorem dtX7_commit_105_2_ok : dcAll cX7_commit dtX7_commit_105_2 = true := sorry
theorem dX7_commit_105 : decode cX7_commit 105 = .ok (.bipush 10, 2) := sorry
theorem dX7_commit_107 : decode cX7_commit 107 = .ok (.iconst 0, 1) := sorry
theorem dX7_commit_108 : decode cX7_commit 108 = .ok (.invokevirtual 340, 3) := sorry
theorem dX7_commit_111 : decode cX7_commit 111 = .ok (.aload_n 0, 1) := sorry
theorem dX7_commit_112 : decode cX7_commit 112 = .ok (.dup, 1) := sorry
theorem dX7_commit_113 : decode cX7_commit 113 = .ok (.getfield 260, 3) := sorry
theorem dX7_commit_116 : decode cX7_commit 116 = .ok (.iconst 1, 1) := sorry
theorem dX7_commit_117 : decode cX7_commit 117 = .ok (.iadd, 1) := sorry
theorem dX7_commit_118 : decode cX7_commit 118 = .ok (.putfield 260, 3) := sorry
theorem dX7_commit_121 : decode cX7_commit 121 = .ok (.aload_n 0, 1) := sorry
theorem dX7_commit_122 : decode cX7_commit 122 = .ok (.invokevirtual 361, 3) := sorry
theorem dX7_commit_125 : decode cX7_commit 125 = .ok (.ireturn, 1) := sorry
def dtX7_would_0_0 : List (Nat × Instr × Nat) := [(0, .aload_n 0, 1), (1, .iconst 0, 1), (2, .putfield 60, 3), (5, .aload_n 0, 1), (6, .iload_n 1, 1), (7, .invokevirtual 352, 3), (10, .ifCond .ne 5, 3), (13, .iconst (-1), 1), (14, .ireturn, 1), (15, .aload_n 0, 1), (16, .invokevirtual 358, 3), (19, .istore_n 2, 1), (20, .iload_n 2, 1), (21, .ifCond .ge 7, 3), (24, .iload_n 2, 1), (25, .goto 10, 3), (28, .aload_n 0, 1), (29, .bipush 10, 2), (31, .iload_n 1, 1), (32, .invokevirtual 295, 3), (35, .ireturn, 1)]
theorem dtX7_would_0_0_ok : dcAll cX7_would dtX7_would_0_0 = true := sorry
theorem dX7_would_0 : decode cX7_would 0 = .ok (.aload_n 0, 1) := sorry
theorem dX7_would_1 : decode cX7_would 1 = .ok (.iconst 0, 1) := sorry
theorem dX7_would_2 : decode cX7_would 2 = .ok (.putfield 60, 3) := sorry
theorem dX7_would_5 : decode cX7_would 5 = .ok (.aload_n 0, 1) := sorry
theorem dX7_would_6 : decode cX7_would 6 = .ok (.iload_n 1, 1) := sorry
theorem dX7_would_7 : decode cX7_would 7 = .ok (.invokevirtual 352, 3) := sorry
theorem dX7_would_10 : decode cX7_would 10 = .ok (.ifCond .ne 5, 3) := sorry
theorem dX7_would_13 : decode cX7_would 13 = .ok (.iconst (-1), 1) := sorry
theorem dX7_would_14 : decode cX7_would 14 = .ok (.ireturn, 1) := sorry
theorem dX7_would_15 : decode cX7_would 15 = .ok (.aload_n 0, 1) := sorry
theorem dX7_would_16 : decode cX7_would 16 = .ok (.invokevirtual 358, 3) := sorry
theorem dX7_would_19 : decode cX7_would 19 = .ok (.istore_n 2, 1) := sorry
theorem dX7_would_20 : decode cX7_would 20 = .ok (.iload_n 2, 1) := sorry
theorem dX7_would_21 : decode cX7_would 21 = .ok (.ifCond .ge 7, 3) := sorry
theorem dX7_would_24 : decode cX7_would 24 = .ok (.iload_n 2, 1) := sorry
theorem dX7_would_25 : decode cX7_would 25 = .ok (.goto 10, 3) := sorry
theorem dX7_would_28 : decode cX7_would 28 = .ok (.aload_n 0, 1) := sorry
theorem dX7_would_29 : decode cX7_would 29 = .ok (.bipush 10, 2) := sorry
theorem dX7_would_31 : decode cX7_would 31 = .ok (.iload_n 1, 1) := sorry
theorem dX7_would_32 : decode cX7_would 32 = .ok (.invokevirtual 295, 3) := sorry
theorem dX7_would_35 : decode cX7_would 35 = .ok (.ireturn, 1) := sorry
def dtX7_undo_0_0 : List (Nat × Instr × Nat) := [(0, .aload_n 0, 1), (1, .iconst 0, 1), (2, .putfield 60, 3), (5, .aload_n 0, 1), (6, .getfield 257, 3), (9, .ifCond .ne 5, 3), (12, .iconst (-1), 1), (13, .ireturn, 1), (14, .aload_n 0, 1), (15, .dup, 1), (16, .getfield 257, 3), (19, .iconst 1, 1), (20, .isub, 1), (21, .putfield 257, 3), (24, .aload_n 0, 1), (25, .iconst 0, 1), (26, .bipush 9, 2), (28, .invokevirtual 340, 3), (31, .aload_n 0, 1), (32, .iconst 1, 1), (33, .aload_n 0, 1), (34, .getfield 257, 3), (37, .iadd, 1), (38, .iconst 0, 1), (39, .invokevirtual 340, 3), (42, .aload_n 0, 1), (43, .getfield 257, 3), (46, .ireturn, 1)]
theorem dtX7_undo_0_0_ok : dcAll cX7_undo dtX7_undo_0_0 = true := sorry
theorem dX7_undo_0 : decode cX7_undo 0 = .ok (.aload_n 0, 1) := sorry
theorem dX7_undo_1 : decode cX7_undo 1 = .ok (.iconst 0, 1) := sorry
theorem dX7_undo_2 : decode cX7_undo 2 = .ok (.putfield 60, 3) := sorry
theorem dX7_undo_5 : decode cX7_undo 5 = .ok (.aload_n 0, 1) := sorry
theorem dX7_undo_6 : decode cX7_undo 6 = .ok (.getfield 257, 3) := sorry
theorem dX7_undo_9 : decode cX7_undo 9 = .ok (.ifCond .ne 5, 3) := sorry
theorem dX7_undo_12 : decode cX7_undo 12 = .ok (.iconst (-1), 1) := sorry
theorem dX7_undo_13 : decode cX7_undo 13 = .ok (.ireturn, 1) := sorry
theorem dX7_undo_14 : decode cX7_undo 14 = .ok (.aload_n 0, 1) := sorry
theorem dX7_undo_15 : decode cX7_undo 15 = .ok (.dup, 1) := sorry
theorem dX7_undo_16 : decode cX7_undo 16 = .ok (.getfield 257, 3) := sorry
theorem dX7_undo_19 : decode cX7_undo 19 = .ok (.iconst 1, 1) := sorry
theorem dX7_undo_20 : decode cX7_undo 20 = .ok (.isub, 1) := sorry
theorem dX7_undo_21 : decode cX7_undo 21 = .ok (.putfield 257, 3) := sorry
theorem dX7_undo_24 : decode cX7_undo 24 = .ok (.aload_n 0, 1) := sorry
theorem dX7_undo_25 : decode cX7_undo 25 = .ok (.iconst 0, 1) := sorry
theorem dX7_undo_26 : decode cX7_undo 26 = .ok (.bipush 9, 2) := sorry
theorem dX7_undo_28 : decode cX7_undo 28 = .ok (.invokevirtual 340, 3) := sorry
theorem dX7_undo_31 : decode cX7_undo 31 = .ok (.aload_n 0, 1) := sorry
theorem dX7_undo_32 : decode cX7_undo 32 = .ok (.iconst 1, 1) := sorry
theorem dX7_undo_33 : decode cX7_undo 33 = .ok (.aload_n 0, 1) := sorry
theorem dX7_undo_34 : decode cX7_undo 34 = .ok (.getfield 257, 3) := sorry
theorem dX7_undo_37 : decode cX7_undo 37 = .ok (.iadd, 1) := sorry
theorem dX7_undo_38 : decode cX7_undo 38 = .ok (.iconst 0, 1) := sorry
theorem dX7_undo_39 : decode cX7_undo 39 = .ok (.invokevirtual 340, 3) := sorry
theorem dX7_undo_42 : decode cX7_undo 42 = .ok (.aload_n 0, 1) := sorry
theorem dX7_undo_43 : decode cX7_undo 43 = .ok (.getfield 257, 3) := sorry
theorem dX7_undo_46 : decode cX7_undo 46 = .ok (.ireturn, 1) := sorry
def dtX7_size_0_0 : List (Nat × Instr × Nat) := [(0, .aload_n 0, 1), (1, .iconst 0, 1), (2, .putfield 60, 3), (5, .aload_n 0, 1), (6, .iload_n 1, 1), (7, .invokevirtual 352, 3), (10, .ifCond .eq 12, 3), (13, .aload_n 0, 1), (14, .iconst 0, 1), (15, .iload_n 1, 1), (16, .invokevirtual 295, 3), (19, .goto 4, 3), (22, .iconst (-1), 1), (23, .ireturn, 1)]
theorem dtX7_size_0_0_ok : dcAll cX7_size dtX7_size_0_0 = true := sorry
theorem dX7_size_0 : decode cX7_size 0 = .ok (.aload_n 0, 1) := sorry
theorem dX7_size_1 : decode cX7_size 1 = .ok (.iconst 0, 1) := sorry
theorem dX7_size_2 : decode cX7_size 2 = .ok (.putfield 60, 3) := sorry
theorem dX7_size_5 : decode cX7_size 5 = .ok (.aload_n 0, 1) := sorry
theorem dX7_size_6 : decode cX7_size 6 = .ok (.iload_n 1, 1) := sorry
theorem dX7_size_7 : decode cX7_size 7 = .ok (.invokevirtual 352, 3) := sorry
theorem dX7_size_10 : decode cX7_size 10 = .ok (.ifCond .eq 12, 3) := sorry
theorem dX7_size_13 : decode cX7_size 13 = .ok (.aload_n 0, 1) := sorry
theorem dX7_size_14 : decode cX7_size 14 = .ok (.iconst 0, 1) := sorry
theorem dX7_size_15 : decode cX7_size 15 = .ok (.iload_n 1, 1) := sorry
theorem dX7_size_16 : decode cX7_size 16 = .ok (.invokevirtual 295, 3) := sorry
theorem dX7_size_19 : decode cX7_size 19 = .ok (.goto 4, 3) := sorry
theorem dX7_size_22 : decode cX7_size 22 = .ok (.iconst (-1), 1) := sorry
theorem dX7_size_23 : decode cX7_size 23 = .ok (.ireturn, 1) := sorry
def dtX7_isTold_0_0 : List (Nat × Instr × Nat) := [(0, .aload_n 0, 1), (1, .iload_n 1, 1), (2, .invokevirtual 352, 3), (5, .ifCond .eq 27, 3), (8, .iload_n 2, 1), (9, .iconst 4, 1), (10, .if_icmp .eq 18, 3), (13, .iload_n 2, 1), (14, .iconst 0, 1), (15, .aload_n 0, 1), (16, .iload_n 1, 1), (17, .invokevirtual 301, 3), (20, .iconst 1, 1), (21, .isub, 1), (22, .invokestatic 67, 3), (25, .ifCond .eq 7, 3), (28, .iconst 1, 1), (29, .goto 4, 3), (32, .iconst 0, 1), (33, .ireturn, 1)]
theorem dtX7_isTold_0_0_ok : dcAll cX7_isTold dtX7_isTold_0_0 = true := sorry
theorem dX7_isTold_0 : decode cX7_isTold 0 = .ok (.aload_n 0, 1) := sorry
theorem dX7_isTold_1 : decode cX7_isTold 1 = .ok (.iload_n 1, 1) := sorry
theorem dX7_isTold_2 : decode cX7_isTold 2 = .ok (.invokevirtual 352, 3) := sorry
theorem dX7_isTold_5 : decode cX7_isTold 5 = .ok (.ifCond .eq 27, 3) := sorry
theorem dX7_isTold_8 : decode cX7_isTold 8 = .ok (.iload_n 2, 1) := sorry
theorem dX7_isTold_9 : decode cX7_isTold 9 = .ok (.iconst 4, 1) := sorry
theorem dX7_isTold_10 : decode cX7_isTold 10 = .ok (.if_icmp .eq 18, 3) := sorry
theorem dX7_isTold_13 : decode cX7_isTold 13 = .ok (.iload_n 2, 1) := sorry
theorem dX7_isTold_14 : decode cX7_isTold 14 = .ok (.iconst 0, 1) := sorry
theorem dX7_isTold_15 : decode cX7_isTold 15 = .ok (.aload_n 0, 1) := sorry
theorem dX7_isTold_16 : decode cX7_isTold 16 = .ok (.iload_n 1, 1) := sorry
theorem dX7_isTold_17 : decode cX7_isTold 17 = .ok (.invokevirtual 301, 3) := sorry
theorem dX7_isTold_20 : decode cX7_isTold 20 = .ok (.iconst 1, 1) := sorry
theorem dX7_isTold_21 : decode cX7_isTold 21 = .ok (.isub, 1) := sorry
theorem dX7_isTold_22 : decode cX7_isTold 22 = .ok (.invokestatic 67, 3) := sorry
theorem dX7_isTold_25 : decode cX7_isTold 25 = .ok (.ifCond .eq 7, 3) := sorry
theorem dX7_isTold_28 : decode cX7_isTold 28 = .ok (.iconst 1, 1) := sorry
theorem dX7_isTold_29 : decode cX7_isTold 29 = .ok (.goto 4, 3) := sorry
theorem dX7_isTold_32 : decode cX7_isTold 32 = .ok (.iconst 0, 1) := sorry
theorem dX7_isTold_33 : decode cX7_isTold 33 = .ok (.ireturn, 1) := sorry
def dtX7_at_0_0 : List (Nat × Instr × Nat) := [(0, .aload_n 0, 1), (1, .aload_n 0, 1), (2, .iload_n 1, 1), (3, .iload_n 3, 1), (4, .invokevirtual 364, 3), (7, .ifCond .eq 23, 3), (10, .iload_n 2, 1), (11, .iconst 0, 1), (12, .aload_n 0, 1), (13, .iconst 0, 1), (14, .iload_n 1, 1), (15, .invokevirtual 295, 3), (18, .iconst 1, 1), (19, .isub, 1), (20, .invokestatic 67, 3), (23, .ifCond .eq 7, 3), (26, .iconst 0, 1), (27, .goto 4, 3), (30, .iconst 1, 1), (31, .putfield 60, 3), (34, .aload_n 0, 1), (35, .getfield 60, 3), (38, .ifCond .ne 19, 3), (41, .aload_n 0, 1), (42, .getfield 24, 3), (45, .iconst 0, 1), (46, .iload_n 1, 1), (47, .iload_n 2, 1), (48, .invokestatic 279, 3), (51, .iload_n 3, 1), (52, .iadd, 1), (53, .iaload, 1)]
theorem dtX7_at_0_0_ok : dcAll cX7_at dtX7_at_0_0 = true := sorry
theorem dX7_at_0 : decode cX7_at 0 = .ok (.aload_n 0, 1) := sorry
theorem dX7_at_1 : decode cX7_at 1 = .ok (.aload_n 0, 1) := sorry
theorem dX7_at_2 : decode cX7_at 2 = .ok (.iload_n 1, 1) := sorry
theorem dX7_at_3 : decode cX7_at 3 = .ok (.iload_n 3, 1) := sorry
theorem dX7_at_4 : decode cX7_at 4 = .ok (.invokevirtual 364, 3) := sorry
theorem dX7_at_7 : decode cX7_at 7 = .ok (.ifCond .eq 23, 3) := sorry
theorem dX7_at_10 : decode cX7_at 10 = .ok (.iload_n 2, 1) := sorry
theorem dX7_at_11 : decode cX7_at 11 = .ok (.iconst 0, 1) := sorry
theorem dX7_at_12 : decode cX7_at 12 = .ok (.aload_n 0, 1) := sorry
theorem dX7_at_13 : decode cX7_at 13 = .ok (.iconst 0, 1) := sorry
theorem dX7_at_14 : decode cX7_at 14 = .ok (.iload_n 1, 1) := sorry
theorem dX7_at_15 : decode cX7_at 15 = .ok (.invokevirtual 295, 3) := sorry
theorem dX7_at_18 : decode cX7_at 18 = .ok (.iconst 1, 1) := sorry
theorem dX7_at_19 : decode cX7_at 19 = .ok (.isub, 1) := sorry
theorem dX7_at_20 : decode cX7_at 20 = .ok (.invokestatic 67, 3) := sorry
theorem dX7_at_23 : decode cX7_at 23 = .ok (.ifCond .eq 7, 3) := sorry
theorem dX7_at_26 : decode cX7_at 26 = .ok (.iconst 0, 1) := sorry
theorem dX7_at_27 : decode cX7_at 27 = .ok (.goto 4, 3) := sorry
theorem dX7_at_30 : decode cX7_at 30 = .ok (.iconst 1, 1) := sorry
theorem dX7_at_31 : decode cX7_at 31 = .ok (.putfield 60, 3) := sorry
theorem dX7_at_34 : decode cX7_at 34 = .ok (.aload_n 0, 1) := sorry
theorem dX7_at_35 : decode cX7_at 35 = .ok (.getfield 60, 3) := sorry
theorem dX7_at_38 : decode cX7_at 38 = .ok (.ifCond .ne 19, 3) := sorry
theorem dX7_at_41 : decode cX7_at 41 = .ok (.aload_n 0, 1) := sorry
theorem dX7_at_42 : decode cX7_at 42 = .ok (.getfield 24, 3) := sorry
theorem dX7_at_45 : decode cX7_at 45 = .ok (.iconst 0, 1) := sorry
theorem dX7_at_46 : decode cX7_at 46 = .ok (.iload_n 1, 1) := sorry
theorem dX7_at_47 : decode cX7_at 47 = .ok (.iload_n 2, 1) := sorry
theorem dX7_at_48 : decode cX7_at 48 = .ok (.invokestatic 279, 3) := sorry
theorem dX7_at_51 : decode cX7_at 51 = .ok (.iload_n 3, 1) := sorry
theorem dX7_at_52 : decode cX7_at 52 = .ok (.iadd, 1) := sorry
theorem dX7_at_53 : decode cX7_at 53 = .ok (.iaload, 1) := sorry
def dtX7_at_54_1 : List (Nat × Instr × Nat) := [(54, .goto 4, 3), (57, .iconst 0, 1), (58, .ireturn, 1)]
theorem dtX7_at_54_1_ok : dcAll cX7_at dtX7_at_54_1 = true := sorry
theorem dX7_at_54 : decode cX7_at 54 = .ok (.goto 4, 3) := sorry
theorem dX7_at_57 : decode cX7_at 57 = .ok (.iconst 0, 1) := sorry
theorem dX7_at_58 : decode cX7_at 58 = .ok (.ireturn, 1) := sorry
def dtX7_find_0_0 : List (Nat × Instr × Nat) := [(0, .aload_n 0, 1), (1, .iload_n 2, 1), (2, .invokevirtual 301, 3), (5, .istore 7, 2), (7, .aload_n 0, 1), (8, .getfield 45, 3)]
theorem dtX7_find_0_0_ok : dcAll cX7_find dtX7_find_0_0 = true := sorry
theorem dX7_find_0 : decode cX7_find 0 = .ok (.aload_n 0, 1) := sorry
theorem dX7_find_1 : decode cX7_find 1 = .ok (.iload_n 2, 1) := sorry
theorem dX7_find_2 : decode cX7_find 2 = .ok (.invokevirtual 301, 3) := sorry
theorem dX7_find_5 : decode cX7_find 5 = .ok (.istore 7, 2) := sorry
theorem dX7_find_7 : decode cX7_find 7 = .ok (.aload_n 0, 1) := sorry
theorem dX7_find_8 : decode cX7_find 8 = .ok (.getfield 45, 3) := sorry

end

section
def dtX7_find_11_0 : List (Nat × Instr × Nat) := [(11, .iconst 0, 1), (12, .iload_n 3, 1), (13, .iastore, 1), (14, .aload_n 0, 1), (15, .getfield 45, 3), (18, .iconst 1, 1), (19, .iload 7, 2), (21, .iconst 1, 1), (22, .if_icmp .le 8, 3), (25, .iload 4, 2), (27, .goto 4, 3), (30, .iconst 0, 1), (31, .iastore, 1), (32, .aload_n 0, 1), (33, .getfield 45, 3), (36, .iconst 2, 1), (37, .iload 7, 2), (39, .iconst 2, 1), (40, .if_icmp .le 8, 3), (43, .iload 5, 2), (45, .goto 4, 3), (48, .iconst 0, 1), (49, .iastore, 1), (50, .aload_n 0, 1), (51, .getfield 45, 3), (54, .iconst 3, 1), (55, .iload 7, 2), (57, .iconst 3, 1), (58, .if_icmp .le 8, 3), (61, .iload 6, 2), (63, .goto 4, 3), (66, .iconst 0, 1)]
theorem dtX7_find_11_0_ok : dcAll cX7_find dtX7_find_11_0 = true := sorry
theorem dX7_find_11 : decode cX7_find 11 = .ok (.iconst 0, 1) := sorry
theorem dX7_find_12 : decode cX7_find 12 = .ok (.iload_n 3, 1) := sorry
theorem dX7_find_13 : decode cX7_find 13 = .ok (.iastore, 1) := sorry
theorem dX7_find_14 : decode cX7_find 14 = .ok (.aload_n 0, 1) := sorry
theorem dX7_find_15 : decode cX7_find 15 = .ok (.getfield 45, 3) := sorry
theorem dX7_find_18 : decode cX7_find 18 = .ok (.iconst 1, 1) := sorry
theorem dX7_find_19 : decode cX7_find 19 = .ok (.iload 7, 2) := sorry
theorem dX7_find_21 : decode cX7_find 21 = .ok (.iconst 1, 1) := sorry
theorem dX7_find_22 : decode cX7_find 22 = .ok (.if_icmp .le 8, 3) := sorry
theorem dX7_find_25 : decode cX7_find 25 = .ok (.iload 4, 2) := sorry
theorem dX7_find_27 : decode cX7_find 27 = .ok (.goto 4, 3) := sorry
theorem dX7_find_30 : decode cX7_find 30 = .ok (.iconst 0, 1) := sorry
theorem dX7_find_31 : decode cX7_find 31 = .ok (.iastore, 1) := sorry
theorem dX7_find_32 : decode cX7_find 32 = .ok (.aload_n 0, 1) := sorry
theorem dX7_find_33 : decode cX7_find 33 = .ok (.getfield 45, 3) := sorry
theorem dX7_find_36 : decode cX7_find 36 = .ok (.iconst 2, 1) := sorry
theorem dX7_find_37 : decode cX7_find 37 = .ok (.iload 7, 2) := sorry
theorem dX7_find_39 : decode cX7_find 39 = .ok (.iconst 2, 1) := sorry
theorem dX7_find_40 : decode cX7_find 40 = .ok (.if_icmp .le 8, 3) := sorry
theorem dX7_find_43 : decode cX7_find 43 = .ok (.iload 5, 2) := sorry
theorem dX7_find_45 : decode cX7_find 45 = .ok (.goto 4, 3) := sorry
theorem dX7_find_48 : decode cX7_find 48 = .ok (.iconst 0, 1) := sorry
theorem dX7_find_49 : decode cX7_find 49 = .ok (.iastore, 1) := sorry
theorem dX7_find_50 : decode cX7_find 50 = .ok (.aload_n 0, 1) := sorry
theorem dX7_find_51 : decode cX7_find 51 = .ok (.getfield 45, 3) := sorry
theorem dX7_find_54 : decode cX7_find 54 = .ok (.iconst 3, 1) := sorry
theorem dX7_find_55 : decode cX7_find 55 = .ok (.iload 7, 2) := sorry
theorem dX7_find_57 : decode cX7_find 57 = .ok (.iconst 3, 1) := sorry
theorem dX7_find_58 : decode cX7_find 58 = .ok (.if_icmp .le 8, 3) := sorry
theorem dX7_find_61 : decode cX7_find 61 = .ok (.iload 6, 2) := sorry
theorem dX7_find_63 : decode cX7_find 63 = .ok (.goto 4, 3) := sorry
theorem dX7_find_66 : decode cX7_find 66 = .ok (.iconst 0, 1) := sorry
def dtX7_find_67_1 : List (Nat × Instr × Nat) := [(67, .iastore, 1), (68, .iconst 0, 1), (69, .istore 8, 2), (71, .iload 8, 2), (73, .aload_n 0, 1), (74, .iload_n 1, 1), (75, .iload_n 2, 1), (76, .invokevirtual 295, 3), (79, .if_icmp .ge 34, 3), (82, .aload_n 0, 1), (83, .getfield 24, 3), (86, .iload_n 1, 1), (87, .iload_n 2, 1), (88, .iload 8, 2), (90, .invokestatic 279, 3), (93, .aload_n 0, 1), (94, .getfield 45, 3), (97, .iconst 0, 1), (98, .invokestatic 272, 3), (101, .ifCond .ne 6, 3), (104, .iload 8, 2), (106, .ireturn, 1), (107, .iinc 8 1, 3), (110, .goto (-39), 3), (113, .iconst (-1), 1), (114, .ireturn, 1)]
theorem dtX7_find_67_1_ok : dcAll cX7_find dtX7_find_67_1 = true := sorry
theorem dX7_find_67 : decode cX7_find 67 = .ok (.iastore, 1) := sorry
theorem dX7_find_68 : decode cX7_find 68 = .ok (.iconst 0, 1) := sorry
theorem dX7_find_69 : decode cX7_find 69 = .ok (.istore 8, 2) := sorry
theorem dX7_find_71 : decode cX7_find 71 = .ok (.iload 8, 2) := sorry
theorem dX7_find_73 : decode cX7_find 73 = .ok (.aload_n 0, 1) := sorry
theorem dX7_find_74 : decode cX7_find 74 = .ok (.iload_n 1, 1) := sorry
theorem dX7_find_75 : decode cX7_find 75 = .ok (.iload_n 2, 1) := sorry
theorem dX7_find_76 : decode cX7_find 76 = .ok (.invokevirtual 295, 3) := sorry
theorem dX7_find_79 : decode cX7_find 79 = .ok (.if_icmp .ge 34, 3) := sorry
theorem dX7_find_82 : decode cX7_find 82 = .ok (.aload_n 0, 1) := sorry
theorem dX7_find_83 : decode cX7_find 83 = .ok (.getfield 24, 3) := sorry
theorem dX7_find_86 : decode cX7_find 86 = .ok (.iload_n 1, 1) := sorry
theorem dX7_find_87 : decode cX7_find 87 = .ok (.iload_n 2, 1) := sorry
theorem dX7_find_88 : decode cX7_find 88 = .ok (.iload 8, 2) := sorry
theorem dX7_find_90 : decode cX7_find 90 = .ok (.invokestatic 279, 3) := sorry
theorem dX7_find_93 : decode cX7_find 93 = .ok (.aload_n 0, 1) := sorry
theorem dX7_find_94 : decode cX7_find 94 = .ok (.getfield 45, 3) := sorry
theorem dX7_find_97 : decode cX7_find 97 = .ok (.iconst 0, 1) := sorry
theorem dX7_find_98 : decode cX7_find 98 = .ok (.invokestatic 272, 3) := sorry
theorem dX7_find_101 : decode cX7_find 101 = .ok (.ifCond .ne 6, 3) := sorry
theorem dX7_find_104 : decode cX7_find 104 = .ok (.iload 8, 2) := sorry
theorem dX7_find_106 : decode cX7_find 106 = .ok (.ireturn, 1) := sorry
theorem dX7_find_107 : decode cX7_find 107 = .ok (.iinc 8 1, 3) := sorry
theorem dX7_find_110 : decode cX7_find 110 = .ok (.goto (-39), 3) := sorry
theorem dX7_find_113 : decode cX7_find 113 = .ok (.iconst (-1), 1) := sorry
theorem dX7_find_114 : decode cX7_find 114 = .ok (.ireturn, 1) := sorry
def dtX7_count_0_0 : List (Nat × Instr × Nat) := [(0, .aload_n 0, 1), (1, .aload_n 0, 1), (2, .iload_n 1, 1), (3, .invokevirtual 352, 3), (6, .ifCond .eq 7, 3), (9, .iconst 0, 1), (10, .goto 4, 3), (13, .iconst 1, 1), (14, .putfield 60, 3), (17, .aload_n 0, 1), (18, .getfield 60, 3), (21, .iconst 1, 1), (22, .if_icmp .ne 5, 3), (25, .iconst 0, 1), (26, .ireturn, 1), (27, .aload_n 0, 1), (28, .iconst 0, 1), (29, .iload_n 1, 1), (30, .iload_n 2, 1), (31, .iload_n 3, 1), (32, .iload 4, 2), (34, .iload 5, 2), (36, .invokevirtual 367, 3), (39, .istore 6, 2), (41, .iload 6, 2), (43, .ifCond .ge 7, 3), (46, .iconst 0, 1), (47, .goto 17, 3), (50, .aload_n 0, 1), (51, .getfield 24, 3), (54, .iconst 0, 1), (55, .iload_n 1, 1)]
theorem dtX7_count_0_0_ok : dcAll cX7_count dtX7_count_0_0 = true := sorry
theorem dX7_count_0 : decode cX7_count 0 = .ok (.aload_n 0, 1) := sorry
theorem dX7_count_1 : decode cX7_count 1 = .ok (.aload_n 0, 1) := sorry
theorem dX7_count_2 : decode cX7_count 2 = .ok (.iload_n 1, 1) := sorry
theorem dX7_count_3 : decode cX7_count 3 = .ok (.invokevirtual 352, 3) := sorry
theorem dX7_count_6 : decode cX7_count 6 = .ok (.ifCond .eq 7, 3) := sorry
theorem dX7_count_9 : decode cX7_count 9 = .ok (.iconst 0, 1) := sorry
theorem dX7_count_10 : decode cX7_count 10 = .ok (.goto 4, 3) := sorry
theorem dX7_count_13 : decode cX7_count 13 = .ok (.iconst 1, 1) := sorry
theorem dX7_count_14 : decode cX7_count 14 = .ok (.putfield 60, 3) := sorry
theorem dX7_count_17 : decode cX7_count 17 = .ok (.aload_n 0, 1) := sorry
theorem dX7_count_18 : decode cX7_count 18 = .ok (.getfield 60, 3) := sorry
theorem dX7_count_21 : decode cX7_count 21 = .ok (.iconst 1, 1) := sorry
theorem dX7_count_22 : decode cX7_count 22 = .ok (.if_icmp .ne 5, 3) := sorry
theorem dX7_count_25 : decode cX7_count 25 = .ok (.iconst 0, 1) := sorry
theorem dX7_count_26 : decode cX7_count 26 = .ok (.ireturn, 1) := sorry
theorem dX7_count_27 : decode cX7_count 27 = .ok (.aload_n 0, 1) := sorry
theorem dX7_count_28 : decode cX7_count 28 = .ok (.iconst 0, 1) := sorry
theorem dX7_count_29 : decode cX7_count 29 = .ok (.iload_n 1, 1) := sorry
theorem dX7_count_30 : decode cX7_count 30 = .ok (.iload_n 2, 1) := sorry
theorem dX7_count_31 : decode cX7_count 31 = .ok (.iload_n 3, 1) := sorry
theorem dX7_count_32 : decode cX7_count 32 = .ok (.iload 4, 2) := sorry
theorem dX7_count_34 : decode cX7_count 34 = .ok (.iload 5, 2) := sorry
theorem dX7_count_36 : decode cX7_count 36 = .ok (.invokevirtual 367, 3) := sorry
theorem dX7_count_39 : decode cX7_count 39 = .ok (.istore 6, 2) := sorry
theorem dX7_count_41 : decode cX7_count 41 = .ok (.iload 6, 2) := sorry
theorem dX7_count_43 : decode cX7_count 43 = .ok (.ifCond .ge 7, 3) := sorry
theorem dX7_count_46 : decode cX7_count 46 = .ok (.iconst 0, 1) := sorry
theorem dX7_count_47 : decode cX7_count 47 = .ok (.goto 17, 3) := sorry
theorem dX7_count_50 : decode cX7_count 50 = .ok (.aload_n 0, 1) := sorry
theorem dX7_count_51 : decode cX7_count 51 = .ok (.getfield 24, 3) := sorry
theorem dX7_count_54 : decode cX7_count 54 = .ok (.iconst 0, 1) := sorry
theorem dX7_count_55 : decode cX7_count 55 = .ok (.iload_n 1, 1) := sorry
def dtX7_count_56_1 : List (Nat × Instr × Nat) := [(56, .iload 6, 2), (58, .invokestatic 279, 3), (61, .iconst 4, 1), (62, .iadd, 1), (63, .iaload, 1), (64, .ireturn, 1)]
theorem dtX7_count_56_1_ok : dcAll cX7_count dtX7_count_56_1 = true := sorry
theorem dX7_count_56 : decode cX7_count 56 = .ok (.iload 6, 2) := sorry
theorem dX7_count_58 : decode cX7_count 58 = .ok (.invokestatic 279, 3) := sorry
theorem dX7_count_61 : decode cX7_count 61 = .ok (.iconst 4, 1) := sorry
theorem dX7_count_62 : decode cX7_count 62 = .ok (.iadd, 1) := sorry
theorem dX7_count_63 : decode cX7_count 63 = .ok (.iaload, 1) := sorry
theorem dX7_count_64 : decode cX7_count 64 = .ok (.ireturn, 1) := sorry
def dtX7_total_0_0 : List (Nat × Instr × Nat) := [(0, .aload_n 0, 1), (1, .aload_n 0, 1), (2, .iload_n 1, 1), (3, .invokevirtual 352, 3), (6, .ifCond .eq 7, 3), (9, .iconst 0, 1), (10, .goto 4, 3), (13, .iconst 1, 1), (14, .putfield 60, 3), (17, .iconst 0, 1), (18, .istore_n 2, 1), (19, .iconst 0, 1), (20, .istore_n 3, 1), (21, .aload_n 0, 1), (22, .getfield 60, 3), (25, .ifCond .ne 35, 3), (28, .iload_n 3, 1), (29, .aload_n 0, 1), (30, .iconst 0, 1), (31, .iload_n 1, 1), (32, .invokevirtual 295, 3), (35, .if_icmp .ge 25, 3), (38, .iload_n 2, 1), (39, .aload_n 0, 1), (40, .getfield 24, 3), (43, .iconst 0, 1), (44, .iload_n 1, 1), (45, .iload_n 3, 1), (46, .invokestatic 279, 3), (49, .iconst 4, 1), (50, .iadd, 1), (51, .iaload, 1)]
theorem dtX7_total_0_0_ok : dcAll cX7_total dtX7_total_0_0 = true := sorry
theorem dX7_total_0 : decode cX7_total 0 = .ok (.aload_n 0, 1) := sorry
theorem dX7_total_1 : decode cX7_total 1 = .ok (.aload_n 0, 1) := sorry
theorem dX7_total_2 : decode cX7_total 2 = .ok (.iload_n 1, 1) := sorry
theorem dX7_total_3 : decode cX7_total 3 = .ok (.invokevirtual 352, 3) := sorry
theorem dX7_total_6 : decode cX7_total 6 = .ok (.ifCond .eq 7, 3) := sorry
theorem dX7_total_9 : decode cX7_total 9 = .ok (.iconst 0, 1) := sorry
theorem dX7_total_10 : decode cX7_total 10 = .ok (.goto 4, 3) := sorry
theorem dX7_total_13 : decode cX7_total 13 = .ok (.iconst 1, 1) := sorry
theorem dX7_total_14 : decode cX7_total 14 = .ok (.putfield 60, 3) := sorry
theorem dX7_total_17 : decode cX7_total 17 = .ok (.iconst 0, 1) := sorry
theorem dX7_total_18 : decode cX7_total 18 = .ok (.istore_n 2, 1) := sorry
theorem dX7_total_19 : decode cX7_total 19 = .ok (.iconst 0, 1) := sorry
theorem dX7_total_20 : decode cX7_total 20 = .ok (.istore_n 3, 1) := sorry
theorem dX7_total_21 : decode cX7_total 21 = .ok (.aload_n 0, 1) := sorry
theorem dX7_total_22 : decode cX7_total 22 = .ok (.getfield 60, 3) := sorry
theorem dX7_total_25 : decode cX7_total 25 = .ok (.ifCond .ne 35, 3) := sorry
theorem dX7_total_28 : decode cX7_total 28 = .ok (.iload_n 3, 1) := sorry
theorem dX7_total_29 : decode cX7_total 29 = .ok (.aload_n 0, 1) := sorry
theorem dX7_total_30 : decode cX7_total 30 = .ok (.iconst 0, 1) := sorry
theorem dX7_total_31 : decode cX7_total 31 = .ok (.iload_n 1, 1) := sorry
theorem dX7_total_32 : decode cX7_total 32 = .ok (.invokevirtual 295, 3) := sorry
theorem dX7_total_35 : decode cX7_total 35 = .ok (.if_icmp .ge 25, 3) := sorry
theorem dX7_total_38 : decode cX7_total 38 = .ok (.iload_n 2, 1) := sorry
theorem dX7_total_39 : decode cX7_total 39 = .ok (.aload_n 0, 1) := sorry
theorem dX7_total_40 : decode cX7_total 40 = .ok (.getfield 24, 3) := sorry
theorem dX7_total_43 : decode cX7_total 43 = .ok (.iconst 0, 1) := sorry
theorem dX7_total_44 : decode cX7_total 44 = .ok (.iload_n 1, 1) := sorry
theorem dX7_total_45 : decode cX7_total 45 = .ok (.iload_n 3, 1) := sorry
theorem dX7_total_46 : decode cX7_total 46 = .ok (.invokestatic 279, 3) := sorry
theorem dX7_total_49 : decode cX7_total 49 = .ok (.iconst 4, 1) := sorry
theorem dX7_total_50 : decode cX7_total 50 = .ok (.iadd, 1) := sorry
theorem dX7_total_51 : decode cX7_total 51 = .ok (.iaload, 1) := sorry
def dtX7_total_52_1 : List (Nat × Instr × Nat) := [(52, .iadd, 1), (53, .istore_n 2, 1), (54, .iinc 3 1, 3), (57, .goto (-36), 3), (60, .iload_n 2, 1), (61, .ireturn, 1)]
theorem dtX7_total_52_1_ok : dcAll cX7_total dtX7_total_52_1 = true := sorry
theorem dX7_total_52 : decode cX7_total 52 = .ok (.iadd, 1) := sorry
theorem dX7_total_53 : decode cX7_total 53 = .ok (.istore_n 2, 1) := sorry
theorem dX7_total_54 : decode cX7_total 54 = .ok (.iinc 3 1, 3) := sorry
theorem dX7_total_57 : decode cX7_total 57 = .ok (.goto (-36), 3) := sorry
theorem dX7_total_60 : decode cX7_total 60 = .ok (.iload_n 2, 1) := sorry
theorem dX7_total_61 : decode cX7_total 61 = .ok (.ireturn, 1) := sorry
def dtX7_laysMoved_0_0 : List (Nat × Instr × Nat) := [(0, .iconst 0, 1), (1, .istore_n 2, 1), (2, .iconst 0, 1), (3, .istore_n 3, 1), (4, .iconst 0, 1), (5, .istore 4, 2), (7, .iload_n 3, 1), (8, .aload_n 0, 1), (9, .bipush 9, 2), (11, .iload_n 1, 1), (12, .invokevirtual 295, 3), (15, .if_icmp .lt 14, 3), (18, .iload 4, 2), (20, .aload_n 0, 1), (21, .iconst 0, 1), (22, .iload_n 1, 1), (23, .invokevirtual 295, 3), (26, .if_icmp .ge 196, 3), (29, .bipush 9, 2), (31, .iload_n 1, 1), (32, .iload_n 3, 1), (33, .invokestatic 279, 3), (36, .istore 5, 2), (38, .iconst 0, 1), (39, .iload_n 1, 1), (40, .iload 4, 2), (42, .invokestatic 279, 3), (45, .istore 6, 2), (47, .iload_n 3, 1), (48, .aload_n 0, 1), (49, .bipush 9, 2), (51, .iload_n 1, 1)]
theorem dtX7_laysMoved_0_0_ok : dcAll cX7_laysMoved dtX7_laysMoved_0_0 = true := sorry
theorem dX7_laysMoved_0 : decode cX7_laysMoved 0 = .ok (.iconst 0, 1) := sorry
theorem dX7_laysMoved_1 : decode cX7_laysMoved 1 = .ok (.istore_n 2, 1) := sorry
theorem dX7_laysMoved_2 : decode cX7_laysMoved 2 = .ok (.iconst 0, 1) := sorry
theorem dX7_laysMoved_3 : decode cX7_laysMoved 3 = .ok (.istore_n 3, 1) := sorry
theorem dX7_laysMoved_4 : decode cX7_laysMoved 4 = .ok (.iconst 0, 1) := sorry
theorem dX7_laysMoved_5 : decode cX7_laysMoved 5 = .ok (.istore 4, 2) := sorry
theorem dX7_laysMoved_7 : decode cX7_laysMoved 7 = .ok (.iload_n 3, 1) := sorry
theorem dX7_laysMoved_8 : decode cX7_laysMoved 8 = .ok (.aload_n 0, 1) := sorry
theorem dX7_laysMoved_9 : decode cX7_laysMoved 9 = .ok (.bipush 9, 2) := sorry
theorem dX7_laysMoved_11 : decode cX7_laysMoved 11 = .ok (.iload_n 1, 1) := sorry
theorem dX7_laysMoved_12 : decode cX7_laysMoved 12 = .ok (.invokevirtual 295, 3) := sorry
theorem dX7_laysMoved_15 : decode cX7_laysMoved 15 = .ok (.if_icmp .lt 14, 3) := sorry
theorem dX7_laysMoved_18 : decode cX7_laysMoved 18 = .ok (.iload 4, 2) := sorry
theorem dX7_laysMoved_20 : decode cX7_laysMoved 20 = .ok (.aload_n 0, 1) := sorry
theorem dX7_laysMoved_21 : decode cX7_laysMoved 21 = .ok (.iconst 0, 1) := sorry
theorem dX7_laysMoved_22 : decode cX7_laysMoved 22 = .ok (.iload_n 1, 1) := sorry
theorem dX7_laysMoved_23 : decode cX7_laysMoved 23 = .ok (.invokevirtual 295, 3) := sorry
theorem dX7_laysMoved_26 : decode cX7_laysMoved 26 = .ok (.if_icmp .ge 196, 3) := sorry
theorem dX7_laysMoved_29 : decode cX7_laysMoved 29 = .ok (.bipush 9, 2) := sorry
theorem dX7_laysMoved_31 : decode cX7_laysMoved 31 = .ok (.iload_n 1, 1) := sorry
theorem dX7_laysMoved_32 : decode cX7_laysMoved 32 = .ok (.iload_n 3, 1) := sorry
theorem dX7_laysMoved_33 : decode cX7_laysMoved 33 = .ok (.invokestatic 279, 3) := sorry
theorem dX7_laysMoved_36 : decode cX7_laysMoved 36 = .ok (.istore 5, 2) := sorry
theorem dX7_laysMoved_38 : decode cX7_laysMoved 38 = .ok (.iconst 0, 1) := sorry
theorem dX7_laysMoved_39 : decode cX7_laysMoved 39 = .ok (.iload_n 1, 1) := sorry
theorem dX7_laysMoved_40 : decode cX7_laysMoved 40 = .ok (.iload 4, 2) := sorry
theorem dX7_laysMoved_42 : decode cX7_laysMoved 42 = .ok (.invokestatic 279, 3) := sorry
theorem dX7_laysMoved_45 : decode cX7_laysMoved 45 = .ok (.istore 6, 2) := sorry
theorem dX7_laysMoved_47 : decode cX7_laysMoved 47 = .ok (.iload_n 3, 1) := sorry
theorem dX7_laysMoved_48 : decode cX7_laysMoved 48 = .ok (.aload_n 0, 1) := sorry
theorem dX7_laysMoved_49 : decode cX7_laysMoved 49 = .ok (.bipush 9, 2) := sorry
theorem dX7_laysMoved_51 : decode cX7_laysMoved 51 = .ok (.iload_n 1, 1) := sorry
def dtX7_laysMoved_52_1 : List (Nat × Instr × Nat) := [(52, .invokevirtual 295, 3), (55, .if_icmp .ne 7, 3), (58, .iconst 1, 1), (59, .goto 33, 3), (62, .iload 4, 2), (64, .aload_n 0, 1), (65, .iconst 0, 1), (66, .iload_n 1, 1), (67, .invokevirtual 295, 3), (70, .if_icmp .ne 7, 3), (73, .iconst (-1), 1), (74, .goto 18, 3), (77, .aload_n 0, 1), (78, .getfield 24, 3), (81, .iload 5, 2), (83, .aload_n 0, 1), (84, .getfield 24, 3), (87, .iload 6, 2), (89, .invokestatic 272, 3), (92, .istore 7, 2), (94, .iload 7, 2), (96, .ifCond .lt 15, 3), (99, .aload_n 0, 1), (100, .getfield 24, 3), (103, .iload 6, 2), (105, .iconst 4, 1), (106, .iadd, 1), (107, .iaload, 1), (108, .goto 4, 3), (111, .iconst 0, 1), (112, .iload 7, 2), (114, .ifCond .gt 15, 3)]
theorem dtX7_laysMoved_52_1_ok : dcAll cX7_laysMoved dtX7_laysMoved_52_1 = true := sorry
theorem dX7_laysMoved_52 : decode cX7_laysMoved 52 = .ok (.invokevirtual 295, 3) := sorry
theorem dX7_laysMoved_55 : decode cX7_laysMoved 55 = .ok (.if_icmp .ne 7, 3) := sorry
theorem dX7_laysMoved_58 : decode cX7_laysMoved 58 = .ok (.iconst 1, 1) := sorry
theorem dX7_laysMoved_59 : decode cX7_laysMoved 59 = .ok (.goto 33, 3) := sorry
theorem dX7_laysMoved_62 : decode cX7_laysMoved 62 = .ok (.iload 4, 2) := sorry
theorem dX7_laysMoved_64 : decode cX7_laysMoved 64 = .ok (.aload_n 0, 1) := sorry
theorem dX7_laysMoved_65 : decode cX7_laysMoved 65 = .ok (.iconst 0, 1) := sorry
theorem dX7_laysMoved_66 : decode cX7_laysMoved 66 = .ok (.iload_n 1, 1) := sorry
theorem dX7_laysMoved_67 : decode cX7_laysMoved 67 = .ok (.invokevirtual 295, 3) := sorry
theorem dX7_laysMoved_70 : decode cX7_laysMoved 70 = .ok (.if_icmp .ne 7, 3) := sorry
theorem dX7_laysMoved_73 : decode cX7_laysMoved 73 = .ok (.iconst (-1), 1) := sorry
theorem dX7_laysMoved_74 : decode cX7_laysMoved 74 = .ok (.goto 18, 3) := sorry
theorem dX7_laysMoved_77 : decode cX7_laysMoved 77 = .ok (.aload_n 0, 1) := sorry
theorem dX7_laysMoved_78 : decode cX7_laysMoved 78 = .ok (.getfield 24, 3) := sorry
theorem dX7_laysMoved_81 : decode cX7_laysMoved 81 = .ok (.iload 5, 2) := sorry
theorem dX7_laysMoved_83 : decode cX7_laysMoved 83 = .ok (.aload_n 0, 1) := sorry
theorem dX7_laysMoved_84 : decode cX7_laysMoved 84 = .ok (.getfield 24, 3) := sorry
theorem dX7_laysMoved_87 : decode cX7_laysMoved 87 = .ok (.iload 6, 2) := sorry
theorem dX7_laysMoved_89 : decode cX7_laysMoved 89 = .ok (.invokestatic 272, 3) := sorry
theorem dX7_laysMoved_92 : decode cX7_laysMoved 92 = .ok (.istore 7, 2) := sorry
theorem dX7_laysMoved_94 : decode cX7_laysMoved 94 = .ok (.iload 7, 2) := sorry
theorem dX7_laysMoved_96 : decode cX7_laysMoved 96 = .ok (.ifCond .lt 15, 3) := sorry
theorem dX7_laysMoved_99 : decode cX7_laysMoved 99 = .ok (.aload_n 0, 1) := sorry
theorem dX7_laysMoved_100 : decode cX7_laysMoved 100 = .ok (.getfield 24, 3) := sorry
theorem dX7_laysMoved_103 : decode cX7_laysMoved 103 = .ok (.iload 6, 2) := sorry
theorem dX7_laysMoved_105 : decode cX7_laysMoved 105 = .ok (.iconst 4, 1) := sorry
theorem dX7_laysMoved_106 : decode cX7_laysMoved 106 = .ok (.iadd, 1) := sorry
theorem dX7_laysMoved_107 : decode cX7_laysMoved 107 = .ok (.iaload, 1) := sorry
theorem dX7_laysMoved_108 : decode cX7_laysMoved 108 = .ok (.goto 4, 3) := sorry
theorem dX7_laysMoved_111 : decode cX7_laysMoved 111 = .ok (.iconst 0, 1) := sorry
theorem dX7_laysMoved_112 : decode cX7_laysMoved 112 = .ok (.iload 7, 2) := sorry
theorem dX7_laysMoved_114 : decode cX7_laysMoved 114 = .ok (.ifCond .gt 15, 3) := sorry
def dtX7_laysMoved_117_2 : List (Nat × Instr × Nat) := [(117, .aload_n 0, 1), (118, .getfield 24, 3), (121, .iload 5, 2), (123, .iconst 4, 1), (124, .iadd, 1), (125, .iaload, 1), (126, .goto 4, 3), (129, .iconst 0, 1), (130, .isub, 1), (131, .istore 8, 2), (133, .iload 7, 2), (135, .ifCond .gt 8, 3), (138, .iload 5, 2), (140, .goto 5, 3), (143, .iload 6, 2), (145, .istore 9, 2), (147, .iload 8, 2), (149, .ifCond .eq 54, 3), (152, .iconst 0, 1), (153, .istore 10, 2), (155, .iload 10, 2), (157, .iconst 4, 1), (158, .if_icmp .ge 30, 3), (161, .aload_n 0, 1), (162, .getfield 57, 3), (165, .iconst 5, 1), (166, .iload_n 2, 1), (167, .imul, 1), (168, .iload 10, 2), (170, .iadd, 1), (171, .aload_n 0, 1), (172, .getfield 24, 3)]
theorem dtX7_laysMoved_117_2_ok : dcAll cX7_laysMoved dtX7_laysMoved_117_2 = true := sorry
theorem dX7_laysMoved_117 : decode cX7_laysMoved 117 = .ok (.aload_n 0, 1) := sorry
theorem dX7_laysMoved_118 : decode cX7_laysMoved 118 = .ok (.getfield 24, 3) := sorry
theorem dX7_laysMoved_121 : decode cX7_laysMoved 121 = .ok (.iload 5, 2) := sorry
theorem dX7_laysMoved_123 : decode cX7_laysMoved 123 = .ok (.iconst 4, 1) := sorry
theorem dX7_laysMoved_124 : decode cX7_laysMoved 124 = .ok (.iadd, 1) := sorry
theorem dX7_laysMoved_125 : decode cX7_laysMoved 125 = .ok (.iaload, 1) := sorry
theorem dX7_laysMoved_126 : decode cX7_laysMoved 126 = .ok (.goto 4, 3) := sorry
theorem dX7_laysMoved_129 : decode cX7_laysMoved 129 = .ok (.iconst 0, 1) := sorry
theorem dX7_laysMoved_130 : decode cX7_laysMoved 130 = .ok (.isub, 1) := sorry
theorem dX7_laysMoved_131 : decode cX7_laysMoved 131 = .ok (.istore 8, 2) := sorry
theorem dX7_laysMoved_133 : decode cX7_laysMoved 133 = .ok (.iload 7, 2) := sorry
theorem dX7_laysMoved_135 : decode cX7_laysMoved 135 = .ok (.ifCond .gt 8, 3) := sorry
theorem dX7_laysMoved_138 : decode cX7_laysMoved 138 = .ok (.iload 5, 2) := sorry
theorem dX7_laysMoved_140 : decode cX7_laysMoved 140 = .ok (.goto 5, 3) := sorry
theorem dX7_laysMoved_143 : decode cX7_laysMoved 143 = .ok (.iload 6, 2) := sorry
theorem dX7_laysMoved_145 : decode cX7_laysMoved 145 = .ok (.istore 9, 2) := sorry
theorem dX7_laysMoved_147 : decode cX7_laysMoved 147 = .ok (.iload 8, 2) := sorry
theorem dX7_laysMoved_149 : decode cX7_laysMoved 149 = .ok (.ifCond .eq 54, 3) := sorry
theorem dX7_laysMoved_152 : decode cX7_laysMoved 152 = .ok (.iconst 0, 1) := sorry
theorem dX7_laysMoved_153 : decode cX7_laysMoved 153 = .ok (.istore 10, 2) := sorry
theorem dX7_laysMoved_155 : decode cX7_laysMoved 155 = .ok (.iload 10, 2) := sorry
theorem dX7_laysMoved_157 : decode cX7_laysMoved 157 = .ok (.iconst 4, 1) := sorry
theorem dX7_laysMoved_158 : decode cX7_laysMoved 158 = .ok (.if_icmp .ge 30, 3) := sorry
theorem dX7_laysMoved_161 : decode cX7_laysMoved 161 = .ok (.aload_n 0, 1) := sorry
theorem dX7_laysMoved_162 : decode cX7_laysMoved 162 = .ok (.getfield 57, 3) := sorry
theorem dX7_laysMoved_165 : decode cX7_laysMoved 165 = .ok (.iconst 5, 1) := sorry
theorem dX7_laysMoved_166 : decode cX7_laysMoved 166 = .ok (.iload_n 2, 1) := sorry
theorem dX7_laysMoved_167 : decode cX7_laysMoved 167 = .ok (.imul, 1) := sorry
theorem dX7_laysMoved_168 : decode cX7_laysMoved 168 = .ok (.iload 10, 2) := sorry
theorem dX7_laysMoved_170 : decode cX7_laysMoved 170 = .ok (.iadd, 1) := sorry
theorem dX7_laysMoved_171 : decode cX7_laysMoved 171 = .ok (.aload_n 0, 1) := sorry
theorem dX7_laysMoved_172 : decode cX7_laysMoved 172 = .ok (.getfield 24, 3) := sorry
def dtX7_laysMoved_175_3 : List (Nat × Instr × Nat) := [(175, .iload 9, 2), (177, .iload 10, 2), (179, .iadd, 1), (180, .iaload, 1), (181, .iastore, 1), (182, .iinc 10 1, 3), (185, .goto (-30), 3), (188, .aload_n 0, 1), (189, .getfield 57, 3), (192, .iconst 5, 1), (193, .iload_n 2, 1), (194, .imul, 1), (195, .iconst 4, 1), (196, .iadd, 1), (197, .iload 8, 2), (199, .iastore, 1), (200, .iinc 2 1, 3), (203, .iload 7, 2), (205, .ifCond .gt 6, 3), (208, .iinc 3 1, 3), (211, .iload 7, 2), (213, .ifCond .lt 6, 3), (216, .iinc 4 1, 3), (219, .goto (-212), 3), (222, .iload_n 2, 1), (223, .ireturn, 1)]
theorem dtX7_laysMoved_175_3_ok : dcAll cX7_laysMoved dtX7_laysMoved_175_3 = true := sorry
theorem dX7_laysMoved_175 : decode cX7_laysMoved 175 = .ok (.iload 9, 2) := sorry
theorem dX7_laysMoved_177 : decode cX7_laysMoved 177 = .ok (.iload 10, 2) := sorry
theorem dX7_laysMoved_179 : decode cX7_laysMoved 179 = .ok (.iadd, 1) := sorry
theorem dX7_laysMoved_180 : decode cX7_laysMoved 180 = .ok (.iaload, 1) := sorry
theorem dX7_laysMoved_181 : decode cX7_laysMoved 181 = .ok (.iastore, 1) := sorry
theorem dX7_laysMoved_182 : decode cX7_laysMoved 182 = .ok (.iinc 10 1, 3) := sorry
theorem dX7_laysMoved_185 : decode cX7_laysMoved 185 = .ok (.goto (-30), 3) := sorry
theorem dX7_laysMoved_188 : decode cX7_laysMoved 188 = .ok (.aload_n 0, 1) := sorry
theorem dX7_laysMoved_189 : decode cX7_laysMoved 189 = .ok (.getfield 57, 3) := sorry
theorem dX7_laysMoved_192 : decode cX7_laysMoved 192 = .ok (.iconst 5, 1) := sorry
theorem dX7_laysMoved_193 : decode cX7_laysMoved 193 = .ok (.iload_n 2, 1) := sorry
theorem dX7_laysMoved_194 : decode cX7_laysMoved 194 = .ok (.imul, 1) := sorry
theorem dX7_laysMoved_195 : decode cX7_laysMoved 195 = .ok (.iconst 4, 1) := sorry
theorem dX7_laysMoved_196 : decode cX7_laysMoved 196 = .ok (.iadd, 1) := sorry
theorem dX7_laysMoved_197 : decode cX7_laysMoved 197 = .ok (.iload 8, 2) := sorry
theorem dX7_laysMoved_199 : decode cX7_laysMoved 199 = .ok (.iastore, 1) := sorry
theorem dX7_laysMoved_200 : decode cX7_laysMoved 200 = .ok (.iinc 2 1, 3) := sorry
theorem dX7_laysMoved_203 : decode cX7_laysMoved 203 = .ok (.iload 7, 2) := sorry
theorem dX7_laysMoved_205 : decode cX7_laysMoved 205 = .ok (.ifCond .gt 6, 3) := sorry
theorem dX7_laysMoved_208 : decode cX7_laysMoved 208 = .ok (.iinc 3 1, 3) := sorry
theorem dX7_laysMoved_211 : decode cX7_laysMoved 211 = .ok (.iload 7, 2) := sorry
theorem dX7_laysMoved_213 : decode cX7_laysMoved 213 = .ok (.ifCond .lt 6, 3) := sorry
theorem dX7_laysMoved_216 : decode cX7_laysMoved 216 = .ok (.iinc 4 1, 3) := sorry
theorem dX7_laysMoved_219 : decode cX7_laysMoved 219 = .ok (.goto (-212), 3) := sorry
theorem dX7_laysMoved_222 : decode cX7_laysMoved 222 = .ok (.iload_n 2, 1) := sorry
theorem dX7_laysMoved_223 : decode cX7_laysMoved 223 = .ok (.ireturn, 1) := sorry
def dtX7_movedInViews_0_0 : List (Nat × Instr × Nat) := [(0, .iconst 0, 1), (1, .istore_n 1, 1), (2, .aload_n 0, 1), (3, .invokevirtual 343, 3), (6, .istore_n 2, 1), (7, .iload_n 2, 1), (8, .aload_n 0, 1), (9, .getfield 64, 3), (12, .if_icmp .ge 17, 3), (15, .iload_n 1, 1), (16, .aload_n 0, 1), (17, .iload_n 2, 1), (18, .invokevirtual 371, 3), (21, .iadd, 1), (22, .istore_n 1, 1), (23, .iinc 2 1, 3), (26, .goto (-19), 3), (29, .iload_n 1, 1), (30, .ireturn, 1)]
theorem dtX7_movedInViews_0_0_ok : dcAll cX7_movedInViews dtX7_movedInViews_0_0 = true := sorry
theorem dX7_movedInViews_0 : decode cX7_movedInViews 0 = .ok (.iconst 0, 1) := sorry
theorem dX7_movedInViews_1 : decode cX7_movedInViews 1 = .ok (.istore_n 1, 1) := sorry
theorem dX7_movedInViews_2 : decode cX7_movedInViews 2 = .ok (.aload_n 0, 1) := sorry
theorem dX7_movedInViews_3 : decode cX7_movedInViews 3 = .ok (.invokevirtual 343, 3) := sorry
theorem dX7_movedInViews_6 : decode cX7_movedInViews 6 = .ok (.istore_n 2, 1) := sorry
theorem dX7_movedInViews_7 : decode cX7_movedInViews 7 = .ok (.iload_n 2, 1) := sorry
theorem dX7_movedInViews_8 : decode cX7_movedInViews 8 = .ok (.aload_n 0, 1) := sorry
theorem dX7_movedInViews_9 : decode cX7_movedInViews 9 = .ok (.getfield 64, 3) := sorry
theorem dX7_movedInViews_12 : decode cX7_movedInViews 12 = .ok (.if_icmp .ge 17, 3) := sorry
theorem dX7_movedInViews_15 : decode cX7_movedInViews 15 = .ok (.iload_n 1, 1) := sorry
theorem dX7_movedInViews_16 : decode cX7_movedInViews 16 = .ok (.aload_n 0, 1) := sorry
theorem dX7_movedInViews_17 : decode cX7_movedInViews 17 = .ok (.iload_n 2, 1) := sorry
theorem dX7_movedInViews_18 : decode cX7_movedInViews 18 = .ok (.invokevirtual 371, 3) := sorry
theorem dX7_movedInViews_21 : decode cX7_movedInViews 21 = .ok (.iadd, 1) := sorry
theorem dX7_movedInViews_22 : decode cX7_movedInViews 22 = .ok (.istore_n 1, 1) := sorry
theorem dX7_movedInViews_23 : decode cX7_movedInViews 23 = .ok (.iinc 2 1, 3) := sorry
theorem dX7_movedInViews_26 : decode cX7_movedInViews 26 = .ok (.goto (-19), 3) := sorry
theorem dX7_movedInViews_29 : decode cX7_movedInViews 29 = .ok (.iload_n 1, 1) := sorry
theorem dX7_movedInViews_30 : decode cX7_movedInViews 30 = .ok (.ireturn, 1) := sorry
def dtX7_cameTo_0_0 : List (Nat × Instr × Nat) := [(0, .aload_n 0, 1), (1, .aload_n 0, 1), (2, .iload_n 1, 1), (3, .invokevirtual 289, 3), (6, .invokevirtual 371, 3), (9, .istore_n 2, 1), (10, .aload_n 0, 1), (11, .iload_n 1, 1), (12, .invokevirtual 292, 3), (15, .ifCond .ge 7, 3), (18, .iload_n 2, 1), (19, .goto 14, 3), (22, .iload_n 2, 1), (23, .aload_n 0, 1), (24, .aload_n 0, 1), (25, .iload_n 1, 1), (26, .invokevirtual 292, 3), (29, .invokevirtual 371, 3), (32, .iadd, 1), (33, .ireturn, 1)]
theorem dtX7_cameTo_0_0_ok : dcAll cX7_cameTo dtX7_cameTo_0_0 = true := sorry
theorem dX7_cameTo_0 : decode cX7_cameTo 0 = .ok (.aload_n 0, 1) := sorry
theorem dX7_cameTo_1 : decode cX7_cameTo 1 = .ok (.aload_n 0, 1) := sorry
theorem dX7_cameTo_2 : decode cX7_cameTo 2 = .ok (.iload_n 1, 1) := sorry
theorem dX7_cameTo_3 : decode cX7_cameTo 3 = .ok (.invokevirtual 289, 3) := sorry
theorem dX7_cameTo_6 : decode cX7_cameTo 6 = .ok (.invokevirtual 371, 3) := sorry
theorem dX7_cameTo_9 : decode cX7_cameTo 9 = .ok (.istore_n 2, 1) := sorry
theorem dX7_cameTo_10 : decode cX7_cameTo 10 = .ok (.aload_n 0, 1) := sorry
theorem dX7_cameTo_11 : decode cX7_cameTo 11 = .ok (.iload_n 1, 1) := sorry
theorem dX7_cameTo_12 : decode cX7_cameTo 12 = .ok (.invokevirtual 292, 3) := sorry
theorem dX7_cameTo_15 : decode cX7_cameTo 15 = .ok (.ifCond .ge 7, 3) := sorry
theorem dX7_cameTo_18 : decode cX7_cameTo 18 = .ok (.iload_n 2, 1) := sorry
theorem dX7_cameTo_19 : decode cX7_cameTo 19 = .ok (.goto 14, 3) := sorry
theorem dX7_cameTo_22 : decode cX7_cameTo 22 = .ok (.iload_n 2, 1) := sorry
theorem dX7_cameTo_23 : decode cX7_cameTo 23 = .ok (.aload_n 0, 1) := sorry
theorem dX7_cameTo_24 : decode cX7_cameTo 24 = .ok (.aload_n 0, 1) := sorry
theorem dX7_cameTo_25 : decode cX7_cameTo 25 = .ok (.iload_n 1, 1) := sorry
theorem dX7_cameTo_26 : decode cX7_cameTo 26 = .ok (.invokevirtual 292, 3) := sorry
theorem dX7_cameTo_29 : decode cX7_cameTo 29 = .ok (.invokevirtual 371, 3) := sorry
theorem dX7_cameTo_32 : decode cX7_cameTo 32 = .ok (.iadd, 1) := sorry
theorem dX7_cameTo_33 : decode cX7_cameTo 33 = .ok (.ireturn, 1) := sorry
def dtX7_moved_0_0 : List (Nat × Instr × Nat) := [(0, .aload_n 0, 1), (1, .iconst 0, 1), (2, .putfield 60, 3), (5, .aload_n 0, 1), (6, .iload_n 1, 1), (7, .invokevirtual 352, 3), (10, .ifCond .eq 11, 3), (13, .aload_n 0, 1), (14, .iload_n 1, 1), (15, .invokevirtual 371, 3), (18, .goto 4, 3), (21, .iconst (-1), 1), (22, .ireturn, 1)]
theorem dtX7_moved_0_0_ok : dcAll cX7_moved dtX7_moved_0_0 = true := sorry
theorem dX7_moved_0 : decode cX7_moved 0 = .ok (.aload_n 0, 1) := sorry
theorem dX7_moved_1 : decode cX7_moved 1 = .ok (.iconst 0, 1) := sorry
theorem dX7_moved_2 : decode cX7_moved 2 = .ok (.putfield 60, 3) := sorry
theorem dX7_moved_5 : decode cX7_moved 5 = .ok (.aload_n 0, 1) := sorry
theorem dX7_moved_6 : decode cX7_moved 6 = .ok (.iload_n 1, 1) := sorry
theorem dX7_moved_7 : decode cX7_moved 7 = .ok (.invokevirtual 352, 3) := sorry
theorem dX7_moved_10 : decode cX7_moved 10 = .ok (.ifCond .eq 11, 3) := sorry
theorem dX7_moved_13 : decode cX7_moved 13 = .ok (.aload_n 0, 1) := sorry
theorem dX7_moved_14 : decode cX7_moved 14 = .ok (.iload_n 1, 1) := sorry
theorem dX7_moved_15 : decode cX7_moved 15 = .ok (.invokevirtual 371, 3) := sorry
theorem dX7_moved_18 : decode cX7_moved 18 = .ok (.goto 4, 3) := sorry
theorem dX7_moved_21 : decode cX7_moved 21 = .ok (.iconst (-1), 1) := sorry
theorem dX7_moved_22 : decode cX7_moved 22 = .ok (.ireturn, 1) := sorry
def dtX7_movedAt_0_0 : List (Nat × Instr × Nat) := [(0, .aload_n 0, 1), (1, .aload_n 0, 1), (2, .iload_n 1, 1), (3, .iload_n 3, 1), (4, .invokevirtual 364, 3), (7, .ifCond .eq 22, 3), (10, .iload_n 2, 1), (11, .iconst 0, 1), (12, .aload_n 0, 1), (13, .iload_n 1, 1), (14, .invokevirtual 371, 3), (17, .iconst 1, 1), (18, .isub, 1), (19, .invokestatic 67, 3), (22, .ifCond .eq 7, 3), (25, .iconst 0, 1), (26, .goto 4, 3), (29, .iconst 1, 1), (30, .putfield 60, 3), (33, .aload_n 0, 1), (34, .getfield 60, 3), (37, .ifCond .ne 16, 3), (40, .aload_n 0, 1), (41, .getfield 57, 3), (44, .iconst 5, 1), (45, .iload_n 2, 1), (46, .imul, 1), (47, .iload_n 3, 1), (48, .iadd, 1), (49, .iaload, 1), (50, .goto 4, 3), (53, .iconst 0, 1)]
theorem dtX7_movedAt_0_0_ok : dcAll cX7_movedAt dtX7_movedAt_0_0 = true := sorry
theorem dX7_movedAt_0 : decode cX7_movedAt 0 = .ok (.aload_n 0, 1) := sorry
theorem dX7_movedAt_1 : decode cX7_movedAt 1 = .ok (.aload_n 0, 1) := sorry
theorem dX7_movedAt_2 : decode cX7_movedAt 2 = .ok (.iload_n 1, 1) := sorry
theorem dX7_movedAt_3 : decode cX7_movedAt 3 = .ok (.iload_n 3, 1) := sorry
theorem dX7_movedAt_4 : decode cX7_movedAt 4 = .ok (.invokevirtual 364, 3) := sorry
theorem dX7_movedAt_7 : decode cX7_movedAt 7 = .ok (.ifCond .eq 22, 3) := sorry
theorem dX7_movedAt_10 : decode cX7_movedAt 10 = .ok (.iload_n 2, 1) := sorry
theorem dX7_movedAt_11 : decode cX7_movedAt 11 = .ok (.iconst 0, 1) := sorry
theorem dX7_movedAt_12 : decode cX7_movedAt 12 = .ok (.aload_n 0, 1) := sorry
theorem dX7_movedAt_13 : decode cX7_movedAt 13 = .ok (.iload_n 1, 1) := sorry
theorem dX7_movedAt_14 : decode cX7_movedAt 14 = .ok (.invokevirtual 371, 3) := sorry
theorem dX7_movedAt_17 : decode cX7_movedAt 17 = .ok (.iconst 1, 1) := sorry
theorem dX7_movedAt_18 : decode cX7_movedAt 18 = .ok (.isub, 1) := sorry
theorem dX7_movedAt_19 : decode cX7_movedAt 19 = .ok (.invokestatic 67, 3) := sorry
theorem dX7_movedAt_22 : decode cX7_movedAt 22 = .ok (.ifCond .eq 7, 3) := sorry
theorem dX7_movedAt_25 : decode cX7_movedAt 25 = .ok (.iconst 0, 1) := sorry
theorem dX7_movedAt_26 : decode cX7_movedAt 26 = .ok (.goto 4, 3) := sorry
theorem dX7_movedAt_29 : decode cX7_movedAt 29 = .ok (.iconst 1, 1) := sorry
theorem dX7_movedAt_30 : decode cX7_movedAt 30 = .ok (.putfield 60, 3) := sorry
theorem dX7_movedAt_33 : decode cX7_movedAt 33 = .ok (.aload_n 0, 1) := sorry
theorem dX7_movedAt_34 : decode cX7_movedAt 34 = .ok (.getfield 60, 3) := sorry
theorem dX7_movedAt_37 : decode cX7_movedAt 37 = .ok (.ifCond .ne 16, 3) := sorry
theorem dX7_movedAt_40 : decode cX7_movedAt 40 = .ok (.aload_n 0, 1) := sorry
theorem dX7_movedAt_41 : decode cX7_movedAt 41 = .ok (.getfield 57, 3) := sorry
theorem dX7_movedAt_44 : decode cX7_movedAt 44 = .ok (.iconst 5, 1) := sorry
theorem dX7_movedAt_45 : decode cX7_movedAt 45 = .ok (.iload_n 2, 1) := sorry
theorem dX7_movedAt_46 : decode cX7_movedAt 46 = .ok (.imul, 1) := sorry
theorem dX7_movedAt_47 : decode cX7_movedAt 47 = .ok (.iload_n 3, 1) := sorry
theorem dX7_movedAt_48 : decode cX7_movedAt 48 = .ok (.iadd, 1) := sorry
theorem dX7_movedAt_49 : decode cX7_movedAt 49 = .ok (.iaload, 1) := sorry
theorem dX7_movedAt_50 : decode cX7_movedAt 50 = .ok (.goto 4, 3) := sorry
theorem dX7_movedAt_53 : decode cX7_movedAt 53 = .ok (.iconst 0, 1) := sorry
def dtX7_movedAt_54_1 : List (Nat × Instr × Nat) := [(54, .ireturn, 1)]
theorem dtX7_movedAt_54_1_ok : dcAll cX7_movedAt dtX7_movedAt_54_1 = true := sorry
theorem dX7_movedAt_54 : decode cX7_movedAt 54 = .ok (.ireturn, 1) := sorry
def dtX7_came_0_0 : List (Nat × Instr × Nat) := [(0, .aload_n 0, 1), (1, .iconst 0, 1), (2, .putfield 60, 3), (5, .aload_n 0, 1), (6, .iload_n 1, 1), (7, .invokevirtual 352, 3), (10, .ifCond .eq 19, 3), (13, .aload_n 0, 1), (14, .iload_n 1, 1), (15, .invokevirtual 322, 3), (18, .ifCond .eq 11, 3), (21, .aload_n 0, 1), (22, .iload_n 1, 1), (23, .invokevirtual 374, 3), (26, .goto 4, 3), (29, .iconst (-1), 1), (30, .ireturn, 1)]
theorem dtX7_came_0_0_ok : dcAll cX7_came dtX7_came_0_0 = true := sorry
theorem dX7_came_0 : decode cX7_came 0 = .ok (.aload_n 0, 1) := sorry
theorem dX7_came_1 : decode cX7_came 1 = .ok (.iconst 0, 1) := sorry
theorem dX7_came_2 : decode cX7_came 2 = .ok (.putfield 60, 3) := sorry
theorem dX7_came_5 : decode cX7_came 5 = .ok (.aload_n 0, 1) := sorry
theorem dX7_came_6 : decode cX7_came 6 = .ok (.iload_n 1, 1) := sorry
theorem dX7_came_7 : decode cX7_came 7 = .ok (.invokevirtual 352, 3) := sorry
theorem dX7_came_10 : decode cX7_came 10 = .ok (.ifCond .eq 19, 3) := sorry
theorem dX7_came_13 : decode cX7_came 13 = .ok (.aload_n 0, 1) := sorry
theorem dX7_came_14 : decode cX7_came 14 = .ok (.iload_n 1, 1) := sorry
theorem dX7_came_15 : decode cX7_came 15 = .ok (.invokevirtual 322, 3) := sorry
theorem dX7_came_18 : decode cX7_came 18 = .ok (.ifCond .eq 11, 3) := sorry
theorem dX7_came_21 : decode cX7_came 21 = .ok (.aload_n 0, 1) := sorry
theorem dX7_came_22 : decode cX7_came 22 = .ok (.iload_n 1, 1) := sorry
theorem dX7_came_23 : decode cX7_came 23 = .ok (.invokevirtual 374, 3) := sorry
theorem dX7_came_26 : decode cX7_came 26 = .ok (.goto 4, 3) := sorry
theorem dX7_came_29 : decode cX7_came 29 = .ok (.iconst (-1), 1) := sorry
theorem dX7_came_30 : decode cX7_came 30 = .ok (.ireturn, 1) := sorry
def dtX7_round_0_0 : List (Nat × Instr × Nat) := [(0, .aload_n 0, 1), (1, .iconst 0, 1), (2, .putfield 60, 3), (5, .aload_n 0, 1), (6, .iload_n 1, 1), (7, .invokevirtual 352, 3), (10, .ifCond .eq 13, 3), (13, .aload_n 0, 1), (14, .iload_n 1, 1), (15, .invokevirtual 322, 3), (18, .bipush 8, 2), (20, .if_icmp .eq 5, 3), (23, .iconst (-1), 1), (24, .ireturn, 1), (25, .aload_n 0, 1), (26, .iconst 0, 1), (27, .iload_n 1, 1), (28, .iload_n 2, 1), (29, .iload_n 3, 1), (30, .iload 4, 2), (32, .iload 5, 2), (34, .invokevirtual 367, 3), (37, .istore 6, 2), (39, .iload 6, 2), (41, .ifCond .ge 7, 3), (44, .iconst (-1), 1), (45, .goto 17, 3), (48, .aload_n 0, 1), (49, .getfield 24, 3), (52, .iconst 0, 1), (53, .iload_n 1, 1), (54, .iload 6, 2)]
theorem dtX7_round_0_0_ok : dcAll cX7_round dtX7_round_0_0 = true := sorry
theorem dX7_round_0 : decode cX7_round 0 = .ok (.aload_n 0, 1) := sorry
theorem dX7_round_1 : decode cX7_round 1 = .ok (.iconst 0, 1) := sorry
theorem dX7_round_2 : decode cX7_round 2 = .ok (.putfield 60, 3) := sorry
theorem dX7_round_5 : decode cX7_round 5 = .ok (.aload_n 0, 1) := sorry
theorem dX7_round_6 : decode cX7_round 6 = .ok (.iload_n 1, 1) := sorry
theorem dX7_round_7 : decode cX7_round 7 = .ok (.invokevirtual 352, 3) := sorry
theorem dX7_round_10 : decode cX7_round 10 = .ok (.ifCond .eq 13, 3) := sorry
theorem dX7_round_13 : decode cX7_round 13 = .ok (.aload_n 0, 1) := sorry
theorem dX7_round_14 : decode cX7_round 14 = .ok (.iload_n 1, 1) := sorry
theorem dX7_round_15 : decode cX7_round 15 = .ok (.invokevirtual 322, 3) := sorry
theorem dX7_round_18 : decode cX7_round 18 = .ok (.bipush 8, 2) := sorry
theorem dX7_round_20 : decode cX7_round 20 = .ok (.if_icmp .eq 5, 3) := sorry
theorem dX7_round_23 : decode cX7_round 23 = .ok (.iconst (-1), 1) := sorry
theorem dX7_round_24 : decode cX7_round 24 = .ok (.ireturn, 1) := sorry
theorem dX7_round_25 : decode cX7_round 25 = .ok (.aload_n 0, 1) := sorry
theorem dX7_round_26 : decode cX7_round 26 = .ok (.iconst 0, 1) := sorry
theorem dX7_round_27 : decode cX7_round 27 = .ok (.iload_n 1, 1) := sorry
theorem dX7_round_28 : decode cX7_round 28 = .ok (.iload_n 2, 1) := sorry
theorem dX7_round_29 : decode cX7_round 29 = .ok (.iload_n 3, 1) := sorry
theorem dX7_round_30 : decode cX7_round 30 = .ok (.iload 4, 2) := sorry
theorem dX7_round_32 : decode cX7_round 32 = .ok (.iload 5, 2) := sorry
theorem dX7_round_34 : decode cX7_round 34 = .ok (.invokevirtual 367, 3) := sorry
theorem dX7_round_37 : decode cX7_round 37 = .ok (.istore 6, 2) := sorry
theorem dX7_round_39 : decode cX7_round 39 = .ok (.iload 6, 2) := sorry
theorem dX7_round_41 : decode cX7_round 41 = .ok (.ifCond .ge 7, 3) := sorry
theorem dX7_round_44 : decode cX7_round 44 = .ok (.iconst (-1), 1) := sorry
theorem dX7_round_45 : decode cX7_round 45 = .ok (.goto 17, 3) := sorry
theorem dX7_round_48 : decode cX7_round 48 = .ok (.aload_n 0, 1) := sorry
theorem dX7_round_49 : decode cX7_round 49 = .ok (.getfield 24, 3) := sorry
theorem dX7_round_52 : decode cX7_round 52 = .ok (.iconst 0, 1) := sorry
theorem dX7_round_53 : decode cX7_round 53 = .ok (.iload_n 1, 1) := sorry
theorem dX7_round_54 : decode cX7_round 54 = .ok (.iload 6, 2) := sorry
def dtX7_round_56_1 : List (Nat × Instr × Nat) := [(56, .invokestatic 279, 3), (59, .iconst 5, 1), (60, .iadd, 1), (61, .iaload, 1), (62, .ireturn, 1)]
theorem dtX7_round_56_1_ok : dcAll cX7_round dtX7_round_56_1 = true := sorry
theorem dX7_round_56 : decode cX7_round 56 = .ok (.invokestatic 279, 3) := sorry
theorem dX7_round_59 : decode cX7_round 59 = .ok (.iconst 5, 1) := sorry
theorem dX7_round_60 : decode cX7_round 60 = .ok (.iadd, 1) := sorry
theorem dX7_round_61 : decode cX7_round 61 = .ok (.iaload, 1) := sorry
theorem dX7_round_62 : decode cX7_round 62 = .ok (.ireturn, 1) := sorry
def dtX7_rounds_0_0 : List (Nat × Instr × Nat) := [(0, .aload_n 0, 1), (1, .iconst 0, 1), (2, .putfield 60, 3), (5, .aload_n 0, 1), (6, .iload_n 1, 1), (7, .invokevirtual 352, 3), (10, .ifCond .eq 24, 3), (13, .aload_n 0, 1), (14, .iload_n 1, 1), (15, .invokevirtual 322, 3), (18, .bipush 8, 2), (20, .if_icmp .ne 14, 3), (23, .aload_n 0, 1), (24, .getfield 51, 3), (27, .iconst 0, 1), (28, .iload_n 1, 1), (29, .iadd, 1), (30, .iaload, 1), (31, .goto 4, 3), (34, .iconst (-1), 1), (35, .ireturn, 1)]
theorem dtX7_rounds_0_0_ok : dcAll cX7_rounds dtX7_rounds_0_0 = true := sorry
theorem dX7_rounds_0 : decode cX7_rounds 0 = .ok (.aload_n 0, 1) := sorry
theorem dX7_rounds_1 : decode cX7_rounds 1 = .ok (.iconst 0, 1) := sorry
theorem dX7_rounds_2 : decode cX7_rounds 2 = .ok (.putfield 60, 3) := sorry
theorem dX7_rounds_5 : decode cX7_rounds 5 = .ok (.aload_n 0, 1) := sorry
theorem dX7_rounds_6 : decode cX7_rounds 6 = .ok (.iload_n 1, 1) := sorry
theorem dX7_rounds_7 : decode cX7_rounds 7 = .ok (.invokevirtual 352, 3) := sorry
theorem dX7_rounds_10 : decode cX7_rounds 10 = .ok (.ifCond .eq 24, 3) := sorry
theorem dX7_rounds_13 : decode cX7_rounds 13 = .ok (.aload_n 0, 1) := sorry
theorem dX7_rounds_14 : decode cX7_rounds 14 = .ok (.iload_n 1, 1) := sorry
theorem dX7_rounds_15 : decode cX7_rounds 15 = .ok (.invokevirtual 322, 3) := sorry
theorem dX7_rounds_18 : decode cX7_rounds 18 = .ok (.bipush 8, 2) := sorry
theorem dX7_rounds_20 : decode cX7_rounds 20 = .ok (.if_icmp .ne 14, 3) := sorry
theorem dX7_rounds_23 : decode cX7_rounds 23 = .ok (.aload_n 0, 1) := sorry
theorem dX7_rounds_24 : decode cX7_rounds 24 = .ok (.getfield 51, 3) := sorry
theorem dX7_rounds_27 : decode cX7_rounds 27 = .ok (.iconst 0, 1) := sorry
theorem dX7_rounds_28 : decode cX7_rounds 28 = .ok (.iload_n 1, 1) := sorry
theorem dX7_rounds_29 : decode cX7_rounds 29 = .ok (.iadd, 1) := sorry
theorem dX7_rounds_30 : decode cX7_rounds 30 = .ok (.iaload, 1) := sorry
theorem dX7_rounds_31 : decode cX7_rounds 31 = .ok (.goto 4, 3) := sorry
theorem dX7_rounds_34 : decode cX7_rounds 34 = .ok (.iconst (-1), 1) := sorry
theorem dX7_rounds_35 : decode cX7_rounds 35 = .ok (.ireturn, 1) := sorry
def dtX7_differs_0_0 : List (Nat × Instr × Nat) := [(0, .aload_n 0, 1), (1, .iconst 0, 1), (2, .putfield 60, 3), (5, .aload_n 0, 1), (6, .iload_n 1, 1), (7, .invokevirtual 352, 3), (10, .ifCond .ne 5, 3), (13, .iconst (-1), 1), (14, .ireturn, 1), (15, .aload_n 0, 1), (16, .iconst 0, 1), (17, .bipush 10, 2), (19, .invokevirtual 340, 3), (22, .aload_n 0, 1), (23, .invokevirtual 343, 3), (26, .istore_n 2, 1), (27, .iload_n 2, 1), (28, .iload_n 1, 1), (29, .if_icmp .gt 26, 3), (32, .aload_n 0, 1), (33, .bipush 10, 2), (35, .iload_n 2, 1), (36, .invokevirtual 349, 3), (39, .ifCond .ge 10, 3), (42, .aload_n 0, 1), (43, .iconst 0, 1), (44, .iload_n 1, 1), (45, .invokevirtual 295, 3), (48, .ireturn, 1), (49, .iinc 2 1, 3), (52, .goto (-25), 3), (55, .aload_n 0, 1)]
theorem dtX7_differs_0_0_ok : dcAll cX7_differs dtX7_differs_0_0 = true := sorry
theorem dX7_differs_0 : decode cX7_differs 0 = .ok (.aload_n 0, 1) := sorry
theorem dX7_differs_1 : decode cX7_differs 1 = .ok (.iconst 0, 1) := sorry
theorem dX7_differs_2 : decode cX7_differs 2 = .ok (.putfield 60, 3) := sorry
theorem dX7_differs_5 : decode cX7_differs 5 = .ok (.aload_n 0, 1) := sorry
theorem dX7_differs_6 : decode cX7_differs 6 = .ok (.iload_n 1, 1) := sorry
theorem dX7_differs_7 : decode cX7_differs 7 = .ok (.invokevirtual 352, 3) := sorry
theorem dX7_differs_10 : decode cX7_differs 10 = .ok (.ifCond .ne 5, 3) := sorry
theorem dX7_differs_13 : decode cX7_differs 13 = .ok (.iconst (-1), 1) := sorry
theorem dX7_differs_14 : decode cX7_differs 14 = .ok (.ireturn, 1) := sorry
theorem dX7_differs_15 : decode cX7_differs 15 = .ok (.aload_n 0, 1) := sorry
theorem dX7_differs_16 : decode cX7_differs 16 = .ok (.iconst 0, 1) := sorry
theorem dX7_differs_17 : decode cX7_differs 17 = .ok (.bipush 10, 2) := sorry
theorem dX7_differs_19 : decode cX7_differs 19 = .ok (.invokevirtual 340, 3) := sorry
theorem dX7_differs_22 : decode cX7_differs 22 = .ok (.aload_n 0, 1) := sorry
theorem dX7_differs_23 : decode cX7_differs 23 = .ok (.invokevirtual 343, 3) := sorry
theorem dX7_differs_26 : decode cX7_differs 26 = .ok (.istore_n 2, 1) := sorry
theorem dX7_differs_27 : decode cX7_differs 27 = .ok (.iload_n 2, 1) := sorry
theorem dX7_differs_28 : decode cX7_differs 28 = .ok (.iload_n 1, 1) := sorry
theorem dX7_differs_29 : decode cX7_differs 29 = .ok (.if_icmp .gt 26, 3) := sorry
theorem dX7_differs_32 : decode cX7_differs 32 = .ok (.aload_n 0, 1) := sorry
theorem dX7_differs_33 : decode cX7_differs 33 = .ok (.bipush 10, 2) := sorry
theorem dX7_differs_35 : decode cX7_differs 35 = .ok (.iload_n 2, 1) := sorry
theorem dX7_differs_36 : decode cX7_differs 36 = .ok (.invokevirtual 349, 3) := sorry
theorem dX7_differs_39 : decode cX7_differs 39 = .ok (.ifCond .ge 10, 3) := sorry
theorem dX7_differs_42 : decode cX7_differs 42 = .ok (.aload_n 0, 1) := sorry
theorem dX7_differs_43 : decode cX7_differs 43 = .ok (.iconst 0, 1) := sorry
theorem dX7_differs_44 : decode cX7_differs 44 = .ok (.iload_n 1, 1) := sorry
theorem dX7_differs_45 : decode cX7_differs 45 = .ok (.invokevirtual 295, 3) := sorry
theorem dX7_differs_48 : decode cX7_differs 48 = .ok (.ireturn, 1) := sorry
theorem dX7_differs_49 : decode cX7_differs 49 = .ok (.iinc 2 1, 3) := sorry
theorem dX7_differs_52 : decode cX7_differs 52 = .ok (.goto (-25), 3) := sorry
theorem dX7_differs_55 : decode cX7_differs 55 = .ok (.aload_n 0, 1) := sorry
def dtX7_differs_56_1 : List (Nat × Instr × Nat) := [(56, .iconst 0, 1), (57, .iload_n 1, 1), (58, .invokevirtual 295, 3), (61, .aload_n 0, 1), (62, .bipush 10, 2), (64, .iload_n 1, 1), (65, .invokevirtual 295, 3), (68, .iadd, 1), (69, .istore_n 2, 1), (70, .iconst 0, 1), (71, .istore_n 3, 1), (72, .iload_n 3, 1), (73, .aload_n 0, 1), (74, .iconst 0, 1), (75, .iload_n 1, 1), (76, .invokevirtual 295, 3), (79, .if_icmp .ge 95, 3), (82, .iconst 0, 1), (83, .istore 4, 2), (85, .iload 4, 2), (87, .aload_n 0, 1), (88, .bipush 10, 2), (90, .iload_n 1, 1), (91, .invokevirtual 295, 3), (94, .if_icmp .ge 74, 3), (97, .iconst 0, 1), (98, .iload_n 1, 1), (99, .iload_n 3, 1), (100, .invokestatic 279, 3), (103, .istore 5, 2), (105, .bipush 10, 2), (107, .iload_n 1, 1)]
theorem dtX7_differs_56_1_ok : dcAll cX7_differs dtX7_differs_56_1 = true := sorry
theorem dX7_differs_56 : decode cX7_differs 56 = .ok (.iconst 0, 1) := sorry
theorem dX7_differs_57 : decode cX7_differs 57 = .ok (.iload_n 1, 1) := sorry
theorem dX7_differs_58 : decode cX7_differs 58 = .ok (.invokevirtual 295, 3) := sorry
theorem dX7_differs_61 : decode cX7_differs 61 = .ok (.aload_n 0, 1) := sorry
theorem dX7_differs_62 : decode cX7_differs 62 = .ok (.bipush 10, 2) := sorry
theorem dX7_differs_64 : decode cX7_differs 64 = .ok (.iload_n 1, 1) := sorry
theorem dX7_differs_65 : decode cX7_differs 65 = .ok (.invokevirtual 295, 3) := sorry
theorem dX7_differs_68 : decode cX7_differs 68 = .ok (.iadd, 1) := sorry
theorem dX7_differs_69 : decode cX7_differs 69 = .ok (.istore_n 2, 1) := sorry
theorem dX7_differs_70 : decode cX7_differs 70 = .ok (.iconst 0, 1) := sorry
theorem dX7_differs_71 : decode cX7_differs 71 = .ok (.istore_n 3, 1) := sorry
theorem dX7_differs_72 : decode cX7_differs 72 = .ok (.iload_n 3, 1) := sorry
theorem dX7_differs_73 : decode cX7_differs 73 = .ok (.aload_n 0, 1) := sorry
theorem dX7_differs_74 : decode cX7_differs 74 = .ok (.iconst 0, 1) := sorry
theorem dX7_differs_75 : decode cX7_differs 75 = .ok (.iload_n 1, 1) := sorry
theorem dX7_differs_76 : decode cX7_differs 76 = .ok (.invokevirtual 295, 3) := sorry
theorem dX7_differs_79 : decode cX7_differs 79 = .ok (.if_icmp .ge 95, 3) := sorry
theorem dX7_differs_82 : decode cX7_differs 82 = .ok (.iconst 0, 1) := sorry
theorem dX7_differs_83 : decode cX7_differs 83 = .ok (.istore 4, 2) := sorry
theorem dX7_differs_85 : decode cX7_differs 85 = .ok (.iload 4, 2) := sorry
theorem dX7_differs_87 : decode cX7_differs 87 = .ok (.aload_n 0, 1) := sorry
theorem dX7_differs_88 : decode cX7_differs 88 = .ok (.bipush 10, 2) := sorry
theorem dX7_differs_90 : decode cX7_differs 90 = .ok (.iload_n 1, 1) := sorry
theorem dX7_differs_91 : decode cX7_differs 91 = .ok (.invokevirtual 295, 3) := sorry
theorem dX7_differs_94 : decode cX7_differs 94 = .ok (.if_icmp .ge 74, 3) := sorry
theorem dX7_differs_97 : decode cX7_differs 97 = .ok (.iconst 0, 1) := sorry
theorem dX7_differs_98 : decode cX7_differs 98 = .ok (.iload_n 1, 1) := sorry
theorem dX7_differs_99 : decode cX7_differs 99 = .ok (.iload_n 3, 1) := sorry
theorem dX7_differs_100 : decode cX7_differs 100 = .ok (.invokestatic 279, 3) := sorry
theorem dX7_differs_103 : decode cX7_differs 103 = .ok (.istore 5, 2) := sorry
theorem dX7_differs_105 : decode cX7_differs 105 = .ok (.bipush 10, 2) := sorry
theorem dX7_differs_107 : decode cX7_differs 107 = .ok (.iload_n 1, 1) := sorry
def dtX7_differs_108_2 : List (Nat × Instr × Nat) := [(108, .iload 4, 2), (110, .invokestatic 279, 3), (113, .istore 6, 2), (115, .aload_n 0, 1), (116, .getfield 24, 3), (119, .iload 5, 2), (121, .aload_n 0, 1), (122, .getfield 24, 3), (125, .iload 6, 2), (127, .invokestatic 272, 3), (130, .ifCond .ne 32, 3), (133, .iload_n 2, 1), (134, .aload_n 0, 1), (135, .getfield 24, 3), (138, .iload 5, 2), (140, .iconst 4, 1), (141, .iadd, 1), (142, .iaload, 1), (143, .aload_n 0, 1), (144, .getfield 24, 3), (147, .iload 6, 2), (149, .iconst 4, 1), (150, .iadd, 1), (151, .iaload, 1), (152, .if_icmp .ne 7, 3), (155, .iconst 2, 1), (156, .goto 4, 3), (159, .iconst 1, 1), (160, .isub, 1), (161, .istore_n 2, 1), (162, .iinc 4 1, 3), (165, .goto (-80), 3)]
theorem dtX7_differs_108_2_ok : dcAll cX7_differs dtX7_differs_108_2 = true := sorry
theorem dX7_differs_108 : decode cX7_differs 108 = .ok (.iload 4, 2) := sorry
theorem dX7_differs_110 : decode cX7_differs 110 = .ok (.invokestatic 279, 3) := sorry
theorem dX7_differs_113 : decode cX7_differs 113 = .ok (.istore 6, 2) := sorry
theorem dX7_differs_115 : decode cX7_differs 115 = .ok (.aload_n 0, 1) := sorry
theorem dX7_differs_116 : decode cX7_differs 116 = .ok (.getfield 24, 3) := sorry
theorem dX7_differs_119 : decode cX7_differs 119 = .ok (.iload 5, 2) := sorry
theorem dX7_differs_121 : decode cX7_differs 121 = .ok (.aload_n 0, 1) := sorry
theorem dX7_differs_122 : decode cX7_differs 122 = .ok (.getfield 24, 3) := sorry
theorem dX7_differs_125 : decode cX7_differs 125 = .ok (.iload 6, 2) := sorry
theorem dX7_differs_127 : decode cX7_differs 127 = .ok (.invokestatic 272, 3) := sorry
theorem dX7_differs_130 : decode cX7_differs 130 = .ok (.ifCond .ne 32, 3) := sorry
theorem dX7_differs_133 : decode cX7_differs 133 = .ok (.iload_n 2, 1) := sorry
theorem dX7_differs_134 : decode cX7_differs 134 = .ok (.aload_n 0, 1) := sorry
theorem dX7_differs_135 : decode cX7_differs 135 = .ok (.getfield 24, 3) := sorry
theorem dX7_differs_138 : decode cX7_differs 138 = .ok (.iload 5, 2) := sorry
theorem dX7_differs_140 : decode cX7_differs 140 = .ok (.iconst 4, 1) := sorry
theorem dX7_differs_141 : decode cX7_differs 141 = .ok (.iadd, 1) := sorry
theorem dX7_differs_142 : decode cX7_differs 142 = .ok (.iaload, 1) := sorry
theorem dX7_differs_143 : decode cX7_differs 143 = .ok (.aload_n 0, 1) := sorry
theorem dX7_differs_144 : decode cX7_differs 144 = .ok (.getfield 24, 3) := sorry
theorem dX7_differs_147 : decode cX7_differs 147 = .ok (.iload 6, 2) := sorry
theorem dX7_differs_149 : decode cX7_differs 149 = .ok (.iconst 4, 1) := sorry
theorem dX7_differs_150 : decode cX7_differs 150 = .ok (.iadd, 1) := sorry
theorem dX7_differs_151 : decode cX7_differs 151 = .ok (.iaload, 1) := sorry
theorem dX7_differs_152 : decode cX7_differs 152 = .ok (.if_icmp .ne 7, 3) := sorry
theorem dX7_differs_155 : decode cX7_differs 155 = .ok (.iconst 2, 1) := sorry
theorem dX7_differs_156 : decode cX7_differs 156 = .ok (.goto 4, 3) := sorry
theorem dX7_differs_159 : decode cX7_differs 159 = .ok (.iconst 1, 1) := sorry
theorem dX7_differs_160 : decode cX7_differs 160 = .ok (.isub, 1) := sorry
theorem dX7_differs_161 : decode cX7_differs 161 = .ok (.istore_n 2, 1) := sorry
theorem dX7_differs_162 : decode cX7_differs 162 = .ok (.iinc 4 1, 3) := sorry
theorem dX7_differs_165 : decode cX7_differs 165 = .ok (.goto (-80), 3) := sorry
def dtX7_differs_168_3 : List (Nat × Instr × Nat) := [(168, .iinc 3 1, 3), (171, .goto (-99), 3), (174, .iload_n 2, 1), (175, .ireturn, 1)]
theorem dtX7_differs_168_3_ok : dcAll cX7_differs dtX7_differs_168_3 = true := sorry
theorem dX7_differs_168 : decode cX7_differs 168 = .ok (.iinc 3 1, 3) := sorry
theorem dX7_differs_171 : decode cX7_differs 171 = .ok (.goto (-99), 3) := sorry
theorem dX7_differs_174 : decode cX7_differs 174 = .ok (.iload_n 2, 1) := sorry
theorem dX7_differs_175 : decode cX7_differs 175 = .ok (.ireturn, 1) := sorry
def dtX7_hangsOn_0_0 : List (Nat × Instr × Nat) := [(0, .aload_n 0, 1), (1, .iload_n 1, 1), (2, .invokevirtual 322, 3), (5, .ifCond .ne 5, 3), (8, .iconst 0, 1), (9, .ireturn, 1), (10, .iconst 1, 1), (11, .aload_n 0, 1), (12, .iload_n 1, 1), (13, .invokevirtual 289, 3), (16, .ishl, 1), (17, .aload_n 0, 1), (18, .aload_n 0, 1), (19, .iload_n 1, 1), (20, .invokevirtual 289, 3), (23, .invokevirtual 377, 3), (26, .ior, 1), (27, .istore_n 2, 1), (28, .aload_n 0, 1), (29, .iload_n 1, 1), (30, .invokevirtual 292, 3), (33, .ifCond .ge 7, 3), (36, .iload_n 2, 1), (37, .goto 22, 3), (40, .iload_n 2, 1), (41, .iconst 1, 1), (42, .aload_n 0, 1), (43, .iload_n 1, 1), (44, .invokevirtual 292, 3), (47, .ishl, 1), (48, .ior, 1), (49, .aload_n 0, 1)]
theorem dtX7_hangsOn_0_0_ok : dcAll cX7_hangsOn dtX7_hangsOn_0_0 = true := sorry
theorem dX7_hangsOn_0 : decode cX7_hangsOn 0 = .ok (.aload_n 0, 1) := sorry
theorem dX7_hangsOn_1 : decode cX7_hangsOn 1 = .ok (.iload_n 1, 1) := sorry
theorem dX7_hangsOn_2 : decode cX7_hangsOn 2 = .ok (.invokevirtual 322, 3) := sorry
theorem dX7_hangsOn_5 : decode cX7_hangsOn 5 = .ok (.ifCond .ne 5, 3) := sorry
theorem dX7_hangsOn_8 : decode cX7_hangsOn 8 = .ok (.iconst 0, 1) := sorry
theorem dX7_hangsOn_9 : decode cX7_hangsOn 9 = .ok (.ireturn, 1) := sorry
theorem dX7_hangsOn_10 : decode cX7_hangsOn 10 = .ok (.iconst 1, 1) := sorry
theorem dX7_hangsOn_11 : decode cX7_hangsOn 11 = .ok (.aload_n 0, 1) := sorry
theorem dX7_hangsOn_12 : decode cX7_hangsOn 12 = .ok (.iload_n 1, 1) := sorry
theorem dX7_hangsOn_13 : decode cX7_hangsOn 13 = .ok (.invokevirtual 289, 3) := sorry
theorem dX7_hangsOn_16 : decode cX7_hangsOn 16 = .ok (.ishl, 1) := sorry
theorem dX7_hangsOn_17 : decode cX7_hangsOn 17 = .ok (.aload_n 0, 1) := sorry
theorem dX7_hangsOn_18 : decode cX7_hangsOn 18 = .ok (.aload_n 0, 1) := sorry
theorem dX7_hangsOn_19 : decode cX7_hangsOn 19 = .ok (.iload_n 1, 1) := sorry
theorem dX7_hangsOn_20 : decode cX7_hangsOn 20 = .ok (.invokevirtual 289, 3) := sorry
theorem dX7_hangsOn_23 : decode cX7_hangsOn 23 = .ok (.invokevirtual 377, 3) := sorry
theorem dX7_hangsOn_26 : decode cX7_hangsOn 26 = .ok (.ior, 1) := sorry
theorem dX7_hangsOn_27 : decode cX7_hangsOn 27 = .ok (.istore_n 2, 1) := sorry
theorem dX7_hangsOn_28 : decode cX7_hangsOn 28 = .ok (.aload_n 0, 1) := sorry
theorem dX7_hangsOn_29 : decode cX7_hangsOn 29 = .ok (.iload_n 1, 1) := sorry
theorem dX7_hangsOn_30 : decode cX7_hangsOn 30 = .ok (.invokevirtual 292, 3) := sorry
theorem dX7_hangsOn_33 : decode cX7_hangsOn 33 = .ok (.ifCond .ge 7, 3) := sorry
theorem dX7_hangsOn_36 : decode cX7_hangsOn 36 = .ok (.iload_n 2, 1) := sorry
theorem dX7_hangsOn_37 : decode cX7_hangsOn 37 = .ok (.goto 22, 3) := sorry
theorem dX7_hangsOn_40 : decode cX7_hangsOn 40 = .ok (.iload_n 2, 1) := sorry
theorem dX7_hangsOn_41 : decode cX7_hangsOn 41 = .ok (.iconst 1, 1) := sorry
theorem dX7_hangsOn_42 : decode cX7_hangsOn 42 = .ok (.aload_n 0, 1) := sorry
theorem dX7_hangsOn_43 : decode cX7_hangsOn 43 = .ok (.iload_n 1, 1) := sorry
theorem dX7_hangsOn_44 : decode cX7_hangsOn 44 = .ok (.invokevirtual 292, 3) := sorry
theorem dX7_hangsOn_47 : decode cX7_hangsOn 47 = .ok (.ishl, 1) := sorry
theorem dX7_hangsOn_48 : decode cX7_hangsOn 48 = .ok (.ior, 1) := sorry
theorem dX7_hangsOn_49 : decode cX7_hangsOn 49 = .ok (.aload_n 0, 1) := sorry
def dtX7_hangsOn_50_1 : List (Nat × Instr × Nat) := [(50, .aload_n 0, 1), (51, .iload_n 1, 1), (52, .invokevirtual 292, 3), (55, .invokevirtual 377, 3), (58, .ior, 1), (59, .ireturn, 1)]
theorem dtX7_hangsOn_50_1_ok : dcAll cX7_hangsOn dtX7_hangsOn_50_1 = true := sorry
theorem dX7_hangsOn_50 : decode cX7_hangsOn 50 = .ok (.aload_n 0, 1) := sorry
theorem dX7_hangsOn_51 : decode cX7_hangsOn 51 = .ok (.iload_n 1, 1) := sorry
theorem dX7_hangsOn_52 : decode cX7_hangsOn 52 = .ok (.invokevirtual 292, 3) := sorry
theorem dX7_hangsOn_55 : decode cX7_hangsOn 55 = .ok (.invokevirtual 377, 3) := sorry
theorem dX7_hangsOn_58 : decode cX7_hangsOn 58 = .ok (.ior, 1) := sorry
theorem dX7_hangsOn_59 : decode cX7_hangsOn 59 = .ok (.ireturn, 1) := sorry
def dtX7_hangOn_0_0 : List (Nat × Instr × Nat) := [(0, .iconst 0, 1), (1, .istore_n 2, 1), (2, .iconst 0, 1), (3, .istore_n 3, 1), (4, .iload_n 3, 1), (5, .aload_n 0, 1), (6, .getfield 64, 3), (9, .if_icmp .ge 28, 3), (12, .aload_n 0, 1), (13, .iload_n 3, 1), (14, .invokevirtual 377, 3), (17, .iload_n 1, 1), (18, .ishr, 1), (19, .iconst 1, 1), (20, .iand, 1), (21, .iconst 1, 1), (22, .if_icmp .ne 9, 3), (25, .iload_n 2, 1), (26, .iconst 1, 1), (27, .iload_n 3, 1), (28, .ishl, 1), (29, .ior, 1), (30, .istore_n 2, 1), (31, .iinc 3 1, 3), (34, .goto (-30), 3), (37, .iload_n 2, 1), (38, .ireturn, 1)]
theorem dtX7_hangOn_0_0_ok : dcAll cX7_hangOn dtX7_hangOn_0_0 = true := sorry
theorem dX7_hangOn_0 : decode cX7_hangOn 0 = .ok (.iconst 0, 1) := sorry
theorem dX7_hangOn_1 : decode cX7_hangOn 1 = .ok (.istore_n 2, 1) := sorry
theorem dX7_hangOn_2 : decode cX7_hangOn 2 = .ok (.iconst 0, 1) := sorry
theorem dX7_hangOn_3 : decode cX7_hangOn 3 = .ok (.istore_n 3, 1) := sorry
theorem dX7_hangOn_4 : decode cX7_hangOn 4 = .ok (.iload_n 3, 1) := sorry
theorem dX7_hangOn_5 : decode cX7_hangOn 5 = .ok (.aload_n 0, 1) := sorry
theorem dX7_hangOn_6 : decode cX7_hangOn 6 = .ok (.getfield 64, 3) := sorry
theorem dX7_hangOn_9 : decode cX7_hangOn 9 = .ok (.if_icmp .ge 28, 3) := sorry
theorem dX7_hangOn_12 : decode cX7_hangOn 12 = .ok (.aload_n 0, 1) := sorry
theorem dX7_hangOn_13 : decode cX7_hangOn 13 = .ok (.iload_n 3, 1) := sorry
theorem dX7_hangOn_14 : decode cX7_hangOn 14 = .ok (.invokevirtual 377, 3) := sorry
theorem dX7_hangOn_17 : decode cX7_hangOn 17 = .ok (.iload_n 1, 1) := sorry
theorem dX7_hangOn_18 : decode cX7_hangOn 18 = .ok (.ishr, 1) := sorry
theorem dX7_hangOn_19 : decode cX7_hangOn 19 = .ok (.iconst 1, 1) := sorry
theorem dX7_hangOn_20 : decode cX7_hangOn 20 = .ok (.iand, 1) := sorry
theorem dX7_hangOn_21 : decode cX7_hangOn 21 = .ok (.iconst 1, 1) := sorry
theorem dX7_hangOn_22 : decode cX7_hangOn 22 = .ok (.if_icmp .ne 9, 3) := sorry
theorem dX7_hangOn_25 : decode cX7_hangOn 25 = .ok (.iload_n 2, 1) := sorry
theorem dX7_hangOn_26 : decode cX7_hangOn 26 = .ok (.iconst 1, 1) := sorry
theorem dX7_hangOn_27 : decode cX7_hangOn 27 = .ok (.iload_n 3, 1) := sorry
theorem dX7_hangOn_28 : decode cX7_hangOn 28 = .ok (.ishl, 1) := sorry
theorem dX7_hangOn_29 : decode cX7_hangOn 29 = .ok (.ior, 1) := sorry
theorem dX7_hangOn_30 : decode cX7_hangOn 30 = .ok (.istore_n 2, 1) := sorry
theorem dX7_hangOn_31 : decode cX7_hangOn 31 = .ok (.iinc 3 1, 3) := sorry
theorem dX7_hangOn_34 : decode cX7_hangOn 34 = .ok (.goto (-30), 3) := sorry
theorem dX7_hangOn_37 : decode cX7_hangOn 37 = .ok (.iload_n 2, 1) := sorry
theorem dX7_hangOn_38 : decode cX7_hangOn 38 = .ok (.ireturn, 1) := sorry
def dtX7_farOf_0_0 : List (Nat × Instr × Nat) := [(0, .aload_n 0, 1), (1, .iload_n 1, 1), (2, .invokevirtual 322, 3), (5, .ifCond .ne 5, 3), (8, .iconst 0, 1), (9, .ireturn, 1), (10, .aload_n 0, 1), (11, .aload_n 0, 1), (12, .iload_n 1, 1), (13, .invokevirtual 289, 3), (16, .invokevirtual 380, 3), (19, .istore_n 2, 1), (20, .aload_n 0, 1), (21, .iload_n 1, 1), (22, .invokevirtual 292, 3), (25, .ifCond .ge 7, 3), (28, .iconst 0, 1), (29, .goto 12, 3), (32, .aload_n 0, 1), (33, .aload_n 0, 1), (34, .iload_n 1, 1), (35, .invokevirtual 292, 3), (38, .invokevirtual 380, 3), (41, .istore_n 3, 1), (42, .iconst 1, 1), (43, .iload_n 2, 1), (44, .iload_n 3, 1), (45, .if_icmp .le 7, 3), (48, .iload_n 2, 1), (49, .goto 4, 3), (52, .iload_n 3, 1), (53, .iadd, 1)]
theorem dtX7_farOf_0_0_ok : dcAll cX7_farOf dtX7_farOf_0_0 = true := sorry
theorem dX7_farOf_0 : decode cX7_farOf 0 = .ok (.aload_n 0, 1) := sorry
theorem dX7_farOf_1 : decode cX7_farOf 1 = .ok (.iload_n 1, 1) := sorry
theorem dX7_farOf_2 : decode cX7_farOf 2 = .ok (.invokevirtual 322, 3) := sorry
theorem dX7_farOf_5 : decode cX7_farOf 5 = .ok (.ifCond .ne 5, 3) := sorry
theorem dX7_farOf_8 : decode cX7_farOf 8 = .ok (.iconst 0, 1) := sorry
theorem dX7_farOf_9 : decode cX7_farOf 9 = .ok (.ireturn, 1) := sorry
theorem dX7_farOf_10 : decode cX7_farOf 10 = .ok (.aload_n 0, 1) := sorry
theorem dX7_farOf_11 : decode cX7_farOf 11 = .ok (.aload_n 0, 1) := sorry
theorem dX7_farOf_12 : decode cX7_farOf 12 = .ok (.iload_n 1, 1) := sorry
theorem dX7_farOf_13 : decode cX7_farOf 13 = .ok (.invokevirtual 289, 3) := sorry
theorem dX7_farOf_16 : decode cX7_farOf 16 = .ok (.invokevirtual 380, 3) := sorry
theorem dX7_farOf_19 : decode cX7_farOf 19 = .ok (.istore_n 2, 1) := sorry
theorem dX7_farOf_20 : decode cX7_farOf 20 = .ok (.aload_n 0, 1) := sorry
theorem dX7_farOf_21 : decode cX7_farOf 21 = .ok (.iload_n 1, 1) := sorry
theorem dX7_farOf_22 : decode cX7_farOf 22 = .ok (.invokevirtual 292, 3) := sorry
theorem dX7_farOf_25 : decode cX7_farOf 25 = .ok (.ifCond .ge 7, 3) := sorry
theorem dX7_farOf_28 : decode cX7_farOf 28 = .ok (.iconst 0, 1) := sorry
theorem dX7_farOf_29 : decode cX7_farOf 29 = .ok (.goto 12, 3) := sorry
theorem dX7_farOf_32 : decode cX7_farOf 32 = .ok (.aload_n 0, 1) := sorry
theorem dX7_farOf_33 : decode cX7_farOf 33 = .ok (.aload_n 0, 1) := sorry
theorem dX7_farOf_34 : decode cX7_farOf 34 = .ok (.iload_n 1, 1) := sorry
theorem dX7_farOf_35 : decode cX7_farOf 35 = .ok (.invokevirtual 292, 3) := sorry
theorem dX7_farOf_38 : decode cX7_farOf 38 = .ok (.invokevirtual 380, 3) := sorry
theorem dX7_farOf_41 : decode cX7_farOf 41 = .ok (.istore_n 3, 1) := sorry
theorem dX7_farOf_42 : decode cX7_farOf 42 = .ok (.iconst 1, 1) := sorry
theorem dX7_farOf_43 : decode cX7_farOf 43 = .ok (.iload_n 2, 1) := sorry
theorem dX7_farOf_44 : decode cX7_farOf 44 = .ok (.iload_n 3, 1) := sorry
theorem dX7_farOf_45 : decode cX7_farOf 45 = .ok (.if_icmp .le 7, 3) := sorry
theorem dX7_farOf_48 : decode cX7_farOf 48 = .ok (.iload_n 2, 1) := sorry
theorem dX7_farOf_49 : decode cX7_farOf 49 = .ok (.goto 4, 3) := sorry
theorem dX7_farOf_52 : decode cX7_farOf 52 = .ok (.iload_n 3, 1) := sorry
theorem dX7_farOf_53 : decode cX7_farOf 53 = .ok (.iadd, 1) := sorry
def dtX7_farOf_54_1 : List (Nat × Instr × Nat) := [(54, .ireturn, 1)]
theorem dtX7_farOf_54_1_ok : dcAll cX7_farOf dtX7_farOf_54_1 = true := sorry
theorem dX7_farOf_54 : decode cX7_farOf 54 = .ok (.ireturn, 1) := sorry
def dtX7_of_0_0 : List (Nat × Instr × Nat) := [(0, .aload_n 0, 1), (1, .iconst 0, 1), (2, .putfield 60, 3), (5, .aload_n 0, 1), (6, .iload_n 1, 1), (7, .invokevirtual 352, 3), (10, .ifCond .ne 5, 3), (13, .iconst (-1), 1), (14, .ireturn, 1), (15, .iload_n 2, 1), (16, .tableswitch 143 0 8 #[52, 58, 64, 70, 76, 82, 88, 94, 126], 52), (68, .aload_n 0, 1), (69, .iload_n 1, 1), (70, .invokevirtual 322, 3), (73, .ireturn, 1), (74, .aload_n 0, 1), (75, .iload_n 1, 1), (76, .invokevirtual 301, 3), (79, .ireturn, 1), (80, .aload_n 0, 1), (81, .iload_n 1, 1), (82, .invokevirtual 289, 3), (85, .ireturn, 1), (86, .aload_n 0, 1), (87, .iload_n 1, 1), (88, .invokevirtual 292, 3), (91, .ireturn, 1), (92, .aload_n 0, 1), (93, .iload_n 1, 1), (94, .invokevirtual 377, 3), (97, .ireturn, 1), (98, .aload_n 0, 1)]
theorem dtX7_of_0_0_ok : dcAll cX7_of dtX7_of_0_0 = true := sorry
theorem dX7_of_0 : decode cX7_of 0 = .ok (.aload_n 0, 1) := sorry
theorem dX7_of_1 : decode cX7_of 1 = .ok (.iconst 0, 1) := sorry
theorem dX7_of_2 : decode cX7_of 2 = .ok (.putfield 60, 3) := sorry
theorem dX7_of_5 : decode cX7_of 5 = .ok (.aload_n 0, 1) := sorry
theorem dX7_of_6 : decode cX7_of 6 = .ok (.iload_n 1, 1) := sorry
theorem dX7_of_7 : decode cX7_of 7 = .ok (.invokevirtual 352, 3) := sorry
theorem dX7_of_10 : decode cX7_of 10 = .ok (.ifCond .ne 5, 3) := sorry
theorem dX7_of_13 : decode cX7_of 13 = .ok (.iconst (-1), 1) := sorry
theorem dX7_of_14 : decode cX7_of 14 = .ok (.ireturn, 1) := sorry
theorem dX7_of_15 : decode cX7_of 15 = .ok (.iload_n 2, 1) := sorry
theorem dX7_of_16 : decode cX7_of 16 = .ok (.tableswitch 143 0 8 #[52, 58, 64, 70, 76, 82, 88, 94, 126], 52) := sorry
theorem dX7_of_68 : decode cX7_of 68 = .ok (.aload_n 0, 1) := sorry
theorem dX7_of_69 : decode cX7_of 69 = .ok (.iload_n 1, 1) := sorry
theorem dX7_of_70 : decode cX7_of 70 = .ok (.invokevirtual 322, 3) := sorry
theorem dX7_of_73 : decode cX7_of 73 = .ok (.ireturn, 1) := sorry
theorem dX7_of_74 : decode cX7_of 74 = .ok (.aload_n 0, 1) := sorry
theorem dX7_of_75 : decode cX7_of 75 = .ok (.iload_n 1, 1) := sorry
theorem dX7_of_76 : decode cX7_of 76 = .ok (.invokevirtual 301, 3) := sorry
theorem dX7_of_79 : decode cX7_of 79 = .ok (.ireturn, 1) := sorry
theorem dX7_of_80 : decode cX7_of 80 = .ok (.aload_n 0, 1) := sorry
theorem dX7_of_81 : decode cX7_of 81 = .ok (.iload_n 1, 1) := sorry
theorem dX7_of_82 : decode cX7_of 82 = .ok (.invokevirtual 289, 3) := sorry
theorem dX7_of_85 : decode cX7_of 85 = .ok (.ireturn, 1) := sorry
theorem dX7_of_86 : decode cX7_of 86 = .ok (.aload_n 0, 1) := sorry
theorem dX7_of_87 : decode cX7_of 87 = .ok (.iload_n 1, 1) := sorry
theorem dX7_of_88 : decode cX7_of 88 = .ok (.invokevirtual 292, 3) := sorry
theorem dX7_of_91 : decode cX7_of 91 = .ok (.ireturn, 1) := sorry
theorem dX7_of_92 : decode cX7_of 92 = .ok (.aload_n 0, 1) := sorry
theorem dX7_of_93 : decode cX7_of 93 = .ok (.iload_n 1, 1) := sorry
theorem dX7_of_94 : decode cX7_of 94 = .ok (.invokevirtual 377, 3) := sorry
theorem dX7_of_97 : decode cX7_of 97 = .ok (.ireturn, 1) := sorry
theorem dX7_of_98 : decode cX7_of 98 = .ok (.aload_n 0, 1) := sorry
def dtX7_of_99_1 : List (Nat × Instr × Nat) := [(99, .iload_n 1, 1), (100, .invokevirtual 383, 3), (103, .ireturn, 1), (104, .aload_n 0, 1), (105, .iload_n 1, 1), (106, .invokevirtual 380, 3), (109, .ireturn, 1), (110, .aload_n 0, 1), (111, .getfield 13, 3), (114, .iload_n 1, 1), (115, .laload, 1), (116, .lstore_n 3, 1), (117, .lload_n 3, 1), (118, .ldc2_w 115, 3), (121, .lcmp, 1), (122, .ifCond .lt 12, 3), (125, .lload_n 3, 1), (126, .ldc2_w 115, 3), (129, .ldiv, 1), (130, .lstore_n 3, 1), (131, .goto (-14), 3), (134, .lload_n 3, 1), (135, .l2i, 1), (136, .bipush 97, 2), (138, .isub, 1), (139, .iconst 1, 1), (140, .iadd, 1), (141, .ireturn, 1), (142, .aload_n 0, 1), (143, .getfield 13, 3), (146, .iload_n 1, 1), (147, .laload, 1)]
theorem dtX7_of_99_1_ok : dcAll cX7_of dtX7_of_99_1 = true := sorry
theorem dX7_of_99 : decode cX7_of 99 = .ok (.iload_n 1, 1) := sorry
theorem dX7_of_100 : decode cX7_of 100 = .ok (.invokevirtual 383, 3) := sorry
theorem dX7_of_103 : decode cX7_of 103 = .ok (.ireturn, 1) := sorry
theorem dX7_of_104 : decode cX7_of 104 = .ok (.aload_n 0, 1) := sorry
theorem dX7_of_105 : decode cX7_of 105 = .ok (.iload_n 1, 1) := sorry
theorem dX7_of_106 : decode cX7_of 106 = .ok (.invokevirtual 380, 3) := sorry
theorem dX7_of_109 : decode cX7_of 109 = .ok (.ireturn, 1) := sorry
theorem dX7_of_110 : decode cX7_of 110 = .ok (.aload_n 0, 1) := sorry
theorem dX7_of_111 : decode cX7_of 111 = .ok (.getfield 13, 3) := sorry
theorem dX7_of_114 : decode cX7_of 114 = .ok (.iload_n 1, 1) := sorry
theorem dX7_of_115 : decode cX7_of 115 = .ok (.laload, 1) := sorry
theorem dX7_of_116 : decode cX7_of 116 = .ok (.lstore_n 3, 1) := sorry
theorem dX7_of_117 : decode cX7_of 117 = .ok (.lload_n 3, 1) := sorry
theorem dX7_of_118 : decode cX7_of 118 = .ok (.ldc2_w 115, 3) := sorry
theorem dX7_of_121 : decode cX7_of 121 = .ok (.lcmp, 1) := sorry
theorem dX7_of_122 : decode cX7_of 122 = .ok (.ifCond .lt 12, 3) := sorry
theorem dX7_of_125 : decode cX7_of 125 = .ok (.lload_n 3, 1) := sorry
theorem dX7_of_126 : decode cX7_of 126 = .ok (.ldc2_w 115, 3) := sorry
theorem dX7_of_129 : decode cX7_of 129 = .ok (.ldiv, 1) := sorry
theorem dX7_of_130 : decode cX7_of 130 = .ok (.lstore_n 3, 1) := sorry
theorem dX7_of_131 : decode cX7_of 131 = .ok (.goto (-14), 3) := sorry
theorem dX7_of_134 : decode cX7_of 134 = .ok (.lload_n 3, 1) := sorry
theorem dX7_of_135 : decode cX7_of 135 = .ok (.l2i, 1) := sorry
theorem dX7_of_136 : decode cX7_of 136 = .ok (.bipush 97, 2) := sorry
theorem dX7_of_138 : decode cX7_of 138 = .ok (.isub, 1) := sorry
theorem dX7_of_139 : decode cX7_of 139 = .ok (.iconst 1, 1) := sorry
theorem dX7_of_140 : decode cX7_of 140 = .ok (.iadd, 1) := sorry
theorem dX7_of_141 : decode cX7_of 141 = .ok (.ireturn, 1) := sorry
theorem dX7_of_142 : decode cX7_of 142 = .ok (.aload_n 0, 1) := sorry
theorem dX7_of_143 : decode cX7_of 143 = .ok (.getfield 13, 3) := sorry
theorem dX7_of_146 : decode cX7_of 146 = .ok (.iload_n 1, 1) := sorry
theorem dX7_of_147 : decode cX7_of 147 = .ok (.laload, 1) := sorry
def dtX7_of_148_2 : List (Nat × Instr × Nat) := [(148, .ldc2_w 115, 3), (151, .lrem, 1), (152, .l2i, 1), (153, .bipush 97, 2), (155, .isub, 1), (156, .iconst 1, 1), (157, .iadd, 1), (158, .ireturn, 1), (159, .iconst (-1), 1), (160, .ireturn, 1)]
theorem dtX7_of_148_2_ok : dcAll cX7_of dtX7_of_148_2 = true := sorry
theorem dX7_of_148 : decode cX7_of 148 = .ok (.ldc2_w 115, 3) := sorry
theorem dX7_of_151 : decode cX7_of 151 = .ok (.lrem, 1) := sorry
theorem dX7_of_152 : decode cX7_of 152 = .ok (.l2i, 1) := sorry
theorem dX7_of_153 : decode cX7_of 153 = .ok (.bipush 97, 2) := sorry
theorem dX7_of_155 : decode cX7_of 155 = .ok (.isub, 1) := sorry
theorem dX7_of_156 : decode cX7_of 156 = .ok (.iconst 1, 1) := sorry
theorem dX7_of_157 : decode cX7_of 157 = .ok (.iadd, 1) := sorry
theorem dX7_of_158 : decode cX7_of 158 = .ok (.ireturn, 1) := sorry
theorem dX7_of_159 : decode cX7_of 159 = .ok (.iconst (-1), 1) := sorry
theorem dX7_of_160 : decode cX7_of 160 = .ok (.ireturn, 1) := sorry
def dtX7_column__0_0 : List (Nat × Instr × Nat) := [(0, .aload_n 0, 1), (1, .aload_n 0, 1), (2, .iload_n 1, 1), (3, .invokevirtual 352, 3), (6, .ifCond .eq 45, 3), (9, .iload_n 2, 1), (10, .iconst 0, 1), (11, .aload_n 0, 1), (12, .iload_n 1, 1), (13, .invokevirtual 301, 3), (16, .iconst 1, 1), (17, .isub, 1), (18, .invokestatic 67, 3), (21, .ifCond .eq 30, 3), (24, .iload_n 3, 1), (25, .iconst 0, 1), (26, .iconst 2, 1), (27, .invokestatic 67, 3), (30, .ifCond .eq 21, 3), (33, .iload_n 3, 1), (34, .iconst 2, 1), (35, .if_icmp .eq 12, 3), (38, .aload_n 0, 1), (39, .iconst 0, 1), (40, .iload_n 1, 1), (41, .invokevirtual 295, 3), (44, .ifCond .le 7, 3), (47, .iconst 0, 1), (48, .goto 4, 3), (51, .iconst 1, 1), (52, .putfield 60, 3), (55, .aload_n 0, 1)]
theorem dtX7_column__0_0_ok : dcAll cX7_column_ dtX7_column__0_0 = true := sorry
theorem dX7_column__0 : decode cX7_column_ 0 = .ok (.aload_n 0, 1) := sorry
theorem dX7_column__1 : decode cX7_column_ 1 = .ok (.aload_n 0, 1) := sorry
theorem dX7_column__2 : decode cX7_column_ 2 = .ok (.iload_n 1, 1) := sorry
theorem dX7_column__3 : decode cX7_column_ 3 = .ok (.invokevirtual 352, 3) := sorry
theorem dX7_column__6 : decode cX7_column_ 6 = .ok (.ifCond .eq 45, 3) := sorry
theorem dX7_column__9 : decode cX7_column_ 9 = .ok (.iload_n 2, 1) := sorry
theorem dX7_column__10 : decode cX7_column_ 10 = .ok (.iconst 0, 1) := sorry
theorem dX7_column__11 : decode cX7_column_ 11 = .ok (.aload_n 0, 1) := sorry
theorem dX7_column__12 : decode cX7_column_ 12 = .ok (.iload_n 1, 1) := sorry
theorem dX7_column__13 : decode cX7_column_ 13 = .ok (.invokevirtual 301, 3) := sorry
theorem dX7_column__16 : decode cX7_column_ 16 = .ok (.iconst 1, 1) := sorry
theorem dX7_column__17 : decode cX7_column_ 17 = .ok (.isub, 1) := sorry
theorem dX7_column__18 : decode cX7_column_ 18 = .ok (.invokestatic 67, 3) := sorry
theorem dX7_column__21 : decode cX7_column_ 21 = .ok (.ifCond .eq 30, 3) := sorry
theorem dX7_column__24 : decode cX7_column_ 24 = .ok (.iload_n 3, 1) := sorry
theorem dX7_column__25 : decode cX7_column_ 25 = .ok (.iconst 0, 1) := sorry
theorem dX7_column__26 : decode cX7_column_ 26 = .ok (.iconst 2, 1) := sorry
theorem dX7_column__27 : decode cX7_column_ 27 = .ok (.invokestatic 67, 3) := sorry
theorem dX7_column__30 : decode cX7_column_ 30 = .ok (.ifCond .eq 21, 3) := sorry
theorem dX7_column__33 : decode cX7_column_ 33 = .ok (.iload_n 3, 1) := sorry
theorem dX7_column__34 : decode cX7_column_ 34 = .ok (.iconst 2, 1) := sorry
theorem dX7_column__35 : decode cX7_column_ 35 = .ok (.if_icmp .eq 12, 3) := sorry
theorem dX7_column__38 : decode cX7_column_ 38 = .ok (.aload_n 0, 1) := sorry
theorem dX7_column__39 : decode cX7_column_ 39 = .ok (.iconst 0, 1) := sorry
theorem dX7_column__40 : decode cX7_column_ 40 = .ok (.iload_n 1, 1) := sorry
theorem dX7_column__41 : decode cX7_column_ 41 = .ok (.invokevirtual 295, 3) := sorry
theorem dX7_column__44 : decode cX7_column_ 44 = .ok (.ifCond .le 7, 3) := sorry
theorem dX7_column__47 : decode cX7_column_ 47 = .ok (.iconst 0, 1) := sorry
theorem dX7_column__48 : decode cX7_column_ 48 = .ok (.goto 4, 3) := sorry
theorem dX7_column__51 : decode cX7_column_ 51 = .ok (.iconst 1, 1) := sorry
theorem dX7_column__52 : decode cX7_column_ 52 = .ok (.putfield 60, 3) := sorry
theorem dX7_column__55 : decode cX7_column_ 55 = .ok (.aload_n 0, 1) := sorry
def dtX7_column__56_1 : List (Nat × Instr × Nat) := [(56, .getfield 60, 3), (59, .iconst 1, 1), (60, .if_icmp .ne 5, 3), (63, .iconst 0, 1), (64, .ireturn, 1), (65, .ldc_w 388, 3), (68, .istore 4, 2), (70, .ldc_w 389, 3), (73, .istore 5, 2), (75, .iconst 0, 1), (76, .istore 6, 2), (78, .iconst 0, 1), (79, .istore 7, 2), (81, .iload 7, 2), (83, .aload_n 0, 1), (84, .iconst 0, 1), (85, .iload_n 1, 1), (86, .invokevirtual 295, 3), (89, .if_icmp .ge 105, 3), (92, .aload_n 0, 1), (93, .getfield 24, 3), (96, .iconst 0, 1), (97, .iload_n 1, 1), (98, .iload 7, 2), (100, .invokestatic 279, 3), (103, .iload_n 2, 1), (104, .iadd, 1), (105, .iaload, 1), (106, .istore 8, 2), (108, .iload 8, 2), (110, .iload 4, 2), (112, .if_icmp .ge 7, 3)]
theorem dtX7_column__56_1_ok : dcAll cX7_column_ dtX7_column__56_1 = true := sorry
theorem dX7_column__56 : decode cX7_column_ 56 = .ok (.getfield 60, 3) := sorry
theorem dX7_column__59 : decode cX7_column_ 59 = .ok (.iconst 1, 1) := sorry
theorem dX7_column__60 : decode cX7_column_ 60 = .ok (.if_icmp .ne 5, 3) := sorry
theorem dX7_column__63 : decode cX7_column_ 63 = .ok (.iconst 0, 1) := sorry
theorem dX7_column__64 : decode cX7_column_ 64 = .ok (.ireturn, 1) := sorry
theorem dX7_column__65 : decode cX7_column_ 65 = .ok (.ldc_w 388, 3) := sorry
theorem dX7_column__68 : decode cX7_column_ 68 = .ok (.istore 4, 2) := sorry
theorem dX7_column__70 : decode cX7_column_ 70 = .ok (.ldc_w 389, 3) := sorry
theorem dX7_column__73 : decode cX7_column_ 73 = .ok (.istore 5, 2) := sorry
theorem dX7_column__75 : decode cX7_column_ 75 = .ok (.iconst 0, 1) := sorry
theorem dX7_column__76 : decode cX7_column_ 76 = .ok (.istore 6, 2) := sorry
theorem dX7_column__78 : decode cX7_column_ 78 = .ok (.iconst 0, 1) := sorry
theorem dX7_column__79 : decode cX7_column_ 79 = .ok (.istore 7, 2) := sorry
theorem dX7_column__81 : decode cX7_column_ 81 = .ok (.iload 7, 2) := sorry
theorem dX7_column__83 : decode cX7_column_ 83 = .ok (.aload_n 0, 1) := sorry
theorem dX7_column__84 : decode cX7_column_ 84 = .ok (.iconst 0, 1) := sorry
theorem dX7_column__85 : decode cX7_column_ 85 = .ok (.iload_n 1, 1) := sorry
theorem dX7_column__86 : decode cX7_column_ 86 = .ok (.invokevirtual 295, 3) := sorry
theorem dX7_column__89 : decode cX7_column_ 89 = .ok (.if_icmp .ge 105, 3) := sorry
theorem dX7_column__92 : decode cX7_column_ 92 = .ok (.aload_n 0, 1) := sorry
theorem dX7_column__93 : decode cX7_column_ 93 = .ok (.getfield 24, 3) := sorry
theorem dX7_column__96 : decode cX7_column_ 96 = .ok (.iconst 0, 1) := sorry
theorem dX7_column__97 : decode cX7_column_ 97 = .ok (.iload_n 1, 1) := sorry
theorem dX7_column__98 : decode cX7_column_ 98 = .ok (.iload 7, 2) := sorry
theorem dX7_column__100 : decode cX7_column_ 100 = .ok (.invokestatic 279, 3) := sorry
theorem dX7_column__103 : decode cX7_column_ 103 = .ok (.iload_n 2, 1) := sorry
theorem dX7_column__104 : decode cX7_column_ 104 = .ok (.iadd, 1) := sorry
theorem dX7_column__105 : decode cX7_column_ 105 = .ok (.iaload, 1) := sorry
theorem dX7_column__106 : decode cX7_column_ 106 = .ok (.istore 8, 2) := sorry
theorem dX7_column__108 : decode cX7_column_ 108 = .ok (.iload 8, 2) := sorry
theorem dX7_column__110 : decode cX7_column_ 110 = .ok (.iload 4, 2) := sorry
theorem dX7_column__112 : decode cX7_column_ 112 = .ok (.if_icmp .ge 7, 3) := sorry
def dtX7_column__115_2 : List (Nat × Instr × Nat) := [(115, .iload 8, 2), (117, .istore 4, 2), (119, .iload 8, 2), (121, .iload 5, 2), (123, .if_icmp .le 7, 3), (126, .iload 8, 2), (128, .istore 5, 2), (130, .iconst 1, 1), (131, .istore 9, 2), (133, .iconst 0, 1), (134, .istore 10, 2), (136, .iload 10, 2), (138, .iload 7, 2), (140, .if_icmp .ge 40, 3), (143, .iload 9, 2), (145, .ifCond .eq 26, 3), (148, .aload_n 0, 1), (149, .getfield 24, 3), (152, .iconst 0, 1), (153, .iload_n 1, 1), (154, .iload 10, 2), (156, .invokestatic 279, 3), (159, .iload_n 2, 1), (160, .iadd, 1), (161, .iaload, 1), (162, .iload 8, 2), (164, .if_icmp .eq 7, 3), (167, .iconst 1, 1), (168, .goto 4, 3), (171, .iconst 0, 1), (172, .istore 9, 2), (174, .iinc 10 1, 3)]
theorem dtX7_column__115_2_ok : dcAll cX7_column_ dtX7_column__115_2 = true := sorry
theorem dX7_column__115 : decode cX7_column_ 115 = .ok (.iload 8, 2) := sorry
theorem dX7_column__117 : decode cX7_column_ 117 = .ok (.istore 4, 2) := sorry
theorem dX7_column__119 : decode cX7_column_ 119 = .ok (.iload 8, 2) := sorry
theorem dX7_column__121 : decode cX7_column_ 121 = .ok (.iload 5, 2) := sorry
theorem dX7_column__123 : decode cX7_column_ 123 = .ok (.if_icmp .le 7, 3) := sorry
theorem dX7_column__126 : decode cX7_column_ 126 = .ok (.iload 8, 2) := sorry
theorem dX7_column__128 : decode cX7_column_ 128 = .ok (.istore 5, 2) := sorry
theorem dX7_column__130 : decode cX7_column_ 130 = .ok (.iconst 1, 1) := sorry
theorem dX7_column__131 : decode cX7_column_ 131 = .ok (.istore 9, 2) := sorry
theorem dX7_column__133 : decode cX7_column_ 133 = .ok (.iconst 0, 1) := sorry
theorem dX7_column__134 : decode cX7_column_ 134 = .ok (.istore 10, 2) := sorry
theorem dX7_column__136 : decode cX7_column_ 136 = .ok (.iload 10, 2) := sorry
theorem dX7_column__138 : decode cX7_column_ 138 = .ok (.iload 7, 2) := sorry
theorem dX7_column__140 : decode cX7_column_ 140 = .ok (.if_icmp .ge 40, 3) := sorry
theorem dX7_column__143 : decode cX7_column_ 143 = .ok (.iload 9, 2) := sorry
theorem dX7_column__145 : decode cX7_column_ 145 = .ok (.ifCond .eq 26, 3) := sorry
theorem dX7_column__148 : decode cX7_column_ 148 = .ok (.aload_n 0, 1) := sorry
theorem dX7_column__149 : decode cX7_column_ 149 = .ok (.getfield 24, 3) := sorry
theorem dX7_column__152 : decode cX7_column_ 152 = .ok (.iconst 0, 1) := sorry
theorem dX7_column__153 : decode cX7_column_ 153 = .ok (.iload_n 1, 1) := sorry
theorem dX7_column__154 : decode cX7_column_ 154 = .ok (.iload 10, 2) := sorry
theorem dX7_column__156 : decode cX7_column_ 156 = .ok (.invokestatic 279, 3) := sorry
theorem dX7_column__159 : decode cX7_column_ 159 = .ok (.iload_n 2, 1) := sorry
theorem dX7_column__160 : decode cX7_column_ 160 = .ok (.iadd, 1) := sorry
theorem dX7_column__161 : decode cX7_column_ 161 = .ok (.iaload, 1) := sorry
theorem dX7_column__162 : decode cX7_column_ 162 = .ok (.iload 8, 2) := sorry
theorem dX7_column__164 : decode cX7_column_ 164 = .ok (.if_icmp .eq 7, 3) := sorry
theorem dX7_column__167 : decode cX7_column_ 167 = .ok (.iconst 1, 1) := sorry
theorem dX7_column__168 : decode cX7_column_ 168 = .ok (.goto 4, 3) := sorry
theorem dX7_column__171 : decode cX7_column_ 171 = .ok (.iconst 0, 1) := sorry
theorem dX7_column__172 : decode cX7_column_ 172 = .ok (.istore 9, 2) := sorry
theorem dX7_column__174 : decode cX7_column_ 174 = .ok (.iinc 10 1, 3) := sorry
def dtX7_column__177_3 : List (Nat × Instr × Nat) := [(177, .goto (-41), 3), (180, .iload 9, 2), (182, .ifCond .eq 6, 3), (185, .iinc 6 1, 3), (188, .iinc 7 1, 3), (191, .goto (-110), 3), (194, .iload_n 3, 1), (195, .ifCond .ne 8, 3), (198, .iload 4, 2), (200, .goto 15, 3), (203, .iload_n 3, 1), (204, .iconst 1, 1), (205, .if_icmp .ne 8, 3), (208, .iload 5, 2), (210, .goto 5, 3), (213, .iload 6, 2), (215, .ireturn, 1)]
theorem dtX7_column__177_3_ok : dcAll cX7_column_ dtX7_column__177_3 = true := sorry
theorem dX7_column__177 : decode cX7_column_ 177 = .ok (.goto (-41), 3) := sorry
theorem dX7_column__180 : decode cX7_column_ 180 = .ok (.iload 9, 2) := sorry
theorem dX7_column__182 : decode cX7_column_ 182 = .ok (.ifCond .eq 6, 3) := sorry
theorem dX7_column__185 : decode cX7_column_ 185 = .ok (.iinc 6 1, 3) := sorry
theorem dX7_column__188 : decode cX7_column_ 188 = .ok (.iinc 7 1, 3) := sorry
theorem dX7_column__191 : decode cX7_column_ 191 = .ok (.goto (-110), 3) := sorry
theorem dX7_column__194 : decode cX7_column_ 194 = .ok (.iload_n 3, 1) := sorry
theorem dX7_column__195 : decode cX7_column_ 195 = .ok (.ifCond .ne 8, 3) := sorry
theorem dX7_column__198 : decode cX7_column_ 198 = .ok (.iload 4, 2) := sorry
theorem dX7_column__200 : decode cX7_column_ 200 = .ok (.goto 15, 3) := sorry
theorem dX7_column__203 : decode cX7_column_ 203 = .ok (.iload_n 3, 1) := sorry
theorem dX7_column__204 : decode cX7_column_ 204 = .ok (.iconst 1, 1) := sorry
theorem dX7_column__205 : decode cX7_column_ 205 = .ok (.if_icmp .ne 8, 3) := sorry
theorem dX7_column__208 : decode cX7_column_ 208 = .ok (.iload 5, 2) := sorry
theorem dX7_column__210 : decode cX7_column_ 210 = .ok (.goto 5, 3) := sorry
theorem dX7_column__213 : decode cX7_column_ 213 = .ok (.iload 6, 2) := sorry
theorem dX7_column__215 : decode cX7_column_ 215 = .ok (.ireturn, 1) := sorry
def dtX7_told_0_0 : List (Nat × Instr × Nat) := [(0, .aload_n 0, 1), (1, .iconst 0, 1), (2, .putfield 60, 3), (5, .iconst 0, 1), (6, .istore_n 2, 1), (7, .iload_n 1, 1), (8, .tableswitch 160 0 9 #[56, 61, 71, 76, 81, 86, 91, 121, 126, 155], 56), (64, .aload_n 0, 1), (65, .invokevirtual 343, 3), (68, .ireturn, 1), (69, .aload_n 0, 1), (70, .getfield 64, 3), (73, .aload_n 0, 1), (74, .invokevirtual 343, 3), (77, .isub, 1), (78, .ireturn, 1), (79, .aload_n 0, 1), (80, .getfield 260, 3), (83, .ireturn, 1), (84, .aload_n 0, 1), (85, .getfield 263, 3), (88, .ireturn, 1), (89, .aload_n 0, 1), (90, .getfield 257, 3), (93, .ireturn, 1), (94, .aload_n 0, 1), (95, .getfield 266, 3), (98, .ireturn, 1), (99, .aload_n 0, 1), (100, .invokevirtual 343, 3), (103, .istore_n 3, 1), (104, .iload_n 3, 1)]
theorem dtX7_told_0_0_ok : dcAll cX7_told dtX7_told_0_0 = true := sorry
theorem dX7_told_0 : decode cX7_told 0 = .ok (.aload_n 0, 1) := sorry
theorem dX7_told_1 : decode cX7_told 1 = .ok (.iconst 0, 1) := sorry
theorem dX7_told_2 : decode cX7_told 2 = .ok (.putfield 60, 3) := sorry
theorem dX7_told_5 : decode cX7_told 5 = .ok (.iconst 0, 1) := sorry
theorem dX7_told_6 : decode cX7_told 6 = .ok (.istore_n 2, 1) := sorry
theorem dX7_told_7 : decode cX7_told 7 = .ok (.iload_n 1, 1) := sorry
theorem dX7_told_8 : decode cX7_told 8 = .ok (.tableswitch 160 0 9 #[56, 61, 71, 76, 81, 86, 91, 121, 126, 155], 56) := sorry
theorem dX7_told_64 : decode cX7_told 64 = .ok (.aload_n 0, 1) := sorry
theorem dX7_told_65 : decode cX7_told 65 = .ok (.invokevirtual 343, 3) := sorry
theorem dX7_told_68 : decode cX7_told 68 = .ok (.ireturn, 1) := sorry
theorem dX7_told_69 : decode cX7_told 69 = .ok (.aload_n 0, 1) := sorry
theorem dX7_told_70 : decode cX7_told 70 = .ok (.getfield 64, 3) := sorry
theorem dX7_told_73 : decode cX7_told 73 = .ok (.aload_n 0, 1) := sorry
theorem dX7_told_74 : decode cX7_told 74 = .ok (.invokevirtual 343, 3) := sorry
theorem dX7_told_77 : decode cX7_told 77 = .ok (.isub, 1) := sorry
theorem dX7_told_78 : decode cX7_told 78 = .ok (.ireturn, 1) := sorry
theorem dX7_told_79 : decode cX7_told 79 = .ok (.aload_n 0, 1) := sorry
theorem dX7_told_80 : decode cX7_told 80 = .ok (.getfield 260, 3) := sorry
theorem dX7_told_83 : decode cX7_told 83 = .ok (.ireturn, 1) := sorry
theorem dX7_told_84 : decode cX7_told 84 = .ok (.aload_n 0, 1) := sorry
theorem dX7_told_85 : decode cX7_told 85 = .ok (.getfield 263, 3) := sorry
theorem dX7_told_88 : decode cX7_told 88 = .ok (.ireturn, 1) := sorry
theorem dX7_told_89 : decode cX7_told 89 = .ok (.aload_n 0, 1) := sorry
theorem dX7_told_90 : decode cX7_told 90 = .ok (.getfield 257, 3) := sorry
theorem dX7_told_93 : decode cX7_told 93 = .ok (.ireturn, 1) := sorry
theorem dX7_told_94 : decode cX7_told 94 = .ok (.aload_n 0, 1) := sorry
theorem dX7_told_95 : decode cX7_told 95 = .ok (.getfield 266, 3) := sorry
theorem dX7_told_98 : decode cX7_told 98 = .ok (.ireturn, 1) := sorry
theorem dX7_told_99 : decode cX7_told 99 = .ok (.aload_n 0, 1) := sorry
theorem dX7_told_100 : decode cX7_told 100 = .ok (.invokevirtual 343, 3) := sorry
theorem dX7_told_103 : decode cX7_told 103 = .ok (.istore_n 3, 1) := sorry
theorem dX7_told_104 : decode cX7_told 104 = .ok (.iload_n 3, 1) := sorry
def dtX7_told_105_1 : List (Nat × Instr × Nat) := [(105, .aload_n 0, 1), (106, .getfield 64, 3), (109, .if_icmp .ge 18, 3), (112, .iload_n 2, 1), (113, .aload_n 0, 1), (114, .iconst 0, 1), (115, .iload_n 3, 1), (116, .invokevirtual 295, 3), (119, .iadd, 1), (120, .istore_n 2, 1), (121, .iinc 3 1, 3), (124, .goto (-20), 3), (127, .iload_n 2, 1), (128, .ireturn, 1), (129, .aload_n 0, 1), (130, .invokevirtual 361, 3), (133, .ireturn, 1), (134, .aload_n 0, 1), (135, .invokevirtual 343, 3), (138, .istore_n 3, 1), (139, .iload_n 3, 1), (140, .aload_n 0, 1), (141, .getfield 64, 3), (144, .if_icmp .ge 17, 3), (147, .iload_n 2, 1), (148, .aload_n 0, 1), (149, .iload_n 3, 1), (150, .invokevirtual 374, 3), (153, .iadd, 1), (154, .istore_n 2, 1), (155, .iinc 3 1, 3), (158, .goto (-19), 3)]
theorem dtX7_told_105_1_ok : dcAll cX7_told dtX7_told_105_1 = true := sorry
theorem dX7_told_105 : decode cX7_told 105 = .ok (.aload_n 0, 1) := sorry
theorem dX7_told_106 : decode cX7_told 106 = .ok (.getfield 64, 3) := sorry
theorem dX7_told_109 : decode cX7_told 109 = .ok (.if_icmp .ge 18, 3) := sorry
theorem dX7_told_112 : decode cX7_told 112 = .ok (.iload_n 2, 1) := sorry
theorem dX7_told_113 : decode cX7_told 113 = .ok (.aload_n 0, 1) := sorry
theorem dX7_told_114 : decode cX7_told 114 = .ok (.iconst 0, 1) := sorry
theorem dX7_told_115 : decode cX7_told 115 = .ok (.iload_n 3, 1) := sorry
theorem dX7_told_116 : decode cX7_told 116 = .ok (.invokevirtual 295, 3) := sorry
theorem dX7_told_119 : decode cX7_told 119 = .ok (.iadd, 1) := sorry
theorem dX7_told_120 : decode cX7_told 120 = .ok (.istore_n 2, 1) := sorry
theorem dX7_told_121 : decode cX7_told 121 = .ok (.iinc 3 1, 3) := sorry
theorem dX7_told_124 : decode cX7_told 124 = .ok (.goto (-20), 3) := sorry
theorem dX7_told_127 : decode cX7_told 127 = .ok (.iload_n 2, 1) := sorry
theorem dX7_told_128 : decode cX7_told 128 = .ok (.ireturn, 1) := sorry
theorem dX7_told_129 : decode cX7_told 129 = .ok (.aload_n 0, 1) := sorry
theorem dX7_told_130 : decode cX7_told 130 = .ok (.invokevirtual 361, 3) := sorry
theorem dX7_told_133 : decode cX7_told 133 = .ok (.ireturn, 1) := sorry
theorem dX7_told_134 : decode cX7_told 134 = .ok (.aload_n 0, 1) := sorry
theorem dX7_told_135 : decode cX7_told 135 = .ok (.invokevirtual 343, 3) := sorry
theorem dX7_told_138 : decode cX7_told 138 = .ok (.istore_n 3, 1) := sorry
theorem dX7_told_139 : decode cX7_told 139 = .ok (.iload_n 3, 1) := sorry
theorem dX7_told_140 : decode cX7_told 140 = .ok (.aload_n 0, 1) := sorry
theorem dX7_told_141 : decode cX7_told 141 = .ok (.getfield 64, 3) := sorry
theorem dX7_told_144 : decode cX7_told 144 = .ok (.if_icmp .ge 17, 3) := sorry
theorem dX7_told_147 : decode cX7_told 147 = .ok (.iload_n 2, 1) := sorry
theorem dX7_told_148 : decode cX7_told 148 = .ok (.aload_n 0, 1) := sorry
theorem dX7_told_149 : decode cX7_told 149 = .ok (.iload_n 3, 1) := sorry
theorem dX7_told_150 : decode cX7_told 150 = .ok (.invokevirtual 374, 3) := sorry
theorem dX7_told_153 : decode cX7_told 153 = .ok (.iadd, 1) := sorry
theorem dX7_told_154 : decode cX7_told 154 = .ok (.istore_n 2, 1) := sorry
theorem dX7_told_155 : decode cX7_told 155 = .ok (.iinc 3 1, 3) := sorry
theorem dX7_told_158 : decode cX7_told 158 = .ok (.goto (-19), 3) := sorry
def dtX7_told_161_2 : List (Nat × Instr × Nat) := [(161, .iload_n 2, 1), (162, .ireturn, 1), (163, .aload_n 0, 1), (164, .getfield 71, 3), (167, .ireturn, 1), (168, .iconst (-1), 1), (169, .ireturn, 1)]
theorem dtX7_told_161_2_ok : dcAll cX7_told dtX7_told_161_2 = true := sorry
theorem dX7_told_161 : decode cX7_told 161 = .ok (.iload_n 2, 1) := sorry
theorem dX7_told_162 : decode cX7_told 162 = .ok (.ireturn, 1) := sorry
theorem dX7_told_163 : decode cX7_told 163 = .ok (.aload_n 0, 1) := sorry
theorem dX7_told_164 : decode cX7_told 164 = .ok (.getfield 71, 3) := sorry
theorem dX7_told_167 : decode cX7_told 167 = .ok (.ireturn, 1) := sorry
theorem dX7_told_168 : decode cX7_told 168 = .ok (.iconst (-1), 1) := sorry
theorem dX7_told_169 : decode cX7_told 169 = .ok (.ireturn, 1) := sorry
def dtJ11_isValidCodePoint_9a6ad_0_0 : List (Nat × Instr × Nat) := [(0, .iload_n 0, 1), (1, .bipush 16, 2), (3, .iushr, 1), (4, .istore_n 1, 1), (5, .iload_n 1, 1), (6, .bipush 17, 2), (8, .if_icmp .ge 7, 3), (11, .iconst 1, 1), (12, .goto 4, 3), (15, .iconst 0, 1), (16, .ireturn, 1)]
theorem dtJ11_isValidCodePoint_9a6ad_0_0_ok : dcAll cJ11_isValidCodePoint_9a6ad dtJ11_isValidCodePoint_9a6ad_0_0 = true := sorry
theorem dJ11_isValidCodePoint_9a6ad_0 : decode cJ11_isValidCodePoint_9a6ad 0 = .ok (.iload_n 0, 1) := sorry
theorem dJ11_isValidCodePoint_9a6ad_1 : decode cJ11_isValidCodePoint_9a6ad 1 = .ok (.bipush 16, 2) := sorry
theorem dJ11_isValidCodePoint_9a6ad_3 : decode cJ11_isValidCodePoint_9a6ad 3 = .ok (.iushr, 1) := sorry
theorem dJ11_isValidCodePoint_9a6ad_4 : decode cJ11_isValidCodePoint_9a6ad 4 = .ok (.istore_n 1, 1) := sorry
theorem dJ11_isValidCodePoint_9a6ad_5 : decode cJ11_isValidCodePoint_9a6ad 5 = .ok (.iload_n 1, 1) := sorry
theorem dJ11_isValidCodePoint_9a6ad_6 : decode cJ11_isValidCodePoint_9a6ad 6 = .ok (.bipush 17, 2) := sorry
theorem dJ11_isValidCodePoint_9a6ad_8 : decode cJ11_isValidCodePoint_9a6ad 8 = .ok (.if_icmp .ge 7, 3) := sorry
theorem dJ11_isValidCodePoint_9a6ad_11 : decode cJ11_isValidCodePoint_9a6ad 11 = .ok (.iconst 1, 1) := sorry
theorem dJ11_isValidCodePoint_9a6ad_12 : decode cJ11_isValidCodePoint_9a6ad 12 = .ok (.goto 4, 3) := sorry
theorem dJ11_isValidCodePoint_9a6ad_15 : decode cJ11_isValidCodePoint_9a6ad 15 = .ok (.iconst 0, 1) := sorry
theorem dJ11_isValidCodePoint_9a6ad_16 : decode cJ11_isValidCodePoint_9a6ad 16 = .ok (.ireturn, 1) := sorry
def dtJ11_highSurrogate_5068e_0_0 : List (Nat × Instr × Nat) := [(0, .iload_n 0, 1), (1, .bipush 10, 2), (3, .iushr, 1), (4, .ldc 110, 2), (6, .iadd, 1), (7, .i2c, 1), (8, .ireturn, 1)]
theorem dtJ11_highSurrogate_5068e_0_0_ok : dcAll cJ11_highSurrogate_5068e dtJ11_highSurrogate_5068e_0_0 = true := sorry
theorem dJ11_highSurrogate_5068e_0 : decode cJ11_highSurrogate_5068e 0 = .ok (.iload_n 0, 1) := sorry
theorem dJ11_highSurrogate_5068e_1 : decode cJ11_highSurrogate_5068e 1 = .ok (.bipush 10, 2) := sorry
theorem dJ11_highSurrogate_5068e_3 : decode cJ11_highSurrogate_5068e 3 = .ok (.iushr, 1) := sorry
theorem dJ11_highSurrogate_5068e_4 : decode cJ11_highSurrogate_5068e 4 = .ok (.ldc 110, 2) := sorry
theorem dJ11_highSurrogate_5068e_6 : decode cJ11_highSurrogate_5068e 6 = .ok (.iadd, 1) := sorry
theorem dJ11_highSurrogate_5068e_7 : decode cJ11_highSurrogate_5068e 7 = .ok (.i2c, 1) := sorry
theorem dJ11_highSurrogate_5068e_8 : decode cJ11_highSurrogate_5068e 8 = .ok (.ireturn, 1) := sorry
def dtJ11_lowSurrogate_5068e_0_0 : List (Nat × Instr × Nat) := [(0, .iload_n 0, 1), (1, .sipush 1023, 3), (4, .iand, 1), (5, .ldc 76, 2), (7, .iadd, 1), (8, .i2c, 1), (9, .ireturn, 1)]
theorem dtJ11_lowSurrogate_5068e_0_0_ok : dcAll cJ11_lowSurrogate_5068e dtJ11_lowSurrogate_5068e_0_0 = true := sorry
theorem dJ11_lowSurrogate_5068e_0 : decode cJ11_lowSurrogate_5068e 0 = .ok (.iload_n 0, 1) := sorry
theorem dJ11_lowSurrogate_5068e_1 : decode cJ11_lowSurrogate_5068e 1 = .ok (.sipush 1023, 3) := sorry
theorem dJ11_lowSurrogate_5068e_4 : decode cJ11_lowSurrogate_5068e 4 = .ok (.iand, 1) := sorry
theorem dJ11_lowSurrogate_5068e_5 : decode cJ11_lowSurrogate_5068e 5 = .ok (.ldc 76, 2) := sorry
theorem dJ11_lowSurrogate_5068e_7 : decode cJ11_lowSurrogate_5068e 7 = .ok (.iadd, 1) := sorry
theorem dJ11_lowSurrogate_5068e_8 : decode cJ11_lowSurrogate_5068e 8 = .ok (.i2c, 1) := sorry
theorem dJ11_lowSurrogate_5068e_9 : decode cJ11_lowSurrogate_5068e 9 = .ok (.ireturn, 1) := sorry
def dtJ9_max_7cf53_0_0 : List (Nat × Instr × Nat) := [(0, .iload_n 0, 1), (1, .iload_n 1, 1), (2, .if_icmp .lt 7, 3), (5, .iload_n 0, 1), (6, .goto 4, 3), (9, .iload_n 1, 1), (10, .ireturn, 1)]
theorem dtJ9_max_7cf53_0_0_ok : dcAll cJ9_max_7cf53 dtJ9_max_7cf53_0_0 = true := sorry
theorem dJ9_max_7cf53_0 : decode cJ9_max_7cf53 0 = .ok (.iload_n 0, 1) := sorry
theorem dJ9_max_7cf53_1 : decode cJ9_max_7cf53 1 = .ok (.iload_n 1, 1) := sorry
theorem dJ9_max_7cf53_2 : decode cJ9_max_7cf53 2 = .ok (.if_icmp .lt 7, 3) := sorry
theorem dJ9_max_7cf53_5 : decode cJ9_max_7cf53 5 = .ok (.iload_n 0, 1) := sorry
theorem dJ9_max_7cf53_6 : decode cJ9_max_7cf53 6 = .ok (.goto 4, 3) := sorry
theorem dJ9_max_7cf53_9 : decode cJ9_max_7cf53 9 = .ok (.iload_n 1, 1) := sorry
theorem dJ9_max_7cf53_10 : decode cJ9_max_7cf53 10 = .ok (.ireturn, 1) := sorry
def dtJ9_min_7cf53_0_0 : List (Nat × Instr × Nat) := [(0, .iload_n 0, 1), (1, .iload_n 1, 1), (2, .if_icmp .gt 7, 3), (5, .iload_n 0, 1), (6, .goto 4, 3), (9, .iload_n 1, 1), (10, .ireturn, 1)]
theorem dtJ9_min_7cf53_0_0_ok : dcAll cJ9_min_7cf53 dtJ9_min_7cf53_0_0 = true := sorry
theorem dJ9_min_7cf53_0 : decode cJ9_min_7cf53 0 = .ok (.iload_n 0, 1) := sorry
theorem dJ9_min_7cf53_1 : decode cJ9_min_7cf53 1 = .ok (.iload_n 1, 1) := sorry
theorem dJ9_min_7cf53_2 : decode cJ9_min_7cf53 2 = .ok (.if_icmp .gt 7, 3) := sorry
theorem dJ9_min_7cf53_5 : decode cJ9_min_7cf53 5 = .ok (.iload_n 0, 1) := sorry
theorem dJ9_min_7cf53_6 : decode cJ9_min_7cf53 6 = .ok (.goto 4, 3) := sorry
theorem dJ9_min_7cf53_9 : decode cJ9_min_7cf53 9 = .ok (.iload_n 1, 1) := sorry
theorem dJ9_min_7cf53_10 : decode cJ9_min_7cf53 10 = .ok (.ireturn, 1) := sorry
set_option maxRecDepth 20000 in
theorem ggJ0_length_8abf5_J0_coder_7d493 : GoodIn wsJ0_length_8abf5 wsJ0_coder_7d493 := sorry
set_option maxRecDepth 20000 in
theorem gJ0_length_8abf5_J0_coder_7d493 : GoodIn wsJ0_length_8abf5 (wsV RJ0 335 RJ0 yJ0_coder_7d493 wsJ0_coder_7d493) := sorry
def dtJ0_length_8abf5_0_0 : List (Nat × Instr × Nat) := [(0, .aload_n 0, 1), (1, .getfield 9, 3), (4, .arraylength, 1), (5, .aload_n 0, 1), (6, .invokevirtual 335, 3), (9, .ishr, 1), (10, .ireturn, 1)]
theorem dtJ0_length_8abf5_0_0_ok : dcAll cJ0_length_8abf5 dtJ0_length_8abf5_0_0 = true := sorry
theorem dJ0_length_8abf5_0 : decode cJ0_length_8abf5 0 = .ok (.aload_n 0, 1) := sorry
theorem dJ0_length_8abf5_1 : decode cJ0_length_8abf5 1 = .ok (.getfield 9, 3) := sorry
theorem dJ0_length_8abf5_4 : decode cJ0_length_8abf5 4 = .ok (.arraylength, 1) := sorry
theorem dJ0_length_8abf5_5 : decode cJ0_length_8abf5 5 = .ok (.aload_n 0, 1) := sorry
theorem dJ0_length_8abf5_6 : decode cJ0_length_8abf5 6 = .ok (.invokevirtual 335, 3) := sorry
theorem dJ0_length_8abf5_9 : decode cJ0_length_8abf5 9 = .ok (.ishr, 1) := sorry
theorem dJ0_length_8abf5_10 : decode cJ0_length_8abf5 10 = .ok (.ireturn, 1) := sorry
set_option maxRecDepth 20000 in
theorem ggJ0_charAt_5068e_J0_isLatin1_aae02 : GoodIn wsJ0_charAt_5068e wsJ0_isLatin1_aae02 := sorry
set_option maxRecDepth 20000 in
theorem gJ0_charAt_5068e_J0_isLatin1_aae02 : GoodIn wsJ0_charAt_5068e (wsV RJ0 492 RJ0 yJ0_isLatin1_aae02 wsJ0_isLatin1_aae02) := sorry
set_option maxRecDepth 20000 in
theorem ggJ0_charAt_5068e_J1_charAt_3b067 : GoodIn wsJ0_charAt_5068e wsJ1_charAt_3b067 := sorry
set_option maxRecDepth 20000 in
theorem gJ0_charAt_5068e_J1_charAt_3b067 : GoodIn wsJ0_charAt_5068e (va_wsS RJ0 495 yJ1_charAt_3b067 wsJ1_charAt_3b067) := sorry
set_option maxRecDepth 20000 in
theorem ggJ0_charAt_5068e_J2_charAt_3b067 : GoodIn wsJ0_charAt_5068e wsJ2_charAt_3b067 := sorry
set_option maxRecDepth 20000 in
theorem gJ0_charAt_5068e_J2_charAt_3b067 : GoodIn wsJ0_charAt_5068e (va_wsS RJ0 498 yJ2_charAt_3b067 wsJ2_charAt_3b067) := sorry
def dtJ0_charAt_5068e_0_0 : List (Nat × Instr × Nat) := [(0, .aload_n 0, 1), (1, .invokevirtual 492, 3), (4, .ifCond .eq 12, 3), (7, .aload_n 0, 1), (8, .getfield 9, 3), (11, .iload_n 1, 1), (12, .invokestatic 495, 3), (15, .ireturn, 1), (16, .aload_n 0, 1), (17, .getfield 9, 3), (20, .iload_n 1, 1), (21, .invokestatic 498, 3), (24, .ireturn, 1)]
theorem dtJ0_charAt_5068e_0_0_ok : dcAll cJ0_charAt_5068e dtJ0_charAt_5068e_0_0 = true := sorry
theorem dJ0_charAt_5068e_0 : decode cJ0_charAt_5068e 0 = .ok (.aload_n 0, 1) := sorry
theorem dJ0_charAt_5068e_1 : decode cJ0_charAt_5068e 1 = .ok (.invokevirtual 492, 3) := sorry
theorem dJ0_charAt_5068e_4 : decode cJ0_charAt_5068e 4 = .ok (.ifCond .eq 12, 3) := sorry
theorem dJ0_charAt_5068e_7 : decode cJ0_charAt_5068e 7 = .ok (.aload_n 0, 1) := sorry
theorem dJ0_charAt_5068e_8 : decode cJ0_charAt_5068e 8 = .ok (.getfield 9, 3) := sorry
theorem dJ0_charAt_5068e_11 : decode cJ0_charAt_5068e 11 = .ok (.iload_n 1, 1) := sorry
theorem dJ0_charAt_5068e_12 : decode cJ0_charAt_5068e 12 = .ok (.invokestatic 495, 3) := sorry
theorem dJ0_charAt_5068e_15 : decode cJ0_charAt_5068e 15 = .ok (.ireturn, 1) := sorry
theorem dJ0_charAt_5068e_16 : decode cJ0_charAt_5068e 16 = .ok (.aload_n 0, 1) := sorry
theorem dJ0_charAt_5068e_17 : decode cJ0_charAt_5068e 17 = .ok (.getfield 9, 3) := sorry
theorem dJ0_charAt_5068e_20 : decode cJ0_charAt_5068e 20 = .ok (.iload_n 1, 1) := sorry
theorem dJ0_charAt_5068e_21 : decode cJ0_charAt_5068e 21 = .ok (.invokestatic 498, 3) := sorry
theorem dJ0_charAt_5068e_24 : decode cJ0_charAt_5068e 24 = .ok (.ireturn, 1) := sorry
set_option maxRecDepth 20000 in
theorem ggJ0_indexOf_0f7a4_J0_indexOf_7cf53 : GoodIn wsJ0_indexOf_0f7a4 wsJ0_indexOf_7cf53 := sorry
set_option maxRecDepth 20000 in
theorem gJ0_indexOf_0f7a4_J0_indexOf_7cf53 : GoodIn wsJ0_indexOf_0f7a4 (wsV RJ0 633 RJ0 yJ0_indexOf_7cf53 wsJ0_indexOf_7cf53) := sorry
def dtJ0_indexOf_0f7a4_0_0 : List (Nat × Instr × Nat) := [(0, .aload_n 0, 1), (1, .iload_n 1, 1), (2, .iconst 0, 1), (3, .invokevirtual 633, 3), (6, .ireturn, 1)]
theorem dtJ0_indexOf_0f7a4_0_0_ok : dcAll cJ0_indexOf_0f7a4 dtJ0_indexOf_0f7a4_0_0 = true := sorry
theorem dJ0_indexOf_0f7a4_0 : decode cJ0_indexOf_0f7a4 0 = .ok (.aload_n 0, 1) := sorry
theorem dJ0_indexOf_0f7a4_1 : decode cJ0_indexOf_0f7a4 1 = .ok (.iload_n 1, 1) := sorry
theorem dJ0_indexOf_0f7a4_2 : decode cJ0_indexOf_0f7a4 2 = .ok (.iconst 0, 1) := sorry
theorem dJ0_indexOf_0f7a4_3 : decode cJ0_indexOf_0f7a4 3 = .ok (.invokevirtual 633, 3) := sorry
theorem dJ0_indexOf_0f7a4_6 : decode cJ0_indexOf_0f7a4 6 = .ok (.ireturn, 1) := sorry
set_option maxRecDepth 20000 in
theorem ggJ0_indexOf_7cf53_J0_isLatin1_aae02 : GoodIn wsJ0_indexOf_7cf53 wsJ0_isLatin1_aae02 := sorry
set_option maxRecDepth 20000 in
theorem gJ0_indexOf_7cf53_J0_isLatin1_aae02 : GoodIn wsJ0_indexOf_7cf53 (wsV RJ0 492 RJ0 yJ0_isLatin1_aae02 wsJ0_isLatin1_aae02) := sorry
set_option maxRecDepth 20000 in
theorem ggJ0_indexOf_7cf53_J0_length_8abf5 : GoodIn wsJ0_indexOf_7cf53 wsJ0_length_8abf5 := sorry
set_option maxRecDepth 20000 in
theorem gJ0_indexOf_7cf53_J0_length_8abf5 : GoodIn wsJ0_indexOf_7cf53 (wsV RJ0 505 RJ0 yJ0_length_8abf5 wsJ0_length_8abf5) := sorry
set_option maxRecDepth 20000 in
theorem ggJ0_indexOf_7cf53_J1_indexOf_4cfef : GoodIn wsJ0_indexOf_7cf53 wsJ1_indexOf_4cfef := sorry
set_option maxRecDepth 20000 in
theorem gJ0_indexOf_7cf53_J1_indexOf_4cfef : GoodIn wsJ0_indexOf_7cf53 (va_wsS RJ0 637 yJ1_indexOf_4cfef wsJ1_indexOf_4cfef) := sorry
set_option maxRecDepth 20000 in
theorem ggJ0_indexOf_7cf53_J2_indexOf_4cfef : GoodIn wsJ0_indexOf_7cf53 wsJ2_indexOf_4cfef := sorry
set_option maxRecDepth 20000 in
theorem gJ0_indexOf_7cf53_J2_indexOf_4cfef : GoodIn wsJ0_indexOf_7cf53 (va_wsS RJ0 640 yJ2_indexOf_4cfef wsJ2_indexOf_4cfef) := sorry
def dtJ0_indexOf_7cf53_0_0 : List (Nat × Instr × Nat) := [(0, .aload_n 0, 1), (1, .invokevirtual 492, 3), (4, .ifCond .eq 19, 3), (7, .aload_n 0, 1), (8, .getfield 9, 3), (11, .iload_n 1, 1), (12, .iload_n 2, 1), (13, .aload_n 0, 1), (14, .invokevirtual 505, 3), (17, .invokestatic 637, 3), (20, .goto 16, 3), (23, .aload_n 0, 1), (24, .getfield 9, 3), (27, .iload_n 1, 1), (28, .iload_n 2, 1), (29, .aload_n 0, 1), (30, .invokevirtual 505, 3), (33, .invokestatic 640, 3), (36, .ireturn, 1)]
theorem dtJ0_indexOf_7cf53_0_0_ok : dcAll cJ0_indexOf_7cf53 dtJ0_indexOf_7cf53_0_0 = true := sorry
theorem dJ0_indexOf_7cf53_0 : decode cJ0_indexOf_7cf53 0 = .ok (.aload_n 0, 1) := sorry
theorem dJ0_indexOf_7cf53_1 : decode cJ0_indexOf_7cf53 1 = .ok (.invokevirtual 492, 3) := sorry
theorem dJ0_indexOf_7cf53_4 : decode cJ0_indexOf_7cf53 4 = .ok (.ifCond .eq 19, 3) := sorry
theorem dJ0_indexOf_7cf53_7 : decode cJ0_indexOf_7cf53 7 = .ok (.aload_n 0, 1) := sorry
theorem dJ0_indexOf_7cf53_8 : decode cJ0_indexOf_7cf53 8 = .ok (.getfield 9, 3) := sorry
theorem dJ0_indexOf_7cf53_11 : decode cJ0_indexOf_7cf53 11 = .ok (.iload_n 1, 1) := sorry
theorem dJ0_indexOf_7cf53_12 : decode cJ0_indexOf_7cf53 12 = .ok (.iload_n 2, 1) := sorry
theorem dJ0_indexOf_7cf53_13 : decode cJ0_indexOf_7cf53 13 = .ok (.aload_n 0, 1) := sorry
theorem dJ0_indexOf_7cf53_14 : decode cJ0_indexOf_7cf53 14 = .ok (.invokevirtual 505, 3) := sorry
theorem dJ0_indexOf_7cf53_17 : decode cJ0_indexOf_7cf53 17 = .ok (.invokestatic 637, 3) := sorry
theorem dJ0_indexOf_7cf53_20 : decode cJ0_indexOf_7cf53 20 = .ok (.goto 16, 3) := sorry
theorem dJ0_indexOf_7cf53_23 : decode cJ0_indexOf_7cf53 23 = .ok (.aload_n 0, 1) := sorry
theorem dJ0_indexOf_7cf53_24 : decode cJ0_indexOf_7cf53 24 = .ok (.getfield 9, 3) := sorry
theorem dJ0_indexOf_7cf53_27 : decode cJ0_indexOf_7cf53 27 = .ok (.iload_n 1, 1) := sorry
theorem dJ0_indexOf_7cf53_28 : decode cJ0_indexOf_7cf53 28 = .ok (.iload_n 2, 1) := sorry
theorem dJ0_indexOf_7cf53_29 : decode cJ0_indexOf_7cf53 29 = .ok (.aload_n 0, 1) := sorry
theorem dJ0_indexOf_7cf53_30 : decode cJ0_indexOf_7cf53 30 = .ok (.invokevirtual 505, 3) := sorry
theorem dJ0_indexOf_7cf53_33 : decode cJ0_indexOf_7cf53 33 = .ok (.invokestatic 640, 3) := sorry
theorem dJ0_indexOf_7cf53_36 : decode cJ0_indexOf_7cf53 36 = .ok (.ireturn, 1) := sorry
def dtJ0_coder_7d493_0_0 : List (Nat × Instr × Nat) := [(0, .getstatic 38, 3), (3, .ifCond .eq 10, 3), (6, .aload_n 0, 1), (7, .getfield 15, 3), (10, .goto 4, 3), (13, .iconst 1, 1), (14, .ireturn, 1)]
theorem dtJ0_coder_7d493_0_0_ok : dcAll cJ0_coder_7d493 dtJ0_coder_7d493_0_0 = true := sorry
theorem dJ0_coder_7d493_0 : decode cJ0_coder_7d493 0 = .ok (.getstatic 38, 3) := sorry
theorem dJ0_coder_7d493_3 : decode cJ0_coder_7d493 3 = .ok (.ifCond .eq 10, 3) := sorry
theorem dJ0_coder_7d493_6 : decode cJ0_coder_7d493 6 = .ok (.aload_n 0, 1) := sorry
theorem dJ0_coder_7d493_7 : decode cJ0_coder_7d493 7 = .ok (.getfield 15, 3) := sorry
theorem dJ0_coder_7d493_10 : decode cJ0_coder_7d493 10 = .ok (.goto 4, 3) := sorry
theorem dJ0_coder_7d493_13 : decode cJ0_coder_7d493 13 = .ok (.iconst 1, 1) := sorry
theorem dJ0_coder_7d493_14 : decode cJ0_coder_7d493 14 = .ok (.ireturn, 1) := sorry
def dtJ0_isLatin1_aae02_0_0 : List (Nat × Instr × Nat) := [(0, .getstatic 38, 3), (3, .ifCond .eq 14, 3), (6, .aload_n 0, 1), (7, .getfield 15, 3), (10, .ifCond .ne 7, 3), (13, .iconst 1, 1), (14, .goto 4, 3), (17, .iconst 0, 1), (18, .ireturn, 1)]
theorem dtJ0_isLatin1_aae02_0_0_ok : dcAll cJ0_isLatin1_aae02 dtJ0_isLatin1_aae02_0_0 = true := sorry
theorem dJ0_isLatin1_aae02_0 : decode cJ0_isLatin1_aae02 0 = .ok (.getstatic 38, 3) := sorry
theorem dJ0_isLatin1_aae02_3 : decode cJ0_isLatin1_aae02 3 = .ok (.ifCond .eq 14, 3) := sorry
theorem dJ0_isLatin1_aae02_6 : decode cJ0_isLatin1_aae02 6 = .ok (.aload_n 0, 1) := sorry
theorem dJ0_isLatin1_aae02_7 : decode cJ0_isLatin1_aae02 7 = .ok (.getfield 15, 3) := sorry
theorem dJ0_isLatin1_aae02_10 : decode cJ0_isLatin1_aae02 10 = .ok (.ifCond .ne 7, 3) := sorry
theorem dJ0_isLatin1_aae02_13 : decode cJ0_isLatin1_aae02 13 = .ok (.iconst 1, 1) := sorry
theorem dJ0_isLatin1_aae02_14 : decode cJ0_isLatin1_aae02 14 = .ok (.goto 4, 3) := sorry
theorem dJ0_isLatin1_aae02_17 : decode cJ0_isLatin1_aae02 17 = .ok (.iconst 0, 1) := sorry
theorem dJ0_isLatin1_aae02_18 : decode cJ0_isLatin1_aae02 18 = .ok (.ireturn, 1) := sorry
set_option maxRecDepth 20000 in
theorem ggJ0_checkIndex_df160_J3_checkIndex_8e157 : GoodIn wsJ0_checkIndex_df160 wsJ3_checkIndex_8e157 := sorry
set_option maxRecDepth 20000 in
theorem gJ0_checkIndex_df160_J3_checkIndex_8e157 : GoodIn wsJ0_checkIndex_df160 (va_wsS RJ0 1059 yJ3_checkIndex_8e157 wsJ3_checkIndex_8e157) := sorry
def dtJ0_checkIndex_df160_0_0 : List (Nat × Instr × Nat) := [(0, .iload_n 0, 1), (1, .iload_n 1, 1), (2, .getstatic 1053, 3), (5, .invokestatic 1059, 3), (8, .pop, 1), (9, .return_, 1)]
theorem dtJ0_checkIndex_df160_0_0_ok : dcAll cJ0_checkIndex_df160 dtJ0_checkIndex_df160_0_0 = true := sorry
theorem dJ0_checkIndex_df160_0 : decode cJ0_checkIndex_df160 0 = .ok (.iload_n 0, 1) := sorry
theorem dJ0_checkIndex_df160_1 : decode cJ0_checkIndex_df160 1 = .ok (.iload_n 1, 1) := sorry
theorem dJ0_checkIndex_df160_2 : decode cJ0_checkIndex_df160 2 = .ok (.getstatic 1053, 3) := sorry
theorem dJ0_checkIndex_df160_5 : decode cJ0_checkIndex_df160 5 = .ok (.invokestatic 1059, 3) := sorry
theorem dJ0_checkIndex_df160_8 : decode cJ0_checkIndex_df160 8 = .ok (.pop, 1) := sorry
theorem dJ0_checkIndex_df160_9 : decode cJ0_checkIndex_df160 9 = .ok (.return_, 1) := sorry
set_option maxRecDepth 20000 in
theorem ggJ0_checkBoundsBeginEnd_23922_J3_checkFromToIndex_8c36e : GoodIn wsJ0_checkBoundsBeginEnd_23922 wsJ3_checkFromToIndex_8c36e := sorry
set_option maxRecDepth 20000 in
theorem gJ0_checkBoundsBeginEnd_23922_J3_checkFromToIndex_8c36e : GoodIn wsJ0_checkBoundsBeginEnd_23922 (va_wsS RJ0 1062 yJ3_checkFromToIndex_8c36e wsJ3_checkFromToIndex_8c36e) := sorry
def dtJ0_checkBoundsBeginEnd_23922_0_0 : List (Nat × Instr × Nat) := [(0, .iload_n 0, 1), (1, .iload_n 1, 1), (2, .iload_n 2, 1), (3, .getstatic 1053, 3), (6, .invokestatic 1062, 3), (9, .pop, 1), (10, .return_, 1)]
theorem dtJ0_checkBoundsBeginEnd_23922_0_0_ok : dcAll cJ0_checkBoundsBeginEnd_23922 dtJ0_checkBoundsBeginEnd_23922_0_0 = true := sorry
theorem dJ0_checkBoundsBeginEnd_23922_0 : decode cJ0_checkBoundsBeginEnd_23922 0 = .ok (.iload_n 0, 1) := sorry
theorem dJ0_checkBoundsBeginEnd_23922_1 : decode cJ0_checkBoundsBeginEnd_23922 1 = .ok (.iload_n 1, 1) := sorry
theorem dJ0_checkBoundsBeginEnd_23922_2 : decode cJ0_checkBoundsBeginEnd_23922 2 = .ok (.iload_n 2, 1) := sorry
theorem dJ0_checkBoundsBeginEnd_23922_3 : decode cJ0_checkBoundsBeginEnd_23922 3 = .ok (.getstatic 1053, 3) := sorry
theorem dJ0_checkBoundsBeginEnd_23922_6 : decode cJ0_checkBoundsBeginEnd_23922 6 = .ok (.invokestatic 1062, 3) := sorry
theorem dJ0_checkBoundsBeginEnd_23922_9 : decode cJ0_checkBoundsBeginEnd_23922 9 = .ok (.pop, 1) := sorry
theorem dJ0_checkBoundsBeginEnd_23922_10 : decode cJ0_checkBoundsBeginEnd_23922 10 = .ok (.return_, 1) := sorry
set_option maxRecDepth 20000 in
theorem ggJ1_charAt_3b067_J0_checkIndex_df160 : GoodIn wsJ1_charAt_3b067 wsJ0_checkIndex_df160 := sorry
set_option maxRecDepth 20000 in
theorem gJ1_charAt_3b067_J0_checkIndex_df160 : GoodIn wsJ1_charAt_3b067 (va_wsS RJ1 9 yJ0_checkIndex_df160 wsJ0_checkIndex_df160) := sorry
def dtJ1_charAt_3b067_0_0 : List (Nat × Instr × Nat) := [(0, .iload_n 1, 1), (1, .aload_n 0, 1), (2, .arraylength, 1), (3, .invokestatic 9, 3), (6, .aload_n 0, 1), (7, .iload_n 1, 1), (8, .baload, 1), (9, .sipush 255, 3), (12, .iand, 1), (13, .i2c, 1), (14, .ireturn, 1)]
theorem dtJ1_charAt_3b067_0_0_ok : dcAll cJ1_charAt_3b067 dtJ1_charAt_3b067_0_0 = true := sorry
theorem dJ1_charAt_3b067_0 : decode cJ1_charAt_3b067 0 = .ok (.iload_n 1, 1) := sorry
theorem dJ1_charAt_3b067_1 : decode cJ1_charAt_3b067 1 = .ok (.aload_n 0, 1) := sorry
theorem dJ1_charAt_3b067_2 : decode cJ1_charAt_3b067 2 = .ok (.arraylength, 1) := sorry
theorem dJ1_charAt_3b067_3 : decode cJ1_charAt_3b067 3 = .ok (.invokestatic 9, 3) := sorry
theorem dJ1_charAt_3b067_6 : decode cJ1_charAt_3b067 6 = .ok (.aload_n 0, 1) := sorry
theorem dJ1_charAt_3b067_7 : decode cJ1_charAt_3b067 7 = .ok (.iload_n 1, 1) := sorry
theorem dJ1_charAt_3b067_8 : decode cJ1_charAt_3b067 8 = .ok (.baload, 1) := sorry
theorem dJ1_charAt_3b067_9 : decode cJ1_charAt_3b067 9 = .ok (.sipush 255, 3) := sorry
theorem dJ1_charAt_3b067_12 : decode cJ1_charAt_3b067 12 = .ok (.iand, 1) := sorry
theorem dJ1_charAt_3b067_13 : decode cJ1_charAt_3b067 13 = .ok (.i2c, 1) := sorry
theorem dJ1_charAt_3b067_14 : decode cJ1_charAt_3b067 14 = .ok (.ireturn, 1) := sorry
def dtJ1_canEncode_9a6ad_0_0 : List (Nat × Instr × Nat) := [(0, .iload_n 0, 1), (1, .ifCond .lt 14, 3), (4, .iload_n 0, 1), (5, .sipush 255, 3), (8, .if_icmp .gt 7, 3), (11, .iconst 1, 1), (12, .goto 4, 3), (15, .iconst 0, 1), (16, .ireturn, 1)]
theorem dtJ1_canEncode_9a6ad_0_0_ok : dcAll cJ1_canEncode_9a6ad dtJ1_canEncode_9a6ad_0_0 = true := sorry
theorem dJ1_canEncode_9a6ad_0 : decode cJ1_canEncode_9a6ad 0 = .ok (.iload_n 0, 1) := sorry
theorem dJ1_canEncode_9a6ad_1 : decode cJ1_canEncode_9a6ad 1 = .ok (.ifCond .lt 14, 3) := sorry
theorem dJ1_canEncode_9a6ad_4 : decode cJ1_canEncode_9a6ad 4 = .ok (.iload_n 0, 1) := sorry
theorem dJ1_canEncode_9a6ad_5 : decode cJ1_canEncode_9a6ad 5 = .ok (.sipush 255, 3) := sorry
theorem dJ1_canEncode_9a6ad_8 : decode cJ1_canEncode_9a6ad 8 = .ok (.if_icmp .gt 7, 3) := sorry
theorem dJ1_canEncode_9a6ad_11 : decode cJ1_canEncode_9a6ad 11 = .ok (.iconst 1, 1) := sorry
theorem dJ1_canEncode_9a6ad_12 : decode cJ1_canEncode_9a6ad 12 = .ok (.goto 4, 3) := sorry
theorem dJ1_canEncode_9a6ad_15 : decode cJ1_canEncode_9a6ad 15 = .ok (.iconst 0, 1) := sorry
theorem dJ1_canEncode_9a6ad_16 : decode cJ1_canEncode_9a6ad 16 = .ok (.ireturn, 1) := sorry
set_option maxRecDepth 20000 in
theorem ggJ1_indexOf_4cfef_J1_canEncode_9a6ad : GoodIn wsJ1_indexOf_4cfef wsJ1_canEncode_9a6ad := sorry
set_option maxRecDepth 20000 in
theorem gJ1_indexOf_4cfef_J1_canEncode_9a6ad : GoodIn wsJ1_indexOf_4cfef (va_wsS RJ1 88 yJ1_canEncode_9a6ad wsJ1_canEncode_9a6ad) := sorry
set_option maxRecDepth 20000 in
theorem ggJ1_indexOf_4cfef_J1_indexOfChar_4cfef : GoodIn wsJ1_indexOf_4cfef wsJ1_indexOfChar_4cfef := sorry
set_option maxRecDepth 20000 in
theorem gJ1_indexOf_4cfef_J1_indexOfChar_4cfef : GoodIn wsJ1_indexOf_4cfef (va_wsS RJ1 95 yJ1_indexOfChar_4cfef wsJ1_indexOfChar_4cfef) := sorry
def dtJ1_indexOf_4cfef_0_0 : List (Nat × Instr × Nat) := [(0, .iload_n 1, 1), (1, .invokestatic 88, 3), (4, .ifCond .ne 5, 3), (7, .iconst (-1), 1), (8, .ireturn, 1), (9, .iload_n 2, 1), (10, .iconst 0, 1), (11, .invokestatic 92, 3), (14, .istore_n 2, 1), (15, .iload_n 3, 1), (16, .aload_n 0, 1), (17, .arraylength, 1), (18, .invokestatic 38, 3), (21, .istore_n 3, 1), (22, .iload_n 2, 1), (23, .iload_n 3, 1), (24, .if_icmp .lt 5, 3), (27, .iconst (-1), 1), (28, .ireturn, 1), (29, .aload_n 0, 1), (30, .iload_n 1, 1), (31, .iload_n 2, 1), (32, .iload_n 3, 1), (33, .invokestatic 95, 3), (36, .ireturn, 1)]
theorem dtJ1_indexOf_4cfef_0_0_ok : dcAll cJ1_indexOf_4cfef dtJ1_indexOf_4cfef_0_0 = true := sorry
theorem dJ1_indexOf_4cfef_0 : decode cJ1_indexOf_4cfef 0 = .ok (.iload_n 1, 1) := sorry
theorem dJ1_indexOf_4cfef_1 : decode cJ1_indexOf_4cfef 1 = .ok (.invokestatic 88, 3) := sorry
theorem dJ1_indexOf_4cfef_4 : decode cJ1_indexOf_4cfef 4 = .ok (.ifCond .ne 5, 3) := sorry
theorem dJ1_indexOf_4cfef_7 : decode cJ1_indexOf_4cfef 7 = .ok (.iconst (-1), 1) := sorry
theorem dJ1_indexOf_4cfef_8 : decode cJ1_indexOf_4cfef 8 = .ok (.ireturn, 1) := sorry
theorem dJ1_indexOf_4cfef_9 : decode cJ1_indexOf_4cfef 9 = .ok (.iload_n 2, 1) := sorry
theorem dJ1_indexOf_4cfef_10 : decode cJ1_indexOf_4cfef 10 = .ok (.iconst 0, 1) := sorry
theorem dJ1_indexOf_4cfef_11 : decode cJ1_indexOf_4cfef 11 = .ok (.invokestatic 92, 3) := sorry
theorem dJ1_indexOf_4cfef_14 : decode cJ1_indexOf_4cfef 14 = .ok (.istore_n 2, 1) := sorry
theorem dJ1_indexOf_4cfef_15 : decode cJ1_indexOf_4cfef 15 = .ok (.iload_n 3, 1) := sorry
theorem dJ1_indexOf_4cfef_16 : decode cJ1_indexOf_4cfef 16 = .ok (.aload_n 0, 1) := sorry
theorem dJ1_indexOf_4cfef_17 : decode cJ1_indexOf_4cfef 17 = .ok (.arraylength, 1) := sorry
theorem dJ1_indexOf_4cfef_18 : decode cJ1_indexOf_4cfef 18 = .ok (.invokestatic 38, 3) := sorry
theorem dJ1_indexOf_4cfef_21 : decode cJ1_indexOf_4cfef 21 = .ok (.istore_n 3, 1) := sorry
theorem dJ1_indexOf_4cfef_22 : decode cJ1_indexOf_4cfef 22 = .ok (.iload_n 2, 1) := sorry
theorem dJ1_indexOf_4cfef_23 : decode cJ1_indexOf_4cfef 23 = .ok (.iload_n 3, 1) := sorry
theorem dJ1_indexOf_4cfef_24 : decode cJ1_indexOf_4cfef 24 = .ok (.if_icmp .lt 5, 3) := sorry
theorem dJ1_indexOf_4cfef_27 : decode cJ1_indexOf_4cfef 27 = .ok (.iconst (-1), 1) := sorry
theorem dJ1_indexOf_4cfef_28 : decode cJ1_indexOf_4cfef 28 = .ok (.ireturn, 1) := sorry
theorem dJ1_indexOf_4cfef_29 : decode cJ1_indexOf_4cfef 29 = .ok (.aload_n 0, 1) := sorry
theorem dJ1_indexOf_4cfef_30 : decode cJ1_indexOf_4cfef 30 = .ok (.iload_n 1, 1) := sorry
theorem dJ1_indexOf_4cfef_31 : decode cJ1_indexOf_4cfef 31 = .ok (.iload_n 2, 1) := sorry
theorem dJ1_indexOf_4cfef_32 : decode cJ1_indexOf_4cfef 32 = .ok (.iload_n 3, 1) := sorry
theorem dJ1_indexOf_4cfef_33 : decode cJ1_indexOf_4cfef 33 = .ok (.invokestatic 95, 3) := sorry
theorem dJ1_indexOf_4cfef_36 : decode cJ1_indexOf_4cfef 36 = .ok (.ireturn, 1) := sorry
def dtJ1_indexOfChar_4cfef_0_0 : List (Nat × Instr × Nat) := [(0, .iload_n 1, 1), (1, .i2b, 1), (2, .istore 4, 2), (4, .iload_n 2, 1), (5, .istore 5, 2), (7, .iload 5, 2), (9, .iload_n 3, 1), (10, .if_icmp .ge 21, 3), (13, .aload_n 0, 1), (14, .iload 5, 2), (16, .baload, 1), (17, .iload 4, 2), (19, .if_icmp .ne 6, 3), (22, .iload 5, 2), (24, .ireturn, 1), (25, .iinc 5 1, 3), (28, .goto (-21), 3), (31, .iconst (-1), 1), (32, .ireturn, 1)]
theorem dtJ1_indexOfChar_4cfef_0_0_ok : dcAll cJ1_indexOfChar_4cfef dtJ1_indexOfChar_4cfef_0_0 = true := sorry
theorem dJ1_indexOfChar_4cfef_0 : decode cJ1_indexOfChar_4cfef 0 = .ok (.iload_n 1, 1) := sorry
theorem dJ1_indexOfChar_4cfef_1 : decode cJ1_indexOfChar_4cfef 1 = .ok (.i2b, 1) := sorry
theorem dJ1_indexOfChar_4cfef_2 : decode cJ1_indexOfChar_4cfef 2 = .ok (.istore 4, 2) := sorry
theorem dJ1_indexOfChar_4cfef_4 : decode cJ1_indexOfChar_4cfef 4 = .ok (.iload_n 2, 1) := sorry
theorem dJ1_indexOfChar_4cfef_5 : decode cJ1_indexOfChar_4cfef 5 = .ok (.istore 5, 2) := sorry
theorem dJ1_indexOfChar_4cfef_7 : decode cJ1_indexOfChar_4cfef 7 = .ok (.iload 5, 2) := sorry
theorem dJ1_indexOfChar_4cfef_9 : decode cJ1_indexOfChar_4cfef 9 = .ok (.iload_n 3, 1) := sorry
theorem dJ1_indexOfChar_4cfef_10 : decode cJ1_indexOfChar_4cfef 10 = .ok (.if_icmp .ge 21, 3) := sorry
theorem dJ1_indexOfChar_4cfef_13 : decode cJ1_indexOfChar_4cfef 13 = .ok (.aload_n 0, 1) := sorry
theorem dJ1_indexOfChar_4cfef_14 : decode cJ1_indexOfChar_4cfef 14 = .ok (.iload 5, 2) := sorry
theorem dJ1_indexOfChar_4cfef_16 : decode cJ1_indexOfChar_4cfef 16 = .ok (.baload, 1) := sorry
theorem dJ1_indexOfChar_4cfef_17 : decode cJ1_indexOfChar_4cfef 17 = .ok (.iload 4, 2) := sorry
theorem dJ1_indexOfChar_4cfef_19 : decode cJ1_indexOfChar_4cfef 19 = .ok (.if_icmp .ne 6, 3) := sorry
theorem dJ1_indexOfChar_4cfef_22 : decode cJ1_indexOfChar_4cfef 22 = .ok (.iload 5, 2) := sorry
theorem dJ1_indexOfChar_4cfef_24 : decode cJ1_indexOfChar_4cfef 24 = .ok (.ireturn, 1) := sorry
theorem dJ1_indexOfChar_4cfef_25 : decode cJ1_indexOfChar_4cfef 25 = .ok (.iinc 5 1, 3) := sorry
theorem dJ1_indexOfChar_4cfef_28 : decode cJ1_indexOfChar_4cfef 28 = .ok (.goto (-21), 3) := sorry
theorem dJ1_indexOfChar_4cfef_31 : decode cJ1_indexOfChar_4cfef 31 = .ok (.iconst (-1), 1) := sorry
theorem dJ1_indexOfChar_4cfef_32 : decode cJ1_indexOfChar_4cfef 32 = .ok (.ireturn, 1) := sorry
set_option maxRecDepth 20000 in
theorem ggJ2_getChar_3b067_J2_length_9d52b : GoodIn wsJ2_getChar_3b067 wsJ2_length_9d52b := sorry
set_option maxRecDepth 20000 in
theorem gJ2_getChar_3b067_J2_length_9d52b : GoodIn wsJ2_getChar_3b067 (va_wsS RJ2 48 yJ2_length_9d52b wsJ2_length_9d52b) := sorry
def dtJ2_getChar_3b067_0_0 : List (Nat × Instr × Nat) := [(0, .getstatic 44, 3), (3, .ifCond .ne 25, 3), (6, .iload_n 1, 1), (7, .ifCond .lt 11, 3), (10, .iload_n 1, 1), (11, .aload_n 0, 1), (12, .invokestatic 48, 3), (15, .if_icmp .lt 13, 3), (18, .new 52, 3), (21, .dup, 1), (22, .ldc 54, 2), (24, .invokespecial 56, 3), (27, .athrow, 1), (28, .iload_n 1, 1), (29, .iconst 1, 1), (30, .ishl, 1), (31, .istore_n 1, 1), (32, .aload_n 0, 1), (33, .iload_n 1, 1), (34, .iinc 1 1, 3), (37, .baload, 1), (38, .sipush 255, 3), (41, .iand, 1), (42, .getstatic 59, 3), (45, .ishl, 1), (46, .aload_n 0, 1), (47, .iload_n 1, 1), (48, .baload, 1), (49, .sipush 255, 3), (52, .iand, 1), (53, .getstatic 63, 3), (56, .ishl, 1)]
theorem dtJ2_getChar_3b067_0_0_ok : dcAll cJ2_getChar_3b067 dtJ2_getChar_3b067_0_0 = true := sorry
theorem dJ2_getChar_3b067_0 : decode cJ2_getChar_3b067 0 = .ok (.getstatic 44, 3) := sorry
theorem dJ2_getChar_3b067_3 : decode cJ2_getChar_3b067 3 = .ok (.ifCond .ne 25, 3) := sorry
theorem dJ2_getChar_3b067_6 : decode cJ2_getChar_3b067 6 = .ok (.iload_n 1, 1) := sorry
theorem dJ2_getChar_3b067_7 : decode cJ2_getChar_3b067 7 = .ok (.ifCond .lt 11, 3) := sorry
theorem dJ2_getChar_3b067_10 : decode cJ2_getChar_3b067 10 = .ok (.iload_n 1, 1) := sorry
theorem dJ2_getChar_3b067_11 : decode cJ2_getChar_3b067 11 = .ok (.aload_n 0, 1) := sorry
theorem dJ2_getChar_3b067_12 : decode cJ2_getChar_3b067 12 = .ok (.invokestatic 48, 3) := sorry
theorem dJ2_getChar_3b067_15 : decode cJ2_getChar_3b067 15 = .ok (.if_icmp .lt 13, 3) := sorry
theorem dJ2_getChar_3b067_18 : decode cJ2_getChar_3b067 18 = .ok (.new 52, 3) := sorry
theorem dJ2_getChar_3b067_21 : decode cJ2_getChar_3b067 21 = .ok (.dup, 1) := sorry
theorem dJ2_getChar_3b067_22 : decode cJ2_getChar_3b067 22 = .ok (.ldc 54, 2) := sorry
theorem dJ2_getChar_3b067_24 : decode cJ2_getChar_3b067 24 = .ok (.invokespecial 56, 3) := sorry
theorem dJ2_getChar_3b067_27 : decode cJ2_getChar_3b067 27 = .ok (.athrow, 1) := sorry
theorem dJ2_getChar_3b067_28 : decode cJ2_getChar_3b067 28 = .ok (.iload_n 1, 1) := sorry
theorem dJ2_getChar_3b067_29 : decode cJ2_getChar_3b067 29 = .ok (.iconst 1, 1) := sorry
theorem dJ2_getChar_3b067_30 : decode cJ2_getChar_3b067 30 = .ok (.ishl, 1) := sorry
theorem dJ2_getChar_3b067_31 : decode cJ2_getChar_3b067 31 = .ok (.istore_n 1, 1) := sorry
theorem dJ2_getChar_3b067_32 : decode cJ2_getChar_3b067 32 = .ok (.aload_n 0, 1) := sorry
theorem dJ2_getChar_3b067_33 : decode cJ2_getChar_3b067 33 = .ok (.iload_n 1, 1) := sorry
theorem dJ2_getChar_3b067_34 : decode cJ2_getChar_3b067 34 = .ok (.iinc 1 1, 3) := sorry
theorem dJ2_getChar_3b067_37 : decode cJ2_getChar_3b067 37 = .ok (.baload, 1) := sorry
theorem dJ2_getChar_3b067_38 : decode cJ2_getChar_3b067 38 = .ok (.sipush 255, 3) := sorry
theorem dJ2_getChar_3b067_41 : decode cJ2_getChar_3b067 41 = .ok (.iand, 1) := sorry
theorem dJ2_getChar_3b067_42 : decode cJ2_getChar_3b067 42 = .ok (.getstatic 59, 3) := sorry
theorem dJ2_getChar_3b067_45 : decode cJ2_getChar_3b067 45 = .ok (.ishl, 1) := sorry
theorem dJ2_getChar_3b067_46 : decode cJ2_getChar_3b067 46 = .ok (.aload_n 0, 1) := sorry
theorem dJ2_getChar_3b067_47 : decode cJ2_getChar_3b067 47 = .ok (.iload_n 1, 1) := sorry
theorem dJ2_getChar_3b067_48 : decode cJ2_getChar_3b067 48 = .ok (.baload, 1) := sorry
theorem dJ2_getChar_3b067_49 : decode cJ2_getChar_3b067 49 = .ok (.sipush 255, 3) := sorry
theorem dJ2_getChar_3b067_52 : decode cJ2_getChar_3b067 52 = .ok (.iand, 1) := sorry
theorem dJ2_getChar_3b067_53 : decode cJ2_getChar_3b067 53 = .ok (.getstatic 63, 3) := sorry
theorem dJ2_getChar_3b067_56 : decode cJ2_getChar_3b067 56 = .ok (.ishl, 1) := sorry
def dtJ2_getChar_3b067_57_1 : List (Nat × Instr × Nat) := [(57, .ior, 1), (58, .i2c, 1), (59, .ireturn, 1)]
theorem dtJ2_getChar_3b067_57_1_ok : dcAll cJ2_getChar_3b067 dtJ2_getChar_3b067_57_1 = true := sorry
theorem dJ2_getChar_3b067_57 : decode cJ2_getChar_3b067 57 = .ok (.ior, 1) := sorry
theorem dJ2_getChar_3b067_58 : decode cJ2_getChar_3b067 58 = .ok (.i2c, 1) := sorry
theorem dJ2_getChar_3b067_59 : decode cJ2_getChar_3b067 59 = .ok (.ireturn, 1) := sorry
def dtJ2_length_9d52b_0_0 : List (Nat × Instr × Nat) := [(0, .aload_n 0, 1), (1, .arraylength, 1), (2, .iconst 1, 1), (3, .ishr, 1), (4, .ireturn, 1)]
theorem dtJ2_length_9d52b_0_0_ok : dcAll cJ2_length_9d52b dtJ2_length_9d52b_0_0 = true := sorry
theorem dJ2_length_9d52b_0 : decode cJ2_length_9d52b 0 = .ok (.aload_n 0, 1) := sorry
theorem dJ2_length_9d52b_1 : decode cJ2_length_9d52b 1 = .ok (.arraylength, 1) := sorry
theorem dJ2_length_9d52b_2 : decode cJ2_length_9d52b 2 = .ok (.iconst 1, 1) := sorry
theorem dJ2_length_9d52b_3 : decode cJ2_length_9d52b 3 = .ok (.ishr, 1) := sorry
theorem dJ2_length_9d52b_4 : decode cJ2_length_9d52b 4 = .ok (.ireturn, 1) := sorry
set_option maxRecDepth 20000 in
theorem ggJ2_indexOf_4cfef_J2_indexOfChar_4cfef : GoodIn wsJ2_indexOf_4cfef wsJ2_indexOfChar_4cfef := sorry
set_option maxRecDepth 20000 in
theorem gJ2_indexOf_4cfef_J2_indexOfChar_4cfef : GoodIn wsJ2_indexOf_4cfef (va_wsS RJ2 228 yJ2_indexOfChar_4cfef wsJ2_indexOfChar_4cfef) := sorry
set_option maxRecDepth 20000 in
theorem ggJ2_indexOf_4cfef_J2_indexOfSupplementary_4cfef : GoodIn wsJ2_indexOf_4cfef wsJ2_indexOfSupplementary_4cfef := sorry
set_option maxRecDepth 20000 in
theorem gJ2_indexOf_4cfef_J2_indexOfSupplementary_4cfef : GoodIn wsJ2_indexOf_4cfef (va_wsS RJ2 232 yJ2_indexOfSupplementary_4cfef wsJ2_indexOfSupplementary_4cfef) := sorry
def dtJ2_indexOf_4cfef_0_0 : List (Nat × Instr × Nat) := [(0, .iload_n 2, 1), (1, .iconst 0, 1), (2, .invokestatic 224, 3), (5, .istore_n 2, 1), (6, .iload_n 3, 1), (7, .aload_n 0, 1), (8, .arraylength, 1), (9, .iconst 1, 1), (10, .ishr, 1), (11, .invokestatic 183, 3), (14, .istore_n 3, 1), (15, .iload_n 2, 1), (16, .iload_n 3, 1), (17, .if_icmp .lt 5, 3), (20, .iconst (-1), 1), (21, .ireturn, 1), (22, .iload_n 1, 1), (23, .ldc 227, 2), (25, .if_icmp .ge 11, 3), (28, .aload_n 0, 1), (29, .iload_n 1, 1), (30, .iload_n 2, 1), (31, .iload_n 3, 1), (32, .invokestatic 228, 3), (35, .ireturn, 1), (36, .aload_n 0, 1), (37, .iload_n 1, 1), (38, .iload_n 2, 1), (39, .iload_n 3, 1), (40, .invokestatic 232, 3), (43, .ireturn, 1)]
theorem dtJ2_indexOf_4cfef_0_0_ok : dcAll cJ2_indexOf_4cfef dtJ2_indexOf_4cfef_0_0 = true := sorry
theorem dJ2_indexOf_4cfef_0 : decode cJ2_indexOf_4cfef 0 = .ok (.iload_n 2, 1) := sorry
theorem dJ2_indexOf_4cfef_1 : decode cJ2_indexOf_4cfef 1 = .ok (.iconst 0, 1) := sorry
theorem dJ2_indexOf_4cfef_2 : decode cJ2_indexOf_4cfef 2 = .ok (.invokestatic 224, 3) := sorry
theorem dJ2_indexOf_4cfef_5 : decode cJ2_indexOf_4cfef 5 = .ok (.istore_n 2, 1) := sorry
theorem dJ2_indexOf_4cfef_6 : decode cJ2_indexOf_4cfef 6 = .ok (.iload_n 3, 1) := sorry
theorem dJ2_indexOf_4cfef_7 : decode cJ2_indexOf_4cfef 7 = .ok (.aload_n 0, 1) := sorry
theorem dJ2_indexOf_4cfef_8 : decode cJ2_indexOf_4cfef 8 = .ok (.arraylength, 1) := sorry
theorem dJ2_indexOf_4cfef_9 : decode cJ2_indexOf_4cfef 9 = .ok (.iconst 1, 1) := sorry
theorem dJ2_indexOf_4cfef_10 : decode cJ2_indexOf_4cfef 10 = .ok (.ishr, 1) := sorry
theorem dJ2_indexOf_4cfef_11 : decode cJ2_indexOf_4cfef 11 = .ok (.invokestatic 183, 3) := sorry
theorem dJ2_indexOf_4cfef_14 : decode cJ2_indexOf_4cfef 14 = .ok (.istore_n 3, 1) := sorry
theorem dJ2_indexOf_4cfef_15 : decode cJ2_indexOf_4cfef 15 = .ok (.iload_n 2, 1) := sorry
theorem dJ2_indexOf_4cfef_16 : decode cJ2_indexOf_4cfef 16 = .ok (.iload_n 3, 1) := sorry
theorem dJ2_indexOf_4cfef_17 : decode cJ2_indexOf_4cfef 17 = .ok (.if_icmp .lt 5, 3) := sorry
theorem dJ2_indexOf_4cfef_20 : decode cJ2_indexOf_4cfef 20 = .ok (.iconst (-1), 1) := sorry
theorem dJ2_indexOf_4cfef_21 : decode cJ2_indexOf_4cfef 21 = .ok (.ireturn, 1) := sorry
theorem dJ2_indexOf_4cfef_22 : decode cJ2_indexOf_4cfef 22 = .ok (.iload_n 1, 1) := sorry
theorem dJ2_indexOf_4cfef_23 : decode cJ2_indexOf_4cfef 23 = .ok (.ldc 227, 2) := sorry
theorem dJ2_indexOf_4cfef_25 : decode cJ2_indexOf_4cfef 25 = .ok (.if_icmp .ge 11, 3) := sorry
theorem dJ2_indexOf_4cfef_28 : decode cJ2_indexOf_4cfef 28 = .ok (.aload_n 0, 1) := sorry
theorem dJ2_indexOf_4cfef_29 : decode cJ2_indexOf_4cfef 29 = .ok (.iload_n 1, 1) := sorry
theorem dJ2_indexOf_4cfef_30 : decode cJ2_indexOf_4cfef 30 = .ok (.iload_n 2, 1) := sorry
theorem dJ2_indexOf_4cfef_31 : decode cJ2_indexOf_4cfef 31 = .ok (.iload_n 3, 1) := sorry
theorem dJ2_indexOf_4cfef_32 : decode cJ2_indexOf_4cfef 32 = .ok (.invokestatic 228, 3) := sorry
theorem dJ2_indexOf_4cfef_35 : decode cJ2_indexOf_4cfef 35 = .ok (.ireturn, 1) := sorry
theorem dJ2_indexOf_4cfef_36 : decode cJ2_indexOf_4cfef 36 = .ok (.aload_n 0, 1) := sorry
theorem dJ2_indexOf_4cfef_37 : decode cJ2_indexOf_4cfef 37 = .ok (.iload_n 1, 1) := sorry
theorem dJ2_indexOf_4cfef_38 : decode cJ2_indexOf_4cfef 38 = .ok (.iload_n 2, 1) := sorry
theorem dJ2_indexOf_4cfef_39 : decode cJ2_indexOf_4cfef 39 = .ok (.iload_n 3, 1) := sorry
theorem dJ2_indexOf_4cfef_40 : decode cJ2_indexOf_4cfef 40 = .ok (.invokestatic 232, 3) := sorry
theorem dJ2_indexOf_4cfef_43 : decode cJ2_indexOf_4cfef 43 = .ok (.ireturn, 1) := sorry
set_option maxRecDepth 20000 in
theorem ggJ2_indexOfChar_4cfef_J2_checkBoundsBeginEnd_d044e : GoodIn wsJ2_indexOfChar_4cfef wsJ2_checkBoundsBeginEnd_d044e := sorry
set_option maxRecDepth 20000 in
theorem gJ2_indexOfChar_4cfef_J2_checkBoundsBeginEnd_d044e : GoodIn wsJ2_indexOfChar_4cfef (va_wsS RJ2 96 yJ2_checkBoundsBeginEnd_d044e wsJ2_checkBoundsBeginEnd_d044e) := sorry
set_option maxRecDepth 20000 in
theorem ggJ2_indexOfChar_4cfef_J2_indexOfCharUnsafe_4cfef : GoodIn wsJ2_indexOfChar_4cfef wsJ2_indexOfCharUnsafe_4cfef := sorry
set_option maxRecDepth 20000 in
theorem gJ2_indexOfChar_4cfef_J2_indexOfCharUnsafe_4cfef : GoodIn wsJ2_indexOfChar_4cfef (va_wsS RJ2 244 yJ2_indexOfCharUnsafe_4cfef wsJ2_indexOfCharUnsafe_4cfef) := sorry
def dtJ2_indexOfChar_4cfef_0_0 : List (Nat × Instr × Nat) := [(0, .iload_n 2, 1), (1, .iload_n 3, 1), (2, .aload_n 0, 1), (3, .invokestatic 96, 3), (6, .aload_n 0, 1), (7, .iload_n 1, 1), (8, .iload_n 2, 1), (9, .iload_n 3, 1), (10, .invokestatic 244, 3), (13, .ireturn, 1)]
theorem dtJ2_indexOfChar_4cfef_0_0_ok : dcAll cJ2_indexOfChar_4cfef dtJ2_indexOfChar_4cfef_0_0 = true := sorry
theorem dJ2_indexOfChar_4cfef_0 : decode cJ2_indexOfChar_4cfef 0 = .ok (.iload_n 2, 1) := sorry
theorem dJ2_indexOfChar_4cfef_1 : decode cJ2_indexOfChar_4cfef 1 = .ok (.iload_n 3, 1) := sorry
theorem dJ2_indexOfChar_4cfef_2 : decode cJ2_indexOfChar_4cfef 2 = .ok (.aload_n 0, 1) := sorry
theorem dJ2_indexOfChar_4cfef_3 : decode cJ2_indexOfChar_4cfef 3 = .ok (.invokestatic 96, 3) := sorry
theorem dJ2_indexOfChar_4cfef_6 : decode cJ2_indexOfChar_4cfef 6 = .ok (.aload_n 0, 1) := sorry
theorem dJ2_indexOfChar_4cfef_7 : decode cJ2_indexOfChar_4cfef 7 = .ok (.iload_n 1, 1) := sorry
theorem dJ2_indexOfChar_4cfef_8 : decode cJ2_indexOfChar_4cfef 8 = .ok (.iload_n 2, 1) := sorry
theorem dJ2_indexOfChar_4cfef_9 : decode cJ2_indexOfChar_4cfef 9 = .ok (.iload_n 3, 1) := sorry
theorem dJ2_indexOfChar_4cfef_10 : decode cJ2_indexOfChar_4cfef 10 = .ok (.invokestatic 244, 3) := sorry
theorem dJ2_indexOfChar_4cfef_13 : decode cJ2_indexOfChar_4cfef 13 = .ok (.ireturn, 1) := sorry
set_option maxRecDepth 20000 in
theorem ggJ2_indexOfCharUnsafe_4cfef_J2_getChar_3b067 : GoodIn wsJ2_indexOfCharUnsafe_4cfef wsJ2_getChar_3b067 := sorry
set_option maxRecDepth 20000 in
theorem gJ2_indexOfCharUnsafe_4cfef_J2_getChar_3b067 : GoodIn wsJ2_indexOfCharUnsafe_4cfef (va_wsS RJ2 71 yJ2_getChar_3b067 wsJ2_getChar_3b067) := sorry
def dtJ2_indexOfCharUnsafe_4cfef_0_0 : List (Nat × Instr × Nat) := [(0, .iload_n 2, 1), (1, .istore 4, 2), (3, .iload 4, 2), (5, .iload_n 3, 1), (6, .if_icmp .ge 22, 3), (9, .aload_n 0, 1), (10, .iload 4, 2), (12, .invokestatic 71, 3), (15, .iload_n 1, 1), (16, .if_icmp .ne 6, 3), (19, .iload 4, 2), (21, .ireturn, 1), (22, .iinc 4 1, 3), (25, .goto (-22), 3), (28, .iconst (-1), 1), (29, .ireturn, 1)]
theorem dtJ2_indexOfCharUnsafe_4cfef_0_0_ok : dcAll cJ2_indexOfCharUnsafe_4cfef dtJ2_indexOfCharUnsafe_4cfef_0_0 = true := sorry
theorem dJ2_indexOfCharUnsafe_4cfef_0 : decode cJ2_indexOfCharUnsafe_4cfef 0 = .ok (.iload_n 2, 1) := sorry
theorem dJ2_indexOfCharUnsafe_4cfef_1 : decode cJ2_indexOfCharUnsafe_4cfef 1 = .ok (.istore 4, 2) := sorry
theorem dJ2_indexOfCharUnsafe_4cfef_3 : decode cJ2_indexOfCharUnsafe_4cfef 3 = .ok (.iload 4, 2) := sorry
theorem dJ2_indexOfCharUnsafe_4cfef_5 : decode cJ2_indexOfCharUnsafe_4cfef 5 = .ok (.iload_n 3, 1) := sorry
theorem dJ2_indexOfCharUnsafe_4cfef_6 : decode cJ2_indexOfCharUnsafe_4cfef 6 = .ok (.if_icmp .ge 22, 3) := sorry
theorem dJ2_indexOfCharUnsafe_4cfef_9 : decode cJ2_indexOfCharUnsafe_4cfef 9 = .ok (.aload_n 0, 1) := sorry
theorem dJ2_indexOfCharUnsafe_4cfef_10 : decode cJ2_indexOfCharUnsafe_4cfef 10 = .ok (.iload 4, 2) := sorry
theorem dJ2_indexOfCharUnsafe_4cfef_12 : decode cJ2_indexOfCharUnsafe_4cfef 12 = .ok (.invokestatic 71, 3) := sorry
theorem dJ2_indexOfCharUnsafe_4cfef_15 : decode cJ2_indexOfCharUnsafe_4cfef 15 = .ok (.iload_n 1, 1) := sorry
theorem dJ2_indexOfCharUnsafe_4cfef_16 : decode cJ2_indexOfCharUnsafe_4cfef 16 = .ok (.if_icmp .ne 6, 3) := sorry
theorem dJ2_indexOfCharUnsafe_4cfef_19 : decode cJ2_indexOfCharUnsafe_4cfef 19 = .ok (.iload 4, 2) := sorry
theorem dJ2_indexOfCharUnsafe_4cfef_21 : decode cJ2_indexOfCharUnsafe_4cfef 21 = .ok (.ireturn, 1) := sorry
theorem dJ2_indexOfCharUnsafe_4cfef_22 : decode cJ2_indexOfCharUnsafe_4cfef 22 = .ok (.iinc 4 1, 3) := sorry
theorem dJ2_indexOfCharUnsafe_4cfef_25 : decode cJ2_indexOfCharUnsafe_4cfef 25 = .ok (.goto (-22), 3) := sorry
theorem dJ2_indexOfCharUnsafe_4cfef_28 : decode cJ2_indexOfCharUnsafe_4cfef 28 = .ok (.iconst (-1), 1) := sorry
theorem dJ2_indexOfCharUnsafe_4cfef_29 : decode cJ2_indexOfCharUnsafe_4cfef 29 = .ok (.ireturn, 1) := sorry
set_option maxRecDepth 20000 in
theorem ggJ2_indexOfSupplementary_4cfef_J11_isValidCodePoint_9a6ad : GoodIn wsJ2_indexOfSupplementary_4cfef wsJ11_isValidCodePoint_9a6ad := sorry
set_option maxRecDepth 20000 in
theorem gJ2_indexOfSupplementary_4cfef_J11_isValidCodePoint_9a6ad : GoodIn wsJ2_indexOfSupplementary_4cfef (va_wsS RJ2 164 yJ11_isValidCodePoint_9a6ad wsJ11_isValidCodePoint_9a6ad) := sorry
set_option maxRecDepth 20000 in
theorem ggJ2_indexOfSupplementary_4cfef_J11_highSurrogate_5068e : GoodIn wsJ2_indexOfSupplementary_4cfef wsJ11_highSurrogate_5068e := sorry
set_option maxRecDepth 20000 in
theorem gJ2_indexOfSupplementary_4cfef_J11_highSurrogate_5068e : GoodIn wsJ2_indexOfSupplementary_4cfef (va_wsS RJ2 157 yJ11_highSurrogate_5068e wsJ11_highSurrogate_5068e) := sorry
set_option maxRecDepth 20000 in
theorem ggJ2_indexOfSupplementary_4cfef_J11_lowSurrogate_5068e : GoodIn wsJ2_indexOfSupplementary_4cfef wsJ11_lowSurrogate_5068e := sorry
set_option maxRecDepth 20000 in
theorem gJ2_indexOfSupplementary_4cfef_J11_lowSurrogate_5068e : GoodIn wsJ2_indexOfSupplementary_4cfef (va_wsS RJ2 161 yJ11_lowSurrogate_5068e wsJ11_lowSurrogate_5068e) := sorry
set_option maxRecDepth 20000 in
theorem ggJ2_indexOfSupplementary_4cfef_J2_checkBoundsBeginEnd_d044e : GoodIn wsJ2_indexOfSupplementary_4cfef wsJ2_checkBoundsBeginEnd_d044e := sorry
set_option maxRecDepth 20000 in
theorem gJ2_indexOfSupplementary_4cfef_J2_checkBoundsBeginEnd_d044e : GoodIn wsJ2_indexOfSupplementary_4cfef (va_wsS RJ2 96 yJ2_checkBoundsBeginEnd_d044e wsJ2_checkBoundsBeginEnd_d044e) := sorry
set_option maxRecDepth 20000 in
theorem ggJ2_indexOfSupplementary_4cfef_J2_getChar_3b067 : GoodIn wsJ2_indexOfSupplementary_4cfef wsJ2_getChar_3b067 := sorry
set_option maxRecDepth 20000 in
theorem gJ2_indexOfSupplementary_4cfef_J2_getChar_3b067 : GoodIn wsJ2_indexOfSupplementary_4cfef (va_wsS RJ2 71 yJ2_getChar_3b067 wsJ2_getChar_3b067) := sorry
def dtJ2_indexOfSupplementary_4cfef_0_0 : List (Nat × Instr × Nat) := [(0, .iload_n 1, 1), (1, .invokestatic 164, 3), (4, .ifCond .eq 65, 3), (7, .iload_n 1, 1), (8, .invokestatic 157, 3), (11, .istore 4, 2), (13, .iload_n 1, 1), (14, .invokestatic 161, 3), (17, .istore 5, 2), (19, .iload_n 2, 1), (20, .iload_n 3, 1), (21, .aload_n 0, 1), (22, .invokestatic 96, 3), (25, .iload_n 2, 1), (26, .istore 6, 2), (28, .iload 6, 2), (30, .iload_n 3, 1), (31, .iconst 1, 1), (32, .isub, 1), (33, .if_icmp .ge 36, 3), (36, .aload_n 0, 1), (37, .iload 6, 2), (39, .invokestatic 71, 3), (42, .iload 4, 2), (44, .if_icmp .ne 19, 3), (47, .aload_n 0, 1), (48, .iload 6, 2), (50, .iconst 1, 1), (51, .iadd, 1), (52, .invokestatic 71, 3), (55, .iload 5, 2), (57, .if_icmp .ne 6, 3)]
theorem dtJ2_indexOfSupplementary_4cfef_0_0_ok : dcAll cJ2_indexOfSupplementary_4cfef dtJ2_indexOfSupplementary_4cfef_0_0 = true := sorry
theorem dJ2_indexOfSupplementary_4cfef_0 : decode cJ2_indexOfSupplementary_4cfef 0 = .ok (.iload_n 1, 1) := sorry
theorem dJ2_indexOfSupplementary_4cfef_1 : decode cJ2_indexOfSupplementary_4cfef 1 = .ok (.invokestatic 164, 3) := sorry
theorem dJ2_indexOfSupplementary_4cfef_4 : decode cJ2_indexOfSupplementary_4cfef 4 = .ok (.ifCond .eq 65, 3) := sorry
theorem dJ2_indexOfSupplementary_4cfef_7 : decode cJ2_indexOfSupplementary_4cfef 7 = .ok (.iload_n 1, 1) := sorry
theorem dJ2_indexOfSupplementary_4cfef_8 : decode cJ2_indexOfSupplementary_4cfef 8 = .ok (.invokestatic 157, 3) := sorry
theorem dJ2_indexOfSupplementary_4cfef_11 : decode cJ2_indexOfSupplementary_4cfef 11 = .ok (.istore 4, 2) := sorry
theorem dJ2_indexOfSupplementary_4cfef_13 : decode cJ2_indexOfSupplementary_4cfef 13 = .ok (.iload_n 1, 1) := sorry
theorem dJ2_indexOfSupplementary_4cfef_14 : decode cJ2_indexOfSupplementary_4cfef 14 = .ok (.invokestatic 161, 3) := sorry
theorem dJ2_indexOfSupplementary_4cfef_17 : decode cJ2_indexOfSupplementary_4cfef 17 = .ok (.istore 5, 2) := sorry
theorem dJ2_indexOfSupplementary_4cfef_19 : decode cJ2_indexOfSupplementary_4cfef 19 = .ok (.iload_n 2, 1) := sorry
theorem dJ2_indexOfSupplementary_4cfef_20 : decode cJ2_indexOfSupplementary_4cfef 20 = .ok (.iload_n 3, 1) := sorry
theorem dJ2_indexOfSupplementary_4cfef_21 : decode cJ2_indexOfSupplementary_4cfef 21 = .ok (.aload_n 0, 1) := sorry
theorem dJ2_indexOfSupplementary_4cfef_22 : decode cJ2_indexOfSupplementary_4cfef 22 = .ok (.invokestatic 96, 3) := sorry
theorem dJ2_indexOfSupplementary_4cfef_25 : decode cJ2_indexOfSupplementary_4cfef 25 = .ok (.iload_n 2, 1) := sorry
theorem dJ2_indexOfSupplementary_4cfef_26 : decode cJ2_indexOfSupplementary_4cfef 26 = .ok (.istore 6, 2) := sorry
theorem dJ2_indexOfSupplementary_4cfef_28 : decode cJ2_indexOfSupplementary_4cfef 28 = .ok (.iload 6, 2) := sorry
theorem dJ2_indexOfSupplementary_4cfef_30 : decode cJ2_indexOfSupplementary_4cfef 30 = .ok (.iload_n 3, 1) := sorry
theorem dJ2_indexOfSupplementary_4cfef_31 : decode cJ2_indexOfSupplementary_4cfef 31 = .ok (.iconst 1, 1) := sorry
theorem dJ2_indexOfSupplementary_4cfef_32 : decode cJ2_indexOfSupplementary_4cfef 32 = .ok (.isub, 1) := sorry
theorem dJ2_indexOfSupplementary_4cfef_33 : decode cJ2_indexOfSupplementary_4cfef 33 = .ok (.if_icmp .ge 36, 3) := sorry
theorem dJ2_indexOfSupplementary_4cfef_36 : decode cJ2_indexOfSupplementary_4cfef 36 = .ok (.aload_n 0, 1) := sorry
theorem dJ2_indexOfSupplementary_4cfef_37 : decode cJ2_indexOfSupplementary_4cfef 37 = .ok (.iload 6, 2) := sorry
theorem dJ2_indexOfSupplementary_4cfef_39 : decode cJ2_indexOfSupplementary_4cfef 39 = .ok (.invokestatic 71, 3) := sorry
theorem dJ2_indexOfSupplementary_4cfef_42 : decode cJ2_indexOfSupplementary_4cfef 42 = .ok (.iload 4, 2) := sorry
theorem dJ2_indexOfSupplementary_4cfef_44 : decode cJ2_indexOfSupplementary_4cfef 44 = .ok (.if_icmp .ne 19, 3) := sorry
theorem dJ2_indexOfSupplementary_4cfef_47 : decode cJ2_indexOfSupplementary_4cfef 47 = .ok (.aload_n 0, 1) := sorry
theorem dJ2_indexOfSupplementary_4cfef_48 : decode cJ2_indexOfSupplementary_4cfef 48 = .ok (.iload 6, 2) := sorry
theorem dJ2_indexOfSupplementary_4cfef_50 : decode cJ2_indexOfSupplementary_4cfef 50 = .ok (.iconst 1, 1) := sorry
theorem dJ2_indexOfSupplementary_4cfef_51 : decode cJ2_indexOfSupplementary_4cfef 51 = .ok (.iadd, 1) := sorry
theorem dJ2_indexOfSupplementary_4cfef_52 : decode cJ2_indexOfSupplementary_4cfef 52 = .ok (.invokestatic 71, 3) := sorry
theorem dJ2_indexOfSupplementary_4cfef_55 : decode cJ2_indexOfSupplementary_4cfef 55 = .ok (.iload 5, 2) := sorry
theorem dJ2_indexOfSupplementary_4cfef_57 : decode cJ2_indexOfSupplementary_4cfef 57 = .ok (.if_icmp .ne 6, 3) := sorry
def dtJ2_indexOfSupplementary_4cfef_60_1 : List (Nat × Instr × Nat) := [(60, .iload 6, 2), (62, .ireturn, 1), (63, .iinc 6 1, 3), (66, .goto (-38), 3), (69, .iconst (-1), 1), (70, .ireturn, 1)]
theorem dtJ2_indexOfSupplementary_4cfef_60_1_ok : dcAll cJ2_indexOfSupplementary_4cfef dtJ2_indexOfSupplementary_4cfef_60_1 = true := sorry
theorem dJ2_indexOfSupplementary_4cfef_60 : decode cJ2_indexOfSupplementary_4cfef 60 = .ok (.iload 6, 2) := sorry
theorem dJ2_indexOfSupplementary_4cfef_62 : decode cJ2_indexOfSupplementary_4cfef 62 = .ok (.ireturn, 1) := sorry
theorem dJ2_indexOfSupplementary_4cfef_63 : decode cJ2_indexOfSupplementary_4cfef 63 = .ok (.iinc 6 1, 3) := sorry
theorem dJ2_indexOfSupplementary_4cfef_66 : decode cJ2_indexOfSupplementary_4cfef 66 = .ok (.goto (-38), 3) := sorry
theorem dJ2_indexOfSupplementary_4cfef_69 : decode cJ2_indexOfSupplementary_4cfef 69 = .ok (.iconst (-1), 1) := sorry
theorem dJ2_indexOfSupplementary_4cfef_70 : decode cJ2_indexOfSupplementary_4cfef 70 = .ok (.ireturn, 1) := sorry
set_option maxRecDepth 20000 in
theorem ggJ2_charAt_3b067_J2_checkIndex_2214a : GoodIn wsJ2_charAt_3b067 wsJ2_checkIndex_2214a := sorry
set_option maxRecDepth 20000 in
theorem gJ2_charAt_3b067_J2_checkIndex_2214a : GoodIn wsJ2_charAt_3b067 (va_wsS RJ2 67 yJ2_checkIndex_2214a wsJ2_checkIndex_2214a) := sorry
set_option maxRecDepth 20000 in
theorem ggJ2_charAt_3b067_J2_getChar_3b067 : GoodIn wsJ2_charAt_3b067 wsJ2_getChar_3b067 := sorry
set_option maxRecDepth 20000 in
theorem gJ2_charAt_3b067_J2_getChar_3b067 : GoodIn wsJ2_charAt_3b067 (va_wsS RJ2 71 yJ2_getChar_3b067 wsJ2_getChar_3b067) := sorry
def dtJ2_charAt_3b067_0_0 : List (Nat × Instr × Nat) := [(0, .iload_n 1, 1), (1, .aload_n 0, 1), (2, .invokestatic 67, 3), (5, .aload_n 0, 1), (6, .iload_n 1, 1), (7, .invokestatic 71, 3), (10, .ireturn, 1)]
theorem dtJ2_charAt_3b067_0_0_ok : dcAll cJ2_charAt_3b067 dtJ2_charAt_3b067_0_0 = true := sorry
theorem dJ2_charAt_3b067_0 : decode cJ2_charAt_3b067 0 = .ok (.iload_n 1, 1) := sorry
theorem dJ2_charAt_3b067_1 : decode cJ2_charAt_3b067 1 = .ok (.aload_n 0, 1) := sorry
theorem dJ2_charAt_3b067_2 : decode cJ2_charAt_3b067 2 = .ok (.invokestatic 67, 3) := sorry
theorem dJ2_charAt_3b067_5 : decode cJ2_charAt_3b067 5 = .ok (.aload_n 0, 1) := sorry
theorem dJ2_charAt_3b067_6 : decode cJ2_charAt_3b067 6 = .ok (.iload_n 1, 1) := sorry
theorem dJ2_charAt_3b067_7 : decode cJ2_charAt_3b067 7 = .ok (.invokestatic 71, 3) := sorry
theorem dJ2_charAt_3b067_10 : decode cJ2_charAt_3b067 10 = .ok (.ireturn, 1) := sorry
set_option maxRecDepth 20000 in
theorem ggJ2_checkIndex_2214a_J2_length_9d52b : GoodIn wsJ2_checkIndex_2214a wsJ2_length_9d52b := sorry
set_option maxRecDepth 20000 in
theorem gJ2_checkIndex_2214a_J2_length_9d52b : GoodIn wsJ2_checkIndex_2214a (va_wsS RJ2 48 yJ2_length_9d52b wsJ2_length_9d52b) := sorry
set_option maxRecDepth 20000 in
theorem ggJ2_checkIndex_2214a_J0_checkIndex_df160 : GoodIn wsJ2_checkIndex_2214a wsJ0_checkIndex_df160 := sorry
set_option maxRecDepth 20000 in
theorem gJ2_checkIndex_2214a_J0_checkIndex_df160 : GoodIn wsJ2_checkIndex_2214a (va_wsS RJ2 414 yJ0_checkIndex_df160 wsJ0_checkIndex_df160) := sorry
def dtJ2_checkIndex_2214a_0_0 : List (Nat × Instr × Nat) := [(0, .iload_n 0, 1), (1, .aload_n 1, 1), (2, .invokestatic 48, 3), (5, .invokestatic 414, 3), (8, .return_, 1)]
theorem dtJ2_checkIndex_2214a_0_0_ok : dcAll cJ2_checkIndex_2214a dtJ2_checkIndex_2214a_0_0 = true := sorry
theorem dJ2_checkIndex_2214a_0 : decode cJ2_checkIndex_2214a 0 = .ok (.iload_n 0, 1) := sorry
theorem dJ2_checkIndex_2214a_1 : decode cJ2_checkIndex_2214a 1 = .ok (.aload_n 1, 1) := sorry
theorem dJ2_checkIndex_2214a_2 : decode cJ2_checkIndex_2214a 2 = .ok (.invokestatic 48, 3) := sorry
theorem dJ2_checkIndex_2214a_5 : decode cJ2_checkIndex_2214a 5 = .ok (.invokestatic 414, 3) := sorry
theorem dJ2_checkIndex_2214a_8 : decode cJ2_checkIndex_2214a 8 = .ok (.return_, 1) := sorry
set_option maxRecDepth 20000 in
theorem ggJ2_checkBoundsBeginEnd_d044e_J2_length_9d52b : GoodIn wsJ2_checkBoundsBeginEnd_d044e wsJ2_length_9d52b := sorry
set_option maxRecDepth 20000 in
theorem gJ2_checkBoundsBeginEnd_d044e_J2_length_9d52b : GoodIn wsJ2_checkBoundsBeginEnd_d044e (va_wsS RJ2 48 yJ2_length_9d52b wsJ2_length_9d52b) := sorry
set_option maxRecDepth 20000 in
theorem ggJ2_checkBoundsBeginEnd_d044e_J0_checkBoundsBeginEnd_23922 : GoodIn wsJ2_checkBoundsBeginEnd_d044e wsJ0_checkBoundsBeginEnd_23922 := sorry
set_option maxRecDepth 20000 in
theorem gJ2_checkBoundsBeginEnd_d044e_J0_checkBoundsBeginEnd_23922 : GoodIn wsJ2_checkBoundsBeginEnd_d044e (va_wsS RJ2 241 yJ0_checkBoundsBeginEnd_23922 wsJ0_checkBoundsBeginEnd_23922) := sorry
def dtJ2_checkBoundsBeginEnd_d044e_0_0 : List (Nat × Instr × Nat) := [(0, .iload_n 0, 1), (1, .iload_n 1, 1), (2, .aload_n 2, 1), (3, .invokestatic 48, 3), (6, .invokestatic 241, 3), (9, .return_, 1)]
theorem dtJ2_checkBoundsBeginEnd_d044e_0_0_ok : dcAll cJ2_checkBoundsBeginEnd_d044e dtJ2_checkBoundsBeginEnd_d044e_0_0 = true := sorry
theorem dJ2_checkBoundsBeginEnd_d044e_0 : decode cJ2_checkBoundsBeginEnd_d044e 0 = .ok (.iload_n 0, 1) := sorry
theorem dJ2_checkBoundsBeginEnd_d044e_1 : decode cJ2_checkBoundsBeginEnd_d044e 1 = .ok (.iload_n 1, 1) := sorry
theorem dJ2_checkBoundsBeginEnd_d044e_2 : decode cJ2_checkBoundsBeginEnd_d044e 2 = .ok (.aload_n 2, 1) := sorry
theorem dJ2_checkBoundsBeginEnd_d044e_3 : decode cJ2_checkBoundsBeginEnd_d044e 3 = .ok (.invokestatic 48, 3) := sorry
theorem dJ2_checkBoundsBeginEnd_d044e_6 : decode cJ2_checkBoundsBeginEnd_d044e 6 = .ok (.invokestatic 241, 3) := sorry
theorem dJ2_checkBoundsBeginEnd_d044e_9 : decode cJ2_checkBoundsBeginEnd_d044e 9 = .ok (.return_, 1) := sorry
def dtJ3_checkIndex_8e157_0_0 : List (Nat × Instr × Nat) := [(0, .iload_n 0, 1), (1, .ifCond .lt 8, 3), (4, .iload_n 0, 1), (5, .iload_n 1, 1), (6, .if_icmp .lt 10, 3), (9, .aload_n 2, 1), (10, .iload_n 0, 1), (11, .iload_n 1, 1), (12, .invokestatic 95, 3), (15, .athrow, 1), (16, .iload_n 0, 1), (17, .ireturn, 1)]
theorem dtJ3_checkIndex_8e157_0_0_ok : dcAll cJ3_checkIndex_8e157 dtJ3_checkIndex_8e157_0_0 = true := sorry
theorem dJ3_checkIndex_8e157_0 : decode cJ3_checkIndex_8e157 0 = .ok (.iload_n 0, 1) := sorry
theorem dJ3_checkIndex_8e157_1 : decode cJ3_checkIndex_8e157 1 = .ok (.ifCond .lt 8, 3) := sorry
theorem dJ3_checkIndex_8e157_4 : decode cJ3_checkIndex_8e157 4 = .ok (.iload_n 0, 1) := sorry
theorem dJ3_checkIndex_8e157_5 : decode cJ3_checkIndex_8e157 5 = .ok (.iload_n 1, 1) := sorry
theorem dJ3_checkIndex_8e157_6 : decode cJ3_checkIndex_8e157 6 = .ok (.if_icmp .lt 10, 3) := sorry
theorem dJ3_checkIndex_8e157_9 : decode cJ3_checkIndex_8e157 9 = .ok (.aload_n 2, 1) := sorry
theorem dJ3_checkIndex_8e157_10 : decode cJ3_checkIndex_8e157 10 = .ok (.iload_n 0, 1) := sorry
theorem dJ3_checkIndex_8e157_11 : decode cJ3_checkIndex_8e157 11 = .ok (.iload_n 1, 1) := sorry
theorem dJ3_checkIndex_8e157_12 : decode cJ3_checkIndex_8e157 12 = .ok (.invokestatic 95, 3) := sorry
theorem dJ3_checkIndex_8e157_15 : decode cJ3_checkIndex_8e157 15 = .ok (.athrow, 1) := sorry
theorem dJ3_checkIndex_8e157_16 : decode cJ3_checkIndex_8e157 16 = .ok (.iload_n 0, 1) := sorry
theorem dJ3_checkIndex_8e157_17 : decode cJ3_checkIndex_8e157 17 = .ok (.ireturn, 1) := sorry
def dtJ3_checkFromToIndex_8c36e_0_0 : List (Nat × Instr × Nat) := [(0, .iload_n 0, 1), (1, .ifCond .lt 13, 3), (4, .iload_n 0, 1), (5, .iload_n 1, 1), (6, .if_icmp .gt 8, 3), (9, .iload_n 1, 1), (10, .iload_n 2, 1), (11, .if_icmp .le 11, 3), (14, .aload_n 3, 1), (15, .iload_n 0, 1), (16, .iload_n 1, 1), (17, .iload_n 2, 1), (18, .invokestatic 99, 3), (21, .athrow, 1), (22, .iload_n 0, 1), (23, .ireturn, 1)]
theorem dtJ3_checkFromToIndex_8c36e_0_0_ok : dcAll cJ3_checkFromToIndex_8c36e dtJ3_checkFromToIndex_8c36e_0_0 = true := sorry
theorem dJ3_checkFromToIndex_8c36e_0 : decode cJ3_checkFromToIndex_8c36e 0 = .ok (.iload_n 0, 1) := sorry
theorem dJ3_checkFromToIndex_8c36e_1 : decode cJ3_checkFromToIndex_8c36e 1 = .ok (.ifCond .lt 13, 3) := sorry
theorem dJ3_checkFromToIndex_8c36e_4 : decode cJ3_checkFromToIndex_8c36e 4 = .ok (.iload_n 0, 1) := sorry
theorem dJ3_checkFromToIndex_8c36e_5 : decode cJ3_checkFromToIndex_8c36e 5 = .ok (.iload_n 1, 1) := sorry
theorem dJ3_checkFromToIndex_8c36e_6 : decode cJ3_checkFromToIndex_8c36e 6 = .ok (.if_icmp .gt 8, 3) := sorry
theorem dJ3_checkFromToIndex_8c36e_9 : decode cJ3_checkFromToIndex_8c36e 9 = .ok (.iload_n 1, 1) := sorry
theorem dJ3_checkFromToIndex_8c36e_10 : decode cJ3_checkFromToIndex_8c36e 10 = .ok (.iload_n 2, 1) := sorry
theorem dJ3_checkFromToIndex_8c36e_11 : decode cJ3_checkFromToIndex_8c36e 11 = .ok (.if_icmp .le 11, 3) := sorry
theorem dJ3_checkFromToIndex_8c36e_14 : decode cJ3_checkFromToIndex_8c36e 14 = .ok (.aload_n 3, 1) := sorry
theorem dJ3_checkFromToIndex_8c36e_15 : decode cJ3_checkFromToIndex_8c36e 15 = .ok (.iload_n 0, 1) := sorry
theorem dJ3_checkFromToIndex_8c36e_16 : decode cJ3_checkFromToIndex_8c36e 16 = .ok (.iload_n 1, 1) := sorry
theorem dJ3_checkFromToIndex_8c36e_17 : decode cJ3_checkFromToIndex_8c36e 17 = .ok (.iload_n 2, 1) := sorry
theorem dJ3_checkFromToIndex_8c36e_18 : decode cJ3_checkFromToIndex_8c36e 18 = .ok (.invokestatic 99, 3) := sorry
theorem dJ3_checkFromToIndex_8c36e_21 : decode cJ3_checkFromToIndex_8c36e 21 = .ok (.athrow, 1) := sorry
theorem dJ3_checkFromToIndex_8c36e_22 : decode cJ3_checkFromToIndex_8c36e 22 = .ok (.iload_n 0, 1) := sorry
theorem dJ3_checkFromToIndex_8c36e_23 : decode cJ3_checkFromToIndex_8c36e 23 = .ok (.ireturn, 1) := sorry

end
