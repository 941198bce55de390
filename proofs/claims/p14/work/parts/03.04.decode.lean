def dtX7_isReserved_169_0 : List (Nat × Instr × Nat) := [(169, .ldc 180, 2), (171, .invokevirtual 140, 3), (174, .ifCond .ne 12, 3), (177, .aload_n 0, 1), (178, .ldc 182, 2), (180, .invokevirtual 140, 3), (183, .ifCond .eq 7, 3), (186, .iconst 1, 1), (187, .goto 4, 3), (190, .iconst 0, 1), (191, .ireturn, 1)]
theorem dtX7_isReserved_169_0_ok : dcAll cX7_isReserved dtX7_isReserved_169_0 = true := by decide +kernel
theorem dX7_isReserved_169 : decode cX7_isReserved 169 = .ok (.ldc 180, 2) := dc_of dtX7_isReserved_169_0_ok (i := 0) rfl
theorem dX7_isReserved_171 : decode cX7_isReserved 171 = .ok (.invokevirtual 140, 3) := dc_of dtX7_isReserved_169_0_ok (i := 1) rfl
theorem dX7_isReserved_174 : decode cX7_isReserved 174 = .ok (.ifCond .ne 12, 3) := dc_of dtX7_isReserved_169_0_ok (i := 2) rfl
theorem dX7_isReserved_177 : decode cX7_isReserved 177 = .ok (.aload_n 0, 1) := dc_of dtX7_isReserved_169_0_ok (i := 3) rfl
theorem dX7_isReserved_178 : decode cX7_isReserved 178 = .ok (.ldc 182, 2) := dc_of dtX7_isReserved_169_0_ok (i := 4) rfl
theorem dX7_isReserved_180 : decode cX7_isReserved 180 = .ok (.invokevirtual 140, 3) := dc_of dtX7_isReserved_169_0_ok (i := 5) rfl
theorem dX7_isReserved_183 : decode cX7_isReserved 183 = .ok (.ifCond .eq 7, 3) := dc_of dtX7_isReserved_169_0_ok (i := 6) rfl
theorem dX7_isReserved_186 : decode cX7_isReserved 186 = .ok (.iconst 1, 1) := dc_of dtX7_isReserved_169_0_ok (i := 7) rfl
theorem dX7_isReserved_187 : decode cX7_isReserved 187 = .ok (.goto 4, 3) := dc_of dtX7_isReserved_169_0_ok (i := 8) rfl
theorem dX7_isReserved_190 : decode cX7_isReserved 190 = .ok (.iconst 0, 1) := dc_of dtX7_isReserved_169_0_ok (i := 9) rfl
theorem dX7_isReserved_191 : decode cX7_isReserved 191 = .ok (.ireturn, 1) := dc_of dtX7_isReserved_169_0_ok (i := 10) rfl
def dtX7_named_0_0 : List (Nat × Instr × Nat) := [(0, .iconst 0, 1), (1, .istore_n 3, 1), (2, .iload_n 3, 1), (3, .aload_n 0, 1), (4, .getfield 184, 3), (7, .if_icmp .ge 22, 3), (10, .aload_n 0, 1), (11, .getfield 20, 3), (14, .iload_n 3, 1), (15, .laload, 1), (16, .lload_n 1, 1), (17, .lcmp, 1), (18, .ifCond .ne 5, 3), (21, .iload_n 3, 1), (22, .ireturn, 1), (23, .iinc 3 1, 3), (26, .goto (-24), 3), (29, .iconst (-1), 1), (30, .ireturn, 1)]
theorem dtX7_named_0_0_ok : dcAll cX7_named dtX7_named_0_0 = true := by decide +kernel
theorem dX7_named_0 : decode cX7_named 0 = .ok (.iconst 0, 1) := dc_of dtX7_named_0_0_ok (i := 0) rfl
theorem dX7_named_1 : decode cX7_named 1 = .ok (.istore_n 3, 1) := dc_of dtX7_named_0_0_ok (i := 1) rfl
theorem dX7_named_2 : decode cX7_named 2 = .ok (.iload_n 3, 1) := dc_of dtX7_named_0_0_ok (i := 2) rfl
theorem dX7_named_3 : decode cX7_named 3 = .ok (.aload_n 0, 1) := dc_of dtX7_named_0_0_ok (i := 3) rfl
theorem dX7_named_4 : decode cX7_named 4 = .ok (.getfield 184, 3) := dc_of dtX7_named_0_0_ok (i := 4) rfl
theorem dX7_named_7 : decode cX7_named 7 = .ok (.if_icmp .ge 22, 3) := dc_of dtX7_named_0_0_ok (i := 5) rfl
theorem dX7_named_10 : decode cX7_named 10 = .ok (.aload_n 0, 1) := dc_of dtX7_named_0_0_ok (i := 6) rfl
theorem dX7_named_11 : decode cX7_named 11 = .ok (.getfield 20, 3) := dc_of dtX7_named_0_0_ok (i := 7) rfl
theorem dX7_named_14 : decode cX7_named 14 = .ok (.iload_n 3, 1) := dc_of dtX7_named_0_0_ok (i := 8) rfl
theorem dX7_named_15 : decode cX7_named 15 = .ok (.laload, 1) := dc_of dtX7_named_0_0_ok (i := 9) rfl
theorem dX7_named_16 : decode cX7_named 16 = .ok (.lload_n 1, 1) := dc_of dtX7_named_0_0_ok (i := 10) rfl
theorem dX7_named_17 : decode cX7_named 17 = .ok (.lcmp, 1) := dc_of dtX7_named_0_0_ok (i := 11) rfl
theorem dX7_named_18 : decode cX7_named 18 = .ok (.ifCond .ne 5, 3) := dc_of dtX7_named_0_0_ok (i := 12) rfl
theorem dX7_named_21 : decode cX7_named 21 = .ok (.iload_n 3, 1) := dc_of dtX7_named_0_0_ok (i := 13) rfl
theorem dX7_named_22 : decode cX7_named 22 = .ok (.ireturn, 1) := dc_of dtX7_named_0_0_ok (i := 14) rfl
theorem dX7_named_23 : decode cX7_named 23 = .ok (.iinc 3 1, 3) := dc_of dtX7_named_0_0_ok (i := 15) rfl
theorem dX7_named_26 : decode cX7_named 26 = .ok (.goto (-24), 3) := dc_of dtX7_named_0_0_ok (i := 16) rfl
theorem dX7_named_29 : decode cX7_named 29 = .ok (.iconst (-1), 1) := dc_of dtX7_named_0_0_ok (i := 17) rfl
theorem dX7_named_30 : decode cX7_named 30 = .ok (.ireturn, 1) := dc_of dtX7_named_0_0_ok (i := 18) rfl
def dtX7_newName_0_0 : List (Nat × Instr × Nat) := [(0, .aload_n 0, 1), (1, .getfield 81, 3), (4, .ifCond .ne 23, 3), (7, .aload_n 0, 1), (8, .getfield 94, 3), (11, .iconst 2, 1), (12, .if_icmp .ne 10, 3), (15, .aload_n 0, 1), (16, .invokevirtual 187, 3), (19, .ifCond .eq 8, 3), (22, .aload_n 0, 1), (23, .iconst 1, 1), (24, .invokevirtual 134, 3), (27, .aload_n 0, 1), (28, .getfield 81, 3), (31, .ifCond .ne 19, 3), (34, .aload_n 0, 1), (35, .aload_n 0, 1), (36, .getfield 111, 3), (39, .invokevirtual 191, 3), (42, .ifCond .lt 8, 3), (45, .aload_n 0, 1), (46, .iconst 3, 1), (47, .invokevirtual 134, 3), (50, .aload_n 0, 1), (51, .getfield 81, 3), (54, .ifCond .ne 16, 3), (57, .aload_n 0, 1), (58, .getfield 20, 3), (61, .aload_n 0, 1), (62, .getfield 184, 3), (65, .aload_n 0, 1)]
theorem dtX7_newName_0_0_ok : dcAll cX7_newName dtX7_newName_0_0 = true := by decide +kernel
theorem dX7_newName_0 : decode cX7_newName 0 = .ok (.aload_n 0, 1) := dc_of dtX7_newName_0_0_ok (i := 0) rfl
theorem dX7_newName_1 : decode cX7_newName 1 = .ok (.getfield 81, 3) := dc_of dtX7_newName_0_0_ok (i := 1) rfl
theorem dX7_newName_4 : decode cX7_newName 4 = .ok (.ifCond .ne 23, 3) := dc_of dtX7_newName_0_0_ok (i := 2) rfl
theorem dX7_newName_7 : decode cX7_newName 7 = .ok (.aload_n 0, 1) := dc_of dtX7_newName_0_0_ok (i := 3) rfl
theorem dX7_newName_8 : decode cX7_newName 8 = .ok (.getfield 94, 3) := dc_of dtX7_newName_0_0_ok (i := 4) rfl
theorem dX7_newName_11 : decode cX7_newName 11 = .ok (.iconst 2, 1) := dc_of dtX7_newName_0_0_ok (i := 5) rfl
theorem dX7_newName_12 : decode cX7_newName 12 = .ok (.if_icmp .ne 10, 3) := dc_of dtX7_newName_0_0_ok (i := 6) rfl
theorem dX7_newName_15 : decode cX7_newName 15 = .ok (.aload_n 0, 1) := dc_of dtX7_newName_0_0_ok (i := 7) rfl
theorem dX7_newName_16 : decode cX7_newName 16 = .ok (.invokevirtual 187, 3) := dc_of dtX7_newName_0_0_ok (i := 8) rfl
theorem dX7_newName_19 : decode cX7_newName 19 = .ok (.ifCond .eq 8, 3) := dc_of dtX7_newName_0_0_ok (i := 9) rfl
theorem dX7_newName_22 : decode cX7_newName 22 = .ok (.aload_n 0, 1) := dc_of dtX7_newName_0_0_ok (i := 10) rfl
theorem dX7_newName_23 : decode cX7_newName 23 = .ok (.iconst 1, 1) := dc_of dtX7_newName_0_0_ok (i := 11) rfl
theorem dX7_newName_24 : decode cX7_newName 24 = .ok (.invokevirtual 134, 3) := dc_of dtX7_newName_0_0_ok (i := 12) rfl
theorem dX7_newName_27 : decode cX7_newName 27 = .ok (.aload_n 0, 1) := dc_of dtX7_newName_0_0_ok (i := 13) rfl
theorem dX7_newName_28 : decode cX7_newName 28 = .ok (.getfield 81, 3) := dc_of dtX7_newName_0_0_ok (i := 14) rfl
theorem dX7_newName_31 : decode cX7_newName 31 = .ok (.ifCond .ne 19, 3) := dc_of dtX7_newName_0_0_ok (i := 15) rfl
theorem dX7_newName_34 : decode cX7_newName 34 = .ok (.aload_n 0, 1) := dc_of dtX7_newName_0_0_ok (i := 16) rfl
theorem dX7_newName_35 : decode cX7_newName 35 = .ok (.aload_n 0, 1) := dc_of dtX7_newName_0_0_ok (i := 17) rfl
theorem dX7_newName_36 : decode cX7_newName 36 = .ok (.getfield 111, 3) := dc_of dtX7_newName_0_0_ok (i := 18) rfl
theorem dX7_newName_39 : decode cX7_newName 39 = .ok (.invokevirtual 191, 3) := dc_of dtX7_newName_0_0_ok (i := 19) rfl
theorem dX7_newName_42 : decode cX7_newName 42 = .ok (.ifCond .lt 8, 3) := dc_of dtX7_newName_0_0_ok (i := 20) rfl
theorem dX7_newName_45 : decode cX7_newName 45 = .ok (.aload_n 0, 1) := dc_of dtX7_newName_0_0_ok (i := 21) rfl
theorem dX7_newName_46 : decode cX7_newName 46 = .ok (.iconst 3, 1) := dc_of dtX7_newName_0_0_ok (i := 22) rfl
theorem dX7_newName_47 : decode cX7_newName 47 = .ok (.invokevirtual 134, 3) := dc_of dtX7_newName_0_0_ok (i := 23) rfl
theorem dX7_newName_50 : decode cX7_newName 50 = .ok (.aload_n 0, 1) := dc_of dtX7_newName_0_0_ok (i := 24) rfl
theorem dX7_newName_51 : decode cX7_newName 51 = .ok (.getfield 81, 3) := dc_of dtX7_newName_0_0_ok (i := 25) rfl
theorem dX7_newName_54 : decode cX7_newName 54 = .ok (.ifCond .ne 16, 3) := dc_of dtX7_newName_0_0_ok (i := 26) rfl
theorem dX7_newName_57 : decode cX7_newName 57 = .ok (.aload_n 0, 1) := dc_of dtX7_newName_0_0_ok (i := 27) rfl
theorem dX7_newName_58 : decode cX7_newName 58 = .ok (.getfield 20, 3) := dc_of dtX7_newName_0_0_ok (i := 28) rfl
theorem dX7_newName_61 : decode cX7_newName 61 = .ok (.aload_n 0, 1) := dc_of dtX7_newName_0_0_ok (i := 29) rfl
theorem dX7_newName_62 : decode cX7_newName 62 = .ok (.getfield 184, 3) := dc_of dtX7_newName_0_0_ok (i := 30) rfl
theorem dX7_newName_65 : decode cX7_newName 65 = .ok (.aload_n 0, 1) := dc_of dtX7_newName_0_0_ok (i := 31) rfl
def dtX7_newName_66_1 : List (Nat × Instr × Nat) := [(66, .getfield 111, 3), (69, .lastore, 1), (70, .aload_n 0, 1), (71, .invokevirtual 137, 3), (74, .return_, 1)]
theorem dtX7_newName_66_1_ok : dcAll cX7_newName dtX7_newName_66_1 = true := by decide +kernel
theorem dX7_newName_66 : decode cX7_newName 66 = .ok (.getfield 111, 3) := dc_of dtX7_newName_66_1_ok (i := 0) rfl
theorem dX7_newName_69 : decode cX7_newName 69 = .ok (.lastore, 1) := dc_of dtX7_newName_66_1_ok (i := 1) rfl
theorem dX7_newName_70 : decode cX7_newName 70 = .ok (.aload_n 0, 1) := dc_of dtX7_newName_66_1_ok (i := 2) rfl
theorem dX7_newName_71 : decode cX7_newName 71 = .ok (.invokevirtual 137, 3) := dc_of dtX7_newName_66_1_ok (i := 3) rfl
theorem dX7_newName_74 : decode cX7_newName 74 = .ok (.return_, 1) := dc_of dtX7_newName_66_1_ok (i := 4) rfl
def dtX7_relation_0_0 : List (Nat × Instr × Nat) := [(0, .aload_n 0, 1), (1, .getfield 81, 3), (4, .ifCond .ne 23, 3), (7, .aload_n 0, 1), (8, .getfield 94, 3), (11, .iconst 2, 1), (12, .if_icmp .ne 10, 3), (15, .aload_n 0, 1), (16, .invokevirtual 187, 3), (19, .ifCond .eq 8, 3), (22, .aload_n 0, 1), (23, .iconst 1, 1), (24, .invokevirtual 134, 3), (27, .aload_n 0, 1), (28, .getfield 81, 3), (31, .ifCond .le 7, 3), (34, .iconst (-1), 1), (35, .goto 11, 3), (38, .aload_n 0, 1), (39, .aload_n 0, 1), (40, .getfield 111, 3), (43, .invokevirtual 191, 3), (46, .istore_n 1, 1), (47, .iload_n 1, 1), (48, .ifCond .ge 8, 3), (51, .aload_n 0, 1), (52, .iconst 3, 1), (53, .invokevirtual 134, 3), (56, .aload_n 0, 1), (57, .invokevirtual 137, 3), (60, .iload_n 1, 1), (61, .ifCond .ge 7, 3)]
theorem dtX7_relation_0_0_ok : dcAll cX7_relation dtX7_relation_0_0 = true := by decide +kernel
theorem dX7_relation_0 : decode cX7_relation 0 = .ok (.aload_n 0, 1) := dc_of dtX7_relation_0_0_ok (i := 0) rfl
theorem dX7_relation_1 : decode cX7_relation 1 = .ok (.getfield 81, 3) := dc_of dtX7_relation_0_0_ok (i := 1) rfl
theorem dX7_relation_4 : decode cX7_relation 4 = .ok (.ifCond .ne 23, 3) := dc_of dtX7_relation_0_0_ok (i := 2) rfl
theorem dX7_relation_7 : decode cX7_relation 7 = .ok (.aload_n 0, 1) := dc_of dtX7_relation_0_0_ok (i := 3) rfl
theorem dX7_relation_8 : decode cX7_relation 8 = .ok (.getfield 94, 3) := dc_of dtX7_relation_0_0_ok (i := 4) rfl
theorem dX7_relation_11 : decode cX7_relation 11 = .ok (.iconst 2, 1) := dc_of dtX7_relation_0_0_ok (i := 5) rfl
theorem dX7_relation_12 : decode cX7_relation 12 = .ok (.if_icmp .ne 10, 3) := dc_of dtX7_relation_0_0_ok (i := 6) rfl
theorem dX7_relation_15 : decode cX7_relation 15 = .ok (.aload_n 0, 1) := dc_of dtX7_relation_0_0_ok (i := 7) rfl
theorem dX7_relation_16 : decode cX7_relation 16 = .ok (.invokevirtual 187, 3) := dc_of dtX7_relation_0_0_ok (i := 8) rfl
theorem dX7_relation_19 : decode cX7_relation 19 = .ok (.ifCond .eq 8, 3) := dc_of dtX7_relation_0_0_ok (i := 9) rfl
theorem dX7_relation_22 : decode cX7_relation 22 = .ok (.aload_n 0, 1) := dc_of dtX7_relation_0_0_ok (i := 10) rfl
theorem dX7_relation_23 : decode cX7_relation 23 = .ok (.iconst 1, 1) := dc_of dtX7_relation_0_0_ok (i := 11) rfl
theorem dX7_relation_24 : decode cX7_relation 24 = .ok (.invokevirtual 134, 3) := dc_of dtX7_relation_0_0_ok (i := 12) rfl
theorem dX7_relation_27 : decode cX7_relation 27 = .ok (.aload_n 0, 1) := dc_of dtX7_relation_0_0_ok (i := 13) rfl
theorem dX7_relation_28 : decode cX7_relation 28 = .ok (.getfield 81, 3) := dc_of dtX7_relation_0_0_ok (i := 14) rfl
theorem dX7_relation_31 : decode cX7_relation 31 = .ok (.ifCond .le 7, 3) := dc_of dtX7_relation_0_0_ok (i := 15) rfl
theorem dX7_relation_34 : decode cX7_relation 34 = .ok (.iconst (-1), 1) := dc_of dtX7_relation_0_0_ok (i := 16) rfl
theorem dX7_relation_35 : decode cX7_relation 35 = .ok (.goto 11, 3) := dc_of dtX7_relation_0_0_ok (i := 17) rfl
theorem dX7_relation_38 : decode cX7_relation 38 = .ok (.aload_n 0, 1) := dc_of dtX7_relation_0_0_ok (i := 18) rfl
theorem dX7_relation_39 : decode cX7_relation 39 = .ok (.aload_n 0, 1) := dc_of dtX7_relation_0_0_ok (i := 19) rfl
theorem dX7_relation_40 : decode cX7_relation 40 = .ok (.getfield 111, 3) := dc_of dtX7_relation_0_0_ok (i := 20) rfl
theorem dX7_relation_43 : decode cX7_relation 43 = .ok (.invokevirtual 191, 3) := dc_of dtX7_relation_0_0_ok (i := 21) rfl
theorem dX7_relation_46 : decode cX7_relation 46 = .ok (.istore_n 1, 1) := dc_of dtX7_relation_0_0_ok (i := 22) rfl
theorem dX7_relation_47 : decode cX7_relation 47 = .ok (.iload_n 1, 1) := dc_of dtX7_relation_0_0_ok (i := 23) rfl
theorem dX7_relation_48 : decode cX7_relation 48 = .ok (.ifCond .ge 8, 3) := dc_of dtX7_relation_0_0_ok (i := 24) rfl
theorem dX7_relation_51 : decode cX7_relation 51 = .ok (.aload_n 0, 1) := dc_of dtX7_relation_0_0_ok (i := 25) rfl
theorem dX7_relation_52 : decode cX7_relation 52 = .ok (.iconst 3, 1) := dc_of dtX7_relation_0_0_ok (i := 26) rfl
theorem dX7_relation_53 : decode cX7_relation 53 = .ok (.invokevirtual 134, 3) := dc_of dtX7_relation_0_0_ok (i := 27) rfl
theorem dX7_relation_56 : decode cX7_relation 56 = .ok (.aload_n 0, 1) := dc_of dtX7_relation_0_0_ok (i := 28) rfl
theorem dX7_relation_57 : decode cX7_relation 57 = .ok (.invokevirtual 137, 3) := dc_of dtX7_relation_0_0_ok (i := 29) rfl
theorem dX7_relation_60 : decode cX7_relation 60 = .ok (.iload_n 1, 1) := dc_of dtX7_relation_0_0_ok (i := 30) rfl
theorem dX7_relation_61 : decode cX7_relation 61 = .ok (.ifCond .ge 7, 3) := dc_of dtX7_relation_0_0_ok (i := 31) rfl
def dtX7_relation_64_1 : List (Nat × Instr × Nat) := [(64, .iconst 0, 1), (65, .goto 4, 3), (68, .iload_n 1, 1), (69, .ireturn, 1)]
theorem dtX7_relation_64_1_ok : dcAll cX7_relation dtX7_relation_64_1 = true := by decide +kernel
theorem dX7_relation_64 : decode cX7_relation 64 = .ok (.iconst 0, 1) := dc_of dtX7_relation_64_1_ok (i := 0) rfl
theorem dX7_relation_65 : decode cX7_relation 65 = .ok (.goto 4, 3) := dc_of dtX7_relation_64_1_ok (i := 1) rfl
theorem dX7_relation_68 : decode cX7_relation 68 = .ok (.iload_n 1, 1) := dc_of dtX7_relation_64_1_ok (i := 2) rfl
theorem dX7_relation_69 : decode cX7_relation 69 = .ok (.ireturn, 1) := dc_of dtX7_relation_64_1_ok (i := 3) rfl
def dtX7_columns_0_0 : List (Nat × Instr × Nat) := [(0, .aload_n 0, 1), (1, .getfield 17, 3), (4, .bipush 40, 2), (6, .iload_n 1, 1), (7, .imul, 1), (8, .iconst 1, 1), (9, .iadd, 1), (10, .iaload, 1), (11, .ireturn, 1)]
theorem dtX7_columns_0_0_ok : dcAll cX7_columns dtX7_columns_0_0 = true := by decide +kernel
theorem dX7_columns_0 : decode cX7_columns 0 = .ok (.aload_n 0, 1) := dc_of dtX7_columns_0_0_ok (i := 0) rfl
theorem dX7_columns_1 : decode cX7_columns 1 = .ok (.getfield 17, 3) := dc_of dtX7_columns_0_0_ok (i := 1) rfl
theorem dX7_columns_4 : decode cX7_columns 4 = .ok (.bipush 40, 2) := dc_of dtX7_columns_0_0_ok (i := 2) rfl
theorem dX7_columns_6 : decode cX7_columns 6 = .ok (.iload_n 1, 1) := dc_of dtX7_columns_0_0_ok (i := 3) rfl
theorem dX7_columns_7 : decode cX7_columns 7 = .ok (.imul, 1) := dc_of dtX7_columns_0_0_ok (i := 4) rfl
theorem dX7_columns_8 : decode cX7_columns 8 = .ok (.iconst 1, 1) := dc_of dtX7_columns_0_0_ok (i := 5) rfl
theorem dX7_columns_9 : decode cX7_columns 9 = .ok (.iadd, 1) := dc_of dtX7_columns_0_0_ok (i := 6) rfl
theorem dX7_columns_10 : decode cX7_columns 10 = .ok (.iaload, 1) := dc_of dtX7_columns_0_0_ok (i := 7) rfl
theorem dX7_columns_11 : decode cX7_columns 11 = .ok (.ireturn, 1) := dc_of dtX7_columns_0_0_ok (i := 8) rfl
def dtX7_column_0_0 : List (Nat × Instr × Nat) := [(0, .aload_n 0, 1), (1, .getfield 81, 3), (4, .ifCond .ne 16, 3), (7, .aload_n 0, 1), (8, .getfield 94, 3), (11, .iconst 1, 1), (12, .if_icmp .eq 8, 3), (15, .aload_n 0, 1), (16, .iconst 1, 1), (17, .invokevirtual 134, 3), (20, .aload_n 0, 1), (21, .getfield 81, 3), (24, .ifCond .ne 16, 3), (27, .aload_n 0, 1), (28, .getfield 97, 3), (31, .iload_n 1, 1), (32, .if_icmp .lt 8, 3), (35, .aload_n 0, 1), (36, .iconst 2, 1), (37, .invokevirtual 134, 3), (40, .aload_n 0, 1), (41, .getfield 97, 3), (44, .istore_n 2, 1), (45, .aload_n 0, 1), (46, .invokevirtual 137, 3), (49, .iload_n 2, 1), (50, .ireturn, 1)]
theorem dtX7_column_0_0_ok : dcAll cX7_column dtX7_column_0_0 = true := by decide +kernel
theorem dX7_column_0 : decode cX7_column 0 = .ok (.aload_n 0, 1) := dc_of dtX7_column_0_0_ok (i := 0) rfl
theorem dX7_column_1 : decode cX7_column 1 = .ok (.getfield 81, 3) := dc_of dtX7_column_0_0_ok (i := 1) rfl
theorem dX7_column_4 : decode cX7_column 4 = .ok (.ifCond .ne 16, 3) := dc_of dtX7_column_0_0_ok (i := 2) rfl
theorem dX7_column_7 : decode cX7_column 7 = .ok (.aload_n 0, 1) := dc_of dtX7_column_0_0_ok (i := 3) rfl
theorem dX7_column_8 : decode cX7_column 8 = .ok (.getfield 94, 3) := dc_of dtX7_column_0_0_ok (i := 4) rfl
theorem dX7_column_11 : decode cX7_column 11 = .ok (.iconst 1, 1) := dc_of dtX7_column_0_0_ok (i := 5) rfl
theorem dX7_column_12 : decode cX7_column 12 = .ok (.if_icmp .eq 8, 3) := dc_of dtX7_column_0_0_ok (i := 6) rfl
theorem dX7_column_15 : decode cX7_column 15 = .ok (.aload_n 0, 1) := dc_of dtX7_column_0_0_ok (i := 7) rfl
theorem dX7_column_16 : decode cX7_column 16 = .ok (.iconst 1, 1) := dc_of dtX7_column_0_0_ok (i := 8) rfl
theorem dX7_column_17 : decode cX7_column 17 = .ok (.invokevirtual 134, 3) := dc_of dtX7_column_0_0_ok (i := 9) rfl
theorem dX7_column_20 : decode cX7_column 20 = .ok (.aload_n 0, 1) := dc_of dtX7_column_0_0_ok (i := 10) rfl
theorem dX7_column_21 : decode cX7_column 21 = .ok (.getfield 81, 3) := dc_of dtX7_column_0_0_ok (i := 11) rfl
theorem dX7_column_24 : decode cX7_column 24 = .ok (.ifCond .ne 16, 3) := dc_of dtX7_column_0_0_ok (i := 12) rfl
theorem dX7_column_27 : decode cX7_column 27 = .ok (.aload_n 0, 1) := dc_of dtX7_column_0_0_ok (i := 13) rfl
theorem dX7_column_28 : decode cX7_column 28 = .ok (.getfield 97, 3) := dc_of dtX7_column_0_0_ok (i := 14) rfl
theorem dX7_column_31 : decode cX7_column 31 = .ok (.iload_n 1, 1) := dc_of dtX7_column_0_0_ok (i := 15) rfl
theorem dX7_column_32 : decode cX7_column 32 = .ok (.if_icmp .lt 8, 3) := dc_of dtX7_column_0_0_ok (i := 16) rfl
theorem dX7_column_35 : decode cX7_column 35 = .ok (.aload_n 0, 1) := dc_of dtX7_column_0_0_ok (i := 17) rfl
theorem dX7_column_36 : decode cX7_column 36 = .ok (.iconst 2, 1) := dc_of dtX7_column_0_0_ok (i := 18) rfl
theorem dX7_column_37 : decode cX7_column 37 = .ok (.invokevirtual 134, 3) := dc_of dtX7_column_0_0_ok (i := 19) rfl
theorem dX7_column_40 : decode cX7_column 40 = .ok (.aload_n 0, 1) := dc_of dtX7_column_0_0_ok (i := 20) rfl
theorem dX7_column_41 : decode cX7_column 41 = .ok (.getfield 97, 3) := dc_of dtX7_column_0_0_ok (i := 21) rfl
theorem dX7_column_44 : decode cX7_column 44 = .ok (.istore_n 2, 1) := dc_of dtX7_column_0_0_ok (i := 22) rfl
theorem dX7_column_45 : decode cX7_column 45 = .ok (.aload_n 0, 1) := dc_of dtX7_column_0_0_ok (i := 23) rfl
theorem dX7_column_46 : decode cX7_column 46 = .ok (.invokevirtual 137, 3) := dc_of dtX7_column_0_0_ok (i := 24) rfl
theorem dX7_column_49 : decode cX7_column 49 = .ok (.iload_n 2, 1) := dc_of dtX7_column_0_0_ok (i := 25) rfl
theorem dX7_column_50 : decode cX7_column 50 = .ok (.ireturn, 1) := dc_of dtX7_column_0_0_ok (i := 26) rfl
def dtX7_numberTold_0_0 : List (Nat × Instr × Nat) := [(0, .aload_n 0, 1), (1, .getfield 81, 3), (4, .ifCond .ne 16, 3), (7, .aload_n 0, 1), (8, .getfield 94, 3), (11, .iconst 3, 1), (12, .if_icmp .eq 8, 3), (15, .aload_n 0, 1), (16, .iconst 1, 1), (17, .invokevirtual 134, 3), (20, .aload_n 0, 1), (21, .getfield 97, 3), (24, .istore_n 1, 1), (25, .aload_n 0, 1), (26, .invokevirtual 137, 3), (29, .iload_n 1, 1), (30, .ireturn, 1)]
theorem dtX7_numberTold_0_0_ok : dcAll cX7_numberTold dtX7_numberTold_0_0 = true := by decide +kernel
theorem dX7_numberTold_0 : decode cX7_numberTold 0 = .ok (.aload_n 0, 1) := dc_of dtX7_numberTold_0_0_ok (i := 0) rfl
theorem dX7_numberTold_1 : decode cX7_numberTold 1 = .ok (.getfield 81, 3) := dc_of dtX7_numberTold_0_0_ok (i := 1) rfl
theorem dX7_numberTold_4 : decode cX7_numberTold 4 = .ok (.ifCond .ne 16, 3) := dc_of dtX7_numberTold_0_0_ok (i := 2) rfl
theorem dX7_numberTold_7 : decode cX7_numberTold 7 = .ok (.aload_n 0, 1) := dc_of dtX7_numberTold_0_0_ok (i := 3) rfl
theorem dX7_numberTold_8 : decode cX7_numberTold 8 = .ok (.getfield 94, 3) := dc_of dtX7_numberTold_0_0_ok (i := 4) rfl
theorem dX7_numberTold_11 : decode cX7_numberTold 11 = .ok (.iconst 3, 1) := dc_of dtX7_numberTold_0_0_ok (i := 5) rfl
theorem dX7_numberTold_12 : decode cX7_numberTold 12 = .ok (.if_icmp .eq 8, 3) := dc_of dtX7_numberTold_0_0_ok (i := 6) rfl
theorem dX7_numberTold_15 : decode cX7_numberTold 15 = .ok (.aload_n 0, 1) := dc_of dtX7_numberTold_0_0_ok (i := 7) rfl
theorem dX7_numberTold_16 : decode cX7_numberTold 16 = .ok (.iconst 1, 1) := dc_of dtX7_numberTold_0_0_ok (i := 8) rfl
theorem dX7_numberTold_17 : decode cX7_numberTold 17 = .ok (.invokevirtual 134, 3) := dc_of dtX7_numberTold_0_0_ok (i := 9) rfl
theorem dX7_numberTold_20 : decode cX7_numberTold 20 = .ok (.aload_n 0, 1) := dc_of dtX7_numberTold_0_0_ok (i := 10) rfl
theorem dX7_numberTold_21 : decode cX7_numberTold 21 = .ok (.getfield 97, 3) := dc_of dtX7_numberTold_0_0_ok (i := 11) rfl
theorem dX7_numberTold_24 : decode cX7_numberTold 24 = .ok (.istore_n 1, 1) := dc_of dtX7_numberTold_0_0_ok (i := 12) rfl
theorem dX7_numberTold_25 : decode cX7_numberTold 25 = .ok (.aload_n 0, 1) := dc_of dtX7_numberTold_0_0_ok (i := 13) rfl
theorem dX7_numberTold_26 : decode cX7_numberTold 26 = .ok (.invokevirtual 137, 3) := dc_of dtX7_numberTold_0_0_ok (i := 14) rfl
theorem dX7_numberTold_29 : decode cX7_numberTold 29 = .ok (.iload_n 1, 1) := dc_of dtX7_numberTold_0_0_ok (i := 15) rfl
theorem dX7_numberTold_30 : decode cX7_numberTold 30 = .ok (.ireturn, 1) := dc_of dtX7_numberTold_0_0_ok (i := 16) rfl
def dtX7_sets_0_0 : List (Nat × Instr × Nat) := [(0, .aload_n 0, 1), (1, .getfield 81, 3), (4, .ifCond .ne 18, 3), (7, .aload_n 0, 1), (8, .getfield 17, 3), (11, .bipush 40, 2), (13, .aload_n 0, 1), (14, .getfield 184, 3), (17, .imul, 1), (18, .iload_n 1, 1), (19, .iadd, 1), (20, .iload_n 2, 1), (21, .iastore, 1), (22, .return_, 1)]
theorem dtX7_sets_0_0_ok : dcAll cX7_sets dtX7_sets_0_0 = true := by decide +kernel
theorem dX7_sets_0 : decode cX7_sets 0 = .ok (.aload_n 0, 1) := dc_of dtX7_sets_0_0_ok (i := 0) rfl
theorem dX7_sets_1 : decode cX7_sets 1 = .ok (.getfield 81, 3) := dc_of dtX7_sets_0_0_ok (i := 1) rfl
theorem dX7_sets_4 : decode cX7_sets 4 = .ok (.ifCond .ne 18, 3) := dc_of dtX7_sets_0_0_ok (i := 2) rfl
theorem dX7_sets_7 : decode cX7_sets 7 = .ok (.aload_n 0, 1) := dc_of dtX7_sets_0_0_ok (i := 3) rfl
theorem dX7_sets_8 : decode cX7_sets 8 = .ok (.getfield 17, 3) := dc_of dtX7_sets_0_0_ok (i := 4) rfl
theorem dX7_sets_11 : decode cX7_sets 11 = .ok (.bipush 40, 2) := dc_of dtX7_sets_0_0_ok (i := 5) rfl
theorem dX7_sets_13 : decode cX7_sets 13 = .ok (.aload_n 0, 1) := dc_of dtX7_sets_0_0_ok (i := 6) rfl
theorem dX7_sets_14 : decode cX7_sets 14 = .ok (.getfield 184, 3) := dc_of dtX7_sets_0_0_ok (i := 7) rfl
theorem dX7_sets_17 : decode cX7_sets 17 = .ok (.imul, 1) := dc_of dtX7_sets_0_0_ok (i := 8) rfl
theorem dX7_sets_18 : decode cX7_sets 18 = .ok (.iload_n 1, 1) := dc_of dtX7_sets_0_0_ok (i := 9) rfl
theorem dX7_sets_19 : decode cX7_sets 19 = .ok (.iadd, 1) := dc_of dtX7_sets_0_0_ok (i := 10) rfl
theorem dX7_sets_20 : decode cX7_sets 20 = .ok (.iload_n 2, 1) := dc_of dtX7_sets_0_0_ok (i := 11) rfl
theorem dX7_sets_21 : decode cX7_sets 21 = .ok (.iastore, 1) := dc_of dtX7_sets_0_0_ok (i := 12) rfl
theorem dX7_sets_22 : decode cX7_sets 22 = .ok (.return_, 1) := dc_of dtX7_sets_0_0_ok (i := 13) rfl
def dtX7_setsPart_0_0 : List (Nat × Instr × Nat) := [(0, .aload_n 0, 1), (1, .getfield 81, 3), (4, .ifCond .le 4, 3), (7, .return_, 1), (8, .bipush 40, 2), (10, .aload_n 0, 1), (11, .getfield 184, 3), (14, .imul, 1), (15, .bipush 6, 2), (17, .iadd, 1), (18, .iconst 4, 1), (19, .iload_n 1, 1), (20, .imul, 1), (21, .iadd, 1), (22, .istore 6, 2), (24, .aload_n 0, 1), (25, .getfield 17, 3), (28, .iload 6, 2), (30, .iload_n 2, 1), (31, .iastore, 1), (32, .aload_n 0, 1), (33, .getfield 17, 3), (36, .iload 6, 2), (38, .iconst 1, 1), (39, .iadd, 1), (40, .iload_n 3, 1), (41, .iastore, 1), (42, .aload_n 0, 1), (43, .getfield 17, 3), (46, .iload 6, 2), (48, .iconst 2, 1), (49, .iadd, 1)]
theorem dtX7_setsPart_0_0_ok : dcAll cX7_setsPart dtX7_setsPart_0_0 = true := by decide +kernel
theorem dX7_setsPart_0 : decode cX7_setsPart 0 = .ok (.aload_n 0, 1) := dc_of dtX7_setsPart_0_0_ok (i := 0) rfl
theorem dX7_setsPart_1 : decode cX7_setsPart 1 = .ok (.getfield 81, 3) := dc_of dtX7_setsPart_0_0_ok (i := 1) rfl
theorem dX7_setsPart_4 : decode cX7_setsPart 4 = .ok (.ifCond .le 4, 3) := dc_of dtX7_setsPart_0_0_ok (i := 2) rfl
theorem dX7_setsPart_7 : decode cX7_setsPart 7 = .ok (.return_, 1) := dc_of dtX7_setsPart_0_0_ok (i := 3) rfl
theorem dX7_setsPart_8 : decode cX7_setsPart 8 = .ok (.bipush 40, 2) := dc_of dtX7_setsPart_0_0_ok (i := 4) rfl
theorem dX7_setsPart_10 : decode cX7_setsPart 10 = .ok (.aload_n 0, 1) := dc_of dtX7_setsPart_0_0_ok (i := 5) rfl
theorem dX7_setsPart_11 : decode cX7_setsPart 11 = .ok (.getfield 184, 3) := dc_of dtX7_setsPart_0_0_ok (i := 6) rfl
theorem dX7_setsPart_14 : decode cX7_setsPart 14 = .ok (.imul, 1) := dc_of dtX7_setsPart_0_0_ok (i := 7) rfl
theorem dX7_setsPart_15 : decode cX7_setsPart 15 = .ok (.bipush 6, 2) := dc_of dtX7_setsPart_0_0_ok (i := 8) rfl
theorem dX7_setsPart_17 : decode cX7_setsPart 17 = .ok (.iadd, 1) := dc_of dtX7_setsPart_0_0_ok (i := 9) rfl
theorem dX7_setsPart_18 : decode cX7_setsPart 18 = .ok (.iconst 4, 1) := dc_of dtX7_setsPart_0_0_ok (i := 10) rfl
theorem dX7_setsPart_19 : decode cX7_setsPart 19 = .ok (.iload_n 1, 1) := dc_of dtX7_setsPart_0_0_ok (i := 11) rfl
theorem dX7_setsPart_20 : decode cX7_setsPart 20 = .ok (.imul, 1) := dc_of dtX7_setsPart_0_0_ok (i := 12) rfl
theorem dX7_setsPart_21 : decode cX7_setsPart 21 = .ok (.iadd, 1) := dc_of dtX7_setsPart_0_0_ok (i := 13) rfl
theorem dX7_setsPart_22 : decode cX7_setsPart 22 = .ok (.istore 6, 2) := dc_of dtX7_setsPart_0_0_ok (i := 14) rfl
theorem dX7_setsPart_24 : decode cX7_setsPart 24 = .ok (.aload_n 0, 1) := dc_of dtX7_setsPart_0_0_ok (i := 15) rfl
theorem dX7_setsPart_25 : decode cX7_setsPart 25 = .ok (.getfield 17, 3) := dc_of dtX7_setsPart_0_0_ok (i := 16) rfl
theorem dX7_setsPart_28 : decode cX7_setsPart 28 = .ok (.iload 6, 2) := dc_of dtX7_setsPart_0_0_ok (i := 17) rfl
theorem dX7_setsPart_30 : decode cX7_setsPart 30 = .ok (.iload_n 2, 1) := dc_of dtX7_setsPart_0_0_ok (i := 18) rfl
theorem dX7_setsPart_31 : decode cX7_setsPart 31 = .ok (.iastore, 1) := dc_of dtX7_setsPart_0_0_ok (i := 19) rfl
theorem dX7_setsPart_32 : decode cX7_setsPart 32 = .ok (.aload_n 0, 1) := dc_of dtX7_setsPart_0_0_ok (i := 20) rfl
theorem dX7_setsPart_33 : decode cX7_setsPart 33 = .ok (.getfield 17, 3) := dc_of dtX7_setsPart_0_0_ok (i := 21) rfl
theorem dX7_setsPart_36 : decode cX7_setsPart 36 = .ok (.iload 6, 2) := dc_of dtX7_setsPart_0_0_ok (i := 22) rfl
theorem dX7_setsPart_38 : decode cX7_setsPart 38 = .ok (.iconst 1, 1) := dc_of dtX7_setsPart_0_0_ok (i := 23) rfl
theorem dX7_setsPart_39 : decode cX7_setsPart 39 = .ok (.iadd, 1) := dc_of dtX7_setsPart_0_0_ok (i := 24) rfl
theorem dX7_setsPart_40 : decode cX7_setsPart 40 = .ok (.iload_n 3, 1) := dc_of dtX7_setsPart_0_0_ok (i := 25) rfl
theorem dX7_setsPart_41 : decode cX7_setsPart 41 = .ok (.iastore, 1) := dc_of dtX7_setsPart_0_0_ok (i := 26) rfl
theorem dX7_setsPart_42 : decode cX7_setsPart 42 = .ok (.aload_n 0, 1) := dc_of dtX7_setsPart_0_0_ok (i := 27) rfl
theorem dX7_setsPart_43 : decode cX7_setsPart 43 = .ok (.getfield 17, 3) := dc_of dtX7_setsPart_0_0_ok (i := 28) rfl
theorem dX7_setsPart_46 : decode cX7_setsPart 46 = .ok (.iload 6, 2) := dc_of dtX7_setsPart_0_0_ok (i := 29) rfl
theorem dX7_setsPart_48 : decode cX7_setsPart 48 = .ok (.iconst 2, 1) := dc_of dtX7_setsPart_0_0_ok (i := 30) rfl
theorem dX7_setsPart_49 : decode cX7_setsPart 49 = .ok (.iadd, 1) := dc_of dtX7_setsPart_0_0_ok (i := 31) rfl
def dtX7_setsPart_50_1 : List (Nat × Instr × Nat) := [(50, .iload 4, 2), (52, .iastore, 1), (53, .aload_n 0, 1), (54, .getfield 17, 3), (57, .iload 6, 2), (59, .iconst 3, 1), (60, .iadd, 1), (61, .iload 5, 2), (63, .iastore, 1), (64, .return_, 1)]
theorem dtX7_setsPart_50_1_ok : dcAll cX7_setsPart dtX7_setsPart_50_1 = true := by decide +kernel
theorem dX7_setsPart_50 : decode cX7_setsPart 50 = .ok (.iload 4, 2) := dc_of dtX7_setsPart_50_1_ok (i := 0) rfl
theorem dX7_setsPart_52 : decode cX7_setsPart 52 = .ok (.iastore, 1) := dc_of dtX7_setsPart_50_1_ok (i := 1) rfl
theorem dX7_setsPart_53 : decode cX7_setsPart 53 = .ok (.aload_n 0, 1) := dc_of dtX7_setsPart_50_1_ok (i := 2) rfl
theorem dX7_setsPart_54 : decode cX7_setsPart 54 = .ok (.getfield 17, 3) := dc_of dtX7_setsPart_50_1_ok (i := 3) rfl
theorem dX7_setsPart_57 : decode cX7_setsPart 57 = .ok (.iload 6, 2) := dc_of dtX7_setsPart_50_1_ok (i := 4) rfl
theorem dX7_setsPart_59 : decode cX7_setsPart 59 = .ok (.iconst 3, 1) := dc_of dtX7_setsPart_50_1_ok (i := 5) rfl
theorem dX7_setsPart_60 : decode cX7_setsPart 60 = .ok (.iadd, 1) := dc_of dtX7_setsPart_50_1_ok (i := 6) rfl
theorem dX7_setsPart_61 : decode cX7_setsPart 61 = .ok (.iload 5, 2) := dc_of dtX7_setsPart_50_1_ok (i := 7) rfl
theorem dX7_setsPart_63 : decode cX7_setsPart 63 = .ok (.iastore, 1) := dc_of dtX7_setsPart_50_1_ok (i := 8) rfl
theorem dX7_setsPart_64 : decode cX7_setsPart 64 = .ok (.return_, 1) := dc_of dtX7_setsPart_50_1_ok (i := 9) rfl
def dtX7_header_0_0 : List (Nat × Instr × Nat) := [(0, .aload_n 0, 1), (1, .iconst 0, 1), (2, .iload_n 1, 1), (3, .invokevirtual 195, 3), (6, .aload_n 0, 1), (7, .iconst 1, 1), (8, .iload_n 2, 1), (9, .invokevirtual 195, 3), (12, .aload_n 0, 1), (13, .iconst 2, 1), (14, .iload_n 3, 1), (15, .invokevirtual 195, 3), (18, .aload_n 0, 1), (19, .iconst 3, 1), (20, .iload 4, 2), (22, .invokevirtual 195, 3), (25, .aload_n 0, 1), (26, .iconst 4, 1), (27, .iload 5, 2), (29, .invokevirtual 195, 3), (32, .return_, 1)]
theorem dtX7_header_0_0_ok : dcAll cX7_header dtX7_header_0_0 = true := by decide +kernel
theorem dX7_header_0 : decode cX7_header 0 = .ok (.aload_n 0, 1) := dc_of dtX7_header_0_0_ok (i := 0) rfl
theorem dX7_header_1 : decode cX7_header 1 = .ok (.iconst 0, 1) := dc_of dtX7_header_0_0_ok (i := 1) rfl
theorem dX7_header_2 : decode cX7_header 2 = .ok (.iload_n 1, 1) := dc_of dtX7_header_0_0_ok (i := 2) rfl
theorem dX7_header_3 : decode cX7_header 3 = .ok (.invokevirtual 195, 3) := dc_of dtX7_header_0_0_ok (i := 3) rfl
theorem dX7_header_6 : decode cX7_header 6 = .ok (.aload_n 0, 1) := dc_of dtX7_header_0_0_ok (i := 4) rfl
theorem dX7_header_7 : decode cX7_header 7 = .ok (.iconst 1, 1) := dc_of dtX7_header_0_0_ok (i := 5) rfl
theorem dX7_header_8 : decode cX7_header 8 = .ok (.iload_n 2, 1) := dc_of dtX7_header_0_0_ok (i := 6) rfl
theorem dX7_header_9 : decode cX7_header 9 = .ok (.invokevirtual 195, 3) := dc_of dtX7_header_0_0_ok (i := 7) rfl
theorem dX7_header_12 : decode cX7_header 12 = .ok (.aload_n 0, 1) := dc_of dtX7_header_0_0_ok (i := 8) rfl
theorem dX7_header_13 : decode cX7_header 13 = .ok (.iconst 2, 1) := dc_of dtX7_header_0_0_ok (i := 9) rfl
theorem dX7_header_14 : decode cX7_header 14 = .ok (.iload_n 3, 1) := dc_of dtX7_header_0_0_ok (i := 10) rfl
theorem dX7_header_15 : decode cX7_header 15 = .ok (.invokevirtual 195, 3) := dc_of dtX7_header_0_0_ok (i := 11) rfl
theorem dX7_header_18 : decode cX7_header 18 = .ok (.aload_n 0, 1) := dc_of dtX7_header_0_0_ok (i := 12) rfl
theorem dX7_header_19 : decode cX7_header 19 = .ok (.iconst 3, 1) := dc_of dtX7_header_0_0_ok (i := 13) rfl
theorem dX7_header_20 : decode cX7_header 20 = .ok (.iload 4, 2) := dc_of dtX7_header_0_0_ok (i := 14) rfl
theorem dX7_header_22 : decode cX7_header 22 = .ok (.invokevirtual 195, 3) := dc_of dtX7_header_0_0_ok (i := 15) rfl
theorem dX7_header_25 : decode cX7_header 25 = .ok (.aload_n 0, 1) := dc_of dtX7_header_0_0_ok (i := 16) rfl
theorem dX7_header_26 : decode cX7_header 26 = .ok (.iconst 4, 1) := dc_of dtX7_header_0_0_ok (i := 17) rfl
theorem dX7_header_27 : decode cX7_header 27 = .ok (.iload 5, 2) := dc_of dtX7_header_0_0_ok (i := 18) rfl
theorem dX7_header_29 : decode cX7_header 29 = .ok (.invokevirtual 195, 3) := dc_of dtX7_header_0_0_ok (i := 19) rfl
theorem dX7_header_32 : decode cX7_header 32 = .ok (.return_, 1) := dc_of dtX7_header_0_0_ok (i := 20) rfl
def dtX7_selectTold_0_0 : List (Nat × Instr × Nat) := [(0, .aload_n 0, 1), (1, .invokevirtual 199, 3), (4, .istore_n 1, 1), (5, .aload_n 0, 1), (6, .ldc 150, 2), (8, .invokevirtual 202, 3), (11, .iconst 0, 1), (12, .istore_n 2, 1), (13, .iconst 1, 1), (14, .istore_n 3, 1), (15, .iload_n 3, 1), (16, .ifCond .eq 204, 3), (19, .aload_n 0, 1), (20, .getfield 81, 3), (23, .ifCond .ne 197, 3), (26, .iload_n 2, 1), (27, .bipush 8, 2), (29, .if_icmp .ne 44, 3), (32, .aload_n 0, 1), (33, .aload_n 0, 1), (34, .getfield 94, 3), (37, .iconst 1, 1), (38, .if_icmp .ne 19, 3), (41, .aload_n 0, 1), (42, .getfield 97, 3), (45, .aload_n 0, 1), (46, .iload_n 1, 1), (47, .invokevirtual 206, 3), (50, .if_icmp .lt 7, 3), (53, .iconst 2, 1), (54, .goto 16, 3), (57, .aload_n 0, 1)]
theorem dtX7_selectTold_0_0_ok : dcAll cX7_selectTold dtX7_selectTold_0_0 = true := by decide +kernel
theorem dX7_selectTold_0 : decode cX7_selectTold 0 = .ok (.aload_n 0, 1) := dc_of dtX7_selectTold_0_0_ok (i := 0) rfl
theorem dX7_selectTold_1 : decode cX7_selectTold 1 = .ok (.invokevirtual 199, 3) := dc_of dtX7_selectTold_0_0_ok (i := 1) rfl
theorem dX7_selectTold_4 : decode cX7_selectTold 4 = .ok (.istore_n 1, 1) := dc_of dtX7_selectTold_0_0_ok (i := 2) rfl
theorem dX7_selectTold_5 : decode cX7_selectTold 5 = .ok (.aload_n 0, 1) := dc_of dtX7_selectTold_0_0_ok (i := 3) rfl
theorem dX7_selectTold_6 : decode cX7_selectTold 6 = .ok (.ldc 150, 2) := dc_of dtX7_selectTold_0_0_ok (i := 4) rfl
theorem dX7_selectTold_8 : decode cX7_selectTold 8 = .ok (.invokevirtual 202, 3) := dc_of dtX7_selectTold_0_0_ok (i := 5) rfl
theorem dX7_selectTold_11 : decode cX7_selectTold 11 = .ok (.iconst 0, 1) := dc_of dtX7_selectTold_0_0_ok (i := 6) rfl
theorem dX7_selectTold_12 : decode cX7_selectTold 12 = .ok (.istore_n 2, 1) := dc_of dtX7_selectTold_0_0_ok (i := 7) rfl
theorem dX7_selectTold_13 : decode cX7_selectTold 13 = .ok (.iconst 1, 1) := dc_of dtX7_selectTold_0_0_ok (i := 8) rfl
theorem dX7_selectTold_14 : decode cX7_selectTold 14 = .ok (.istore_n 3, 1) := dc_of dtX7_selectTold_0_0_ok (i := 9) rfl
theorem dX7_selectTold_15 : decode cX7_selectTold 15 = .ok (.iload_n 3, 1) := dc_of dtX7_selectTold_0_0_ok (i := 10) rfl
theorem dX7_selectTold_16 : decode cX7_selectTold 16 = .ok (.ifCond .eq 204, 3) := dc_of dtX7_selectTold_0_0_ok (i := 11) rfl
theorem dX7_selectTold_19 : decode cX7_selectTold 19 = .ok (.aload_n 0, 1) := dc_of dtX7_selectTold_0_0_ok (i := 12) rfl
theorem dX7_selectTold_20 : decode cX7_selectTold 20 = .ok (.getfield 81, 3) := dc_of dtX7_selectTold_0_0_ok (i := 13) rfl
theorem dX7_selectTold_23 : decode cX7_selectTold 23 = .ok (.ifCond .ne 197, 3) := dc_of dtX7_selectTold_0_0_ok (i := 14) rfl
theorem dX7_selectTold_26 : decode cX7_selectTold 26 = .ok (.iload_n 2, 1) := dc_of dtX7_selectTold_0_0_ok (i := 15) rfl
theorem dX7_selectTold_27 : decode cX7_selectTold 27 = .ok (.bipush 8, 2) := dc_of dtX7_selectTold_0_0_ok (i := 16) rfl
theorem dX7_selectTold_29 : decode cX7_selectTold 29 = .ok (.if_icmp .ne 44, 3) := dc_of dtX7_selectTold_0_0_ok (i := 17) rfl
theorem dX7_selectTold_32 : decode cX7_selectTold 32 = .ok (.aload_n 0, 1) := dc_of dtX7_selectTold_0_0_ok (i := 18) rfl
theorem dX7_selectTold_33 : decode cX7_selectTold 33 = .ok (.aload_n 0, 1) := dc_of dtX7_selectTold_0_0_ok (i := 19) rfl
theorem dX7_selectTold_34 : decode cX7_selectTold 34 = .ok (.getfield 94, 3) := dc_of dtX7_selectTold_0_0_ok (i := 20) rfl
theorem dX7_selectTold_37 : decode cX7_selectTold 37 = .ok (.iconst 1, 1) := dc_of dtX7_selectTold_0_0_ok (i := 21) rfl
theorem dX7_selectTold_38 : decode cX7_selectTold 38 = .ok (.if_icmp .ne 19, 3) := dc_of dtX7_selectTold_0_0_ok (i := 22) rfl
theorem dX7_selectTold_41 : decode cX7_selectTold 41 = .ok (.aload_n 0, 1) := dc_of dtX7_selectTold_0_0_ok (i := 23) rfl
theorem dX7_selectTold_42 : decode cX7_selectTold 42 = .ok (.getfield 97, 3) := dc_of dtX7_selectTold_0_0_ok (i := 24) rfl
theorem dX7_selectTold_45 : decode cX7_selectTold 45 = .ok (.aload_n 0, 1) := dc_of dtX7_selectTold_0_0_ok (i := 25) rfl
theorem dX7_selectTold_46 : decode cX7_selectTold 46 = .ok (.iload_n 1, 1) := dc_of dtX7_selectTold_0_0_ok (i := 26) rfl
theorem dX7_selectTold_47 : decode cX7_selectTold 47 = .ok (.invokevirtual 206, 3) := dc_of dtX7_selectTold_0_0_ok (i := 27) rfl
theorem dX7_selectTold_50 : decode cX7_selectTold 50 = .ok (.if_icmp .lt 7, 3) := dc_of dtX7_selectTold_0_0_ok (i := 28) rfl
theorem dX7_selectTold_53 : decode cX7_selectTold 53 = .ok (.iconst 2, 1) := dc_of dtX7_selectTold_0_0_ok (i := 29) rfl
theorem dX7_selectTold_54 : decode cX7_selectTold 54 = .ok (.goto 16, 3) := dc_of dtX7_selectTold_0_0_ok (i := 30) rfl
theorem dX7_selectTold_57 : decode cX7_selectTold 57 = .ok (.aload_n 0, 1) := dc_of dtX7_selectTold_0_0_ok (i := 31) rfl
def dtX7_selectTold_58_1 : List (Nat × Instr × Nat) := [(58, .getfield 94, 3), (61, .iconst 1, 1), (62, .if_icmp .ne 7, 3), (65, .iconst 4, 1), (66, .goto 4, 3), (69, .iconst 1, 1), (70, .invokevirtual 134, 3), (73, .aload_n 0, 1), (74, .aload_n 0, 1), (75, .iload_n 1, 1), (76, .invokevirtual 206, 3), (79, .invokevirtual 209, 3), (82, .istore 4, 2), (84, .aload_n 0, 1), (85, .bipush 61, 2), (87, .invokevirtual 131, 3), (90, .ifCond .eq 7, 3), (93, .iconst 0, 1), (94, .goto 30, 3), (97, .aload_n 0, 1), (98, .bipush 60, 2), (100, .invokevirtual 131, 3), (103, .ifCond .eq 7, 3), (106, .iconst 1, 1), (107, .goto 17, 3), (110, .aload_n 0, 1), (111, .bipush 62, 2), (113, .invokevirtual 131, 3), (116, .ifCond .eq 7, 3), (119, .iconst 2, 1), (120, .goto 4, 3), (123, .iconst (-1), 1)]
theorem dtX7_selectTold_58_1_ok : dcAll cX7_selectTold dtX7_selectTold_58_1 = true := by decide +kernel
theorem dX7_selectTold_58 : decode cX7_selectTold 58 = .ok (.getfield 94, 3) := dc_of dtX7_selectTold_58_1_ok (i := 0) rfl
theorem dX7_selectTold_61 : decode cX7_selectTold 61 = .ok (.iconst 1, 1) := dc_of dtX7_selectTold_58_1_ok (i := 1) rfl
theorem dX7_selectTold_62 : decode cX7_selectTold 62 = .ok (.if_icmp .ne 7, 3) := dc_of dtX7_selectTold_58_1_ok (i := 2) rfl
theorem dX7_selectTold_65 : decode cX7_selectTold 65 = .ok (.iconst 4, 1) := dc_of dtX7_selectTold_58_1_ok (i := 3) rfl
theorem dX7_selectTold_66 : decode cX7_selectTold 66 = .ok (.goto 4, 3) := dc_of dtX7_selectTold_58_1_ok (i := 4) rfl
theorem dX7_selectTold_69 : decode cX7_selectTold 69 = .ok (.iconst 1, 1) := dc_of dtX7_selectTold_58_1_ok (i := 5) rfl
theorem dX7_selectTold_70 : decode cX7_selectTold 70 = .ok (.invokevirtual 134, 3) := dc_of dtX7_selectTold_58_1_ok (i := 6) rfl
theorem dX7_selectTold_73 : decode cX7_selectTold 73 = .ok (.aload_n 0, 1) := dc_of dtX7_selectTold_58_1_ok (i := 7) rfl
theorem dX7_selectTold_74 : decode cX7_selectTold 74 = .ok (.aload_n 0, 1) := dc_of dtX7_selectTold_58_1_ok (i := 8) rfl
theorem dX7_selectTold_75 : decode cX7_selectTold 75 = .ok (.iload_n 1, 1) := dc_of dtX7_selectTold_58_1_ok (i := 9) rfl
theorem dX7_selectTold_76 : decode cX7_selectTold 76 = .ok (.invokevirtual 206, 3) := dc_of dtX7_selectTold_58_1_ok (i := 10) rfl
theorem dX7_selectTold_79 : decode cX7_selectTold 79 = .ok (.invokevirtual 209, 3) := dc_of dtX7_selectTold_58_1_ok (i := 11) rfl
theorem dX7_selectTold_82 : decode cX7_selectTold 82 = .ok (.istore 4, 2) := dc_of dtX7_selectTold_58_1_ok (i := 12) rfl
theorem dX7_selectTold_84 : decode cX7_selectTold 84 = .ok (.aload_n 0, 1) := dc_of dtX7_selectTold_58_1_ok (i := 13) rfl
theorem dX7_selectTold_85 : decode cX7_selectTold 85 = .ok (.bipush 61, 2) := dc_of dtX7_selectTold_58_1_ok (i := 14) rfl
theorem dX7_selectTold_87 : decode cX7_selectTold 87 = .ok (.invokevirtual 131, 3) := dc_of dtX7_selectTold_58_1_ok (i := 15) rfl
theorem dX7_selectTold_90 : decode cX7_selectTold 90 = .ok (.ifCond .eq 7, 3) := dc_of dtX7_selectTold_58_1_ok (i := 16) rfl
theorem dX7_selectTold_93 : decode cX7_selectTold 93 = .ok (.iconst 0, 1) := dc_of dtX7_selectTold_58_1_ok (i := 17) rfl
theorem dX7_selectTold_94 : decode cX7_selectTold 94 = .ok (.goto 30, 3) := dc_of dtX7_selectTold_58_1_ok (i := 18) rfl
theorem dX7_selectTold_97 : decode cX7_selectTold 97 = .ok (.aload_n 0, 1) := dc_of dtX7_selectTold_58_1_ok (i := 19) rfl
theorem dX7_selectTold_98 : decode cX7_selectTold 98 = .ok (.bipush 60, 2) := dc_of dtX7_selectTold_58_1_ok (i := 20) rfl
theorem dX7_selectTold_100 : decode cX7_selectTold 100 = .ok (.invokevirtual 131, 3) := dc_of dtX7_selectTold_58_1_ok (i := 21) rfl
theorem dX7_selectTold_103 : decode cX7_selectTold 103 = .ok (.ifCond .eq 7, 3) := dc_of dtX7_selectTold_58_1_ok (i := 22) rfl
theorem dX7_selectTold_106 : decode cX7_selectTold 106 = .ok (.iconst 1, 1) := dc_of dtX7_selectTold_58_1_ok (i := 23) rfl
theorem dX7_selectTold_107 : decode cX7_selectTold 107 = .ok (.goto 17, 3) := dc_of dtX7_selectTold_58_1_ok (i := 24) rfl
theorem dX7_selectTold_110 : decode cX7_selectTold 110 = .ok (.aload_n 0, 1) := dc_of dtX7_selectTold_58_1_ok (i := 25) rfl
theorem dX7_selectTold_111 : decode cX7_selectTold 111 = .ok (.bipush 62, 2) := dc_of dtX7_selectTold_58_1_ok (i := 26) rfl
theorem dX7_selectTold_113 : decode cX7_selectTold 113 = .ok (.invokevirtual 131, 3) := dc_of dtX7_selectTold_58_1_ok (i := 27) rfl
theorem dX7_selectTold_116 : decode cX7_selectTold 116 = .ok (.ifCond .eq 7, 3) := dc_of dtX7_selectTold_58_1_ok (i := 28) rfl
theorem dX7_selectTold_119 : decode cX7_selectTold 119 = .ok (.iconst 2, 1) := dc_of dtX7_selectTold_58_1_ok (i := 29) rfl
theorem dX7_selectTold_120 : decode cX7_selectTold 120 = .ok (.goto 4, 3) := dc_of dtX7_selectTold_58_1_ok (i := 30) rfl
theorem dX7_selectTold_123 : decode cX7_selectTold 123 = .ok (.iconst (-1), 1) := dc_of dtX7_selectTold_58_1_ok (i := 31) rfl
def dtX7_selectTold_124_2 : List (Nat × Instr × Nat) := [(124, .istore 5, 2), (126, .iload 5, 2), (128, .ifCond .ge 8, 3), (131, .aload_n 0, 1), (132, .iconst 1, 1), (133, .invokevirtual 134, 3), (136, .aload_n 0, 1), (137, .invokevirtual 137, 3), (140, .aload_n 0, 1), (141, .getfield 94, 3), (144, .iconst 1, 1), (145, .if_icmp .ne 7, 3), (148, .iconst 1, 1), (149, .goto 4, 3), (152, .iconst 0, 1), (153, .istore 6, 2), (155, .iload 6, 2), (157, .ifCond .eq 15, 3), (160, .aload_n 0, 1), (161, .aload_n 0, 1), (162, .iload_n 1, 1), (163, .invokevirtual 206, 3), (166, .invokevirtual 209, 3), (169, .goto 7, 3), (172, .aload_n 0, 1), (173, .invokevirtual 212, 3), (176, .istore 7, 2), (178, .aload_n 0, 1), (179, .iload_n 2, 1), (180, .iload 4, 2), (182, .iload 5, 2), (184, .iload 6, 2)]
theorem dtX7_selectTold_124_2_ok : dcAll cX7_selectTold dtX7_selectTold_124_2 = true := by decide +kernel
theorem dX7_selectTold_124 : decode cX7_selectTold 124 = .ok (.istore 5, 2) := dc_of dtX7_selectTold_124_2_ok (i := 0) rfl
theorem dX7_selectTold_126 : decode cX7_selectTold 126 = .ok (.iload 5, 2) := dc_of dtX7_selectTold_124_2_ok (i := 1) rfl
theorem dX7_selectTold_128 : decode cX7_selectTold 128 = .ok (.ifCond .ge 8, 3) := dc_of dtX7_selectTold_124_2_ok (i := 2) rfl
theorem dX7_selectTold_131 : decode cX7_selectTold 131 = .ok (.aload_n 0, 1) := dc_of dtX7_selectTold_124_2_ok (i := 3) rfl
theorem dX7_selectTold_132 : decode cX7_selectTold 132 = .ok (.iconst 1, 1) := dc_of dtX7_selectTold_124_2_ok (i := 4) rfl
theorem dX7_selectTold_133 : decode cX7_selectTold 133 = .ok (.invokevirtual 134, 3) := dc_of dtX7_selectTold_124_2_ok (i := 5) rfl
theorem dX7_selectTold_136 : decode cX7_selectTold 136 = .ok (.aload_n 0, 1) := dc_of dtX7_selectTold_124_2_ok (i := 6) rfl
theorem dX7_selectTold_137 : decode cX7_selectTold 137 = .ok (.invokevirtual 137, 3) := dc_of dtX7_selectTold_124_2_ok (i := 7) rfl
theorem dX7_selectTold_140 : decode cX7_selectTold 140 = .ok (.aload_n 0, 1) := dc_of dtX7_selectTold_124_2_ok (i := 8) rfl
theorem dX7_selectTold_141 : decode cX7_selectTold 141 = .ok (.getfield 94, 3) := dc_of dtX7_selectTold_124_2_ok (i := 9) rfl
theorem dX7_selectTold_144 : decode cX7_selectTold 144 = .ok (.iconst 1, 1) := dc_of dtX7_selectTold_124_2_ok (i := 10) rfl
theorem dX7_selectTold_145 : decode cX7_selectTold 145 = .ok (.if_icmp .ne 7, 3) := dc_of dtX7_selectTold_124_2_ok (i := 11) rfl
theorem dX7_selectTold_148 : decode cX7_selectTold 148 = .ok (.iconst 1, 1) := dc_of dtX7_selectTold_124_2_ok (i := 12) rfl
theorem dX7_selectTold_149 : decode cX7_selectTold 149 = .ok (.goto 4, 3) := dc_of dtX7_selectTold_124_2_ok (i := 13) rfl
theorem dX7_selectTold_152 : decode cX7_selectTold 152 = .ok (.iconst 0, 1) := dc_of dtX7_selectTold_124_2_ok (i := 14) rfl
theorem dX7_selectTold_153 : decode cX7_selectTold 153 = .ok (.istore 6, 2) := dc_of dtX7_selectTold_124_2_ok (i := 15) rfl
theorem dX7_selectTold_155 : decode cX7_selectTold 155 = .ok (.iload 6, 2) := dc_of dtX7_selectTold_124_2_ok (i := 16) rfl
theorem dX7_selectTold_157 : decode cX7_selectTold 157 = .ok (.ifCond .eq 15, 3) := dc_of dtX7_selectTold_124_2_ok (i := 17) rfl
theorem dX7_selectTold_160 : decode cX7_selectTold 160 = .ok (.aload_n 0, 1) := dc_of dtX7_selectTold_124_2_ok (i := 18) rfl
theorem dX7_selectTold_161 : decode cX7_selectTold 161 = .ok (.aload_n 0, 1) := dc_of dtX7_selectTold_124_2_ok (i := 19) rfl
theorem dX7_selectTold_162 : decode cX7_selectTold 162 = .ok (.iload_n 1, 1) := dc_of dtX7_selectTold_124_2_ok (i := 20) rfl
theorem dX7_selectTold_163 : decode cX7_selectTold 163 = .ok (.invokevirtual 206, 3) := dc_of dtX7_selectTold_124_2_ok (i := 21) rfl
theorem dX7_selectTold_166 : decode cX7_selectTold 166 = .ok (.invokevirtual 209, 3) := dc_of dtX7_selectTold_124_2_ok (i := 22) rfl
theorem dX7_selectTold_169 : decode cX7_selectTold 169 = .ok (.goto 7, 3) := dc_of dtX7_selectTold_124_2_ok (i := 23) rfl
theorem dX7_selectTold_172 : decode cX7_selectTold 172 = .ok (.aload_n 0, 1) := dc_of dtX7_selectTold_124_2_ok (i := 24) rfl
theorem dX7_selectTold_173 : decode cX7_selectTold 173 = .ok (.invokevirtual 212, 3) := dc_of dtX7_selectTold_124_2_ok (i := 25) rfl
theorem dX7_selectTold_176 : decode cX7_selectTold 176 = .ok (.istore 7, 2) := dc_of dtX7_selectTold_124_2_ok (i := 26) rfl
theorem dX7_selectTold_178 : decode cX7_selectTold 178 = .ok (.aload_n 0, 1) := dc_of dtX7_selectTold_124_2_ok (i := 27) rfl
theorem dX7_selectTold_179 : decode cX7_selectTold 179 = .ok (.iload_n 2, 1) := dc_of dtX7_selectTold_124_2_ok (i := 28) rfl
theorem dX7_selectTold_180 : decode cX7_selectTold 180 = .ok (.iload 4, 2) := dc_of dtX7_selectTold_124_2_ok (i := 29) rfl
theorem dX7_selectTold_182 : decode cX7_selectTold 182 = .ok (.iload 5, 2) := dc_of dtX7_selectTold_124_2_ok (i := 30) rfl
theorem dX7_selectTold_184 : decode cX7_selectTold 184 = .ok (.iload 6, 2) := dc_of dtX7_selectTold_124_2_ok (i := 31) rfl
def dtX7_selectTold_186_3 : List (Nat × Instr × Nat) := [(186, .ifCond .eq 7, 3), (189, .iconst 1, 1), (190, .goto 4, 3), (193, .iconst 0, 1), (194, .iload 7, 2), (196, .invokevirtual 215, 3), (199, .iinc 2 1, 3), (202, .aload_n 0, 1), (203, .ldc 152, 2), (205, .invokevirtual 140, 3), (208, .istore_n 3, 1), (209, .iload_n 3, 1), (210, .ifCond .eq 7, 3), (213, .aload_n 0, 1), (214, .invokevirtual 137, 3), (217, .goto (-202), 3), (220, .aload_n 0, 1), (221, .iconst 1, 1), (222, .aload_n 0, 1), (223, .iload_n 1, 1), (224, .invokevirtual 206, 3), (227, .iload_n 1, 1), (228, .iconst (-1), 1), (229, .iload_n 2, 1), (230, .invokevirtual 219, 3), (233, .return_, 1)]
theorem dtX7_selectTold_186_3_ok : dcAll cX7_selectTold dtX7_selectTold_186_3 = true := by decide +kernel
theorem dX7_selectTold_186 : decode cX7_selectTold 186 = .ok (.ifCond .eq 7, 3) := dc_of dtX7_selectTold_186_3_ok (i := 0) rfl
theorem dX7_selectTold_189 : decode cX7_selectTold 189 = .ok (.iconst 1, 1) := dc_of dtX7_selectTold_186_3_ok (i := 1) rfl
theorem dX7_selectTold_190 : decode cX7_selectTold 190 = .ok (.goto 4, 3) := dc_of dtX7_selectTold_186_3_ok (i := 2) rfl
theorem dX7_selectTold_193 : decode cX7_selectTold 193 = .ok (.iconst 0, 1) := dc_of dtX7_selectTold_186_3_ok (i := 3) rfl
theorem dX7_selectTold_194 : decode cX7_selectTold 194 = .ok (.iload 7, 2) := dc_of dtX7_selectTold_186_3_ok (i := 4) rfl
theorem dX7_selectTold_196 : decode cX7_selectTold 196 = .ok (.invokevirtual 215, 3) := dc_of dtX7_selectTold_186_3_ok (i := 5) rfl
theorem dX7_selectTold_199 : decode cX7_selectTold 199 = .ok (.iinc 2 1, 3) := dc_of dtX7_selectTold_186_3_ok (i := 6) rfl
theorem dX7_selectTold_202 : decode cX7_selectTold 202 = .ok (.aload_n 0, 1) := dc_of dtX7_selectTold_186_3_ok (i := 7) rfl
theorem dX7_selectTold_203 : decode cX7_selectTold 203 = .ok (.ldc 152, 2) := dc_of dtX7_selectTold_186_3_ok (i := 8) rfl
theorem dX7_selectTold_205 : decode cX7_selectTold 205 = .ok (.invokevirtual 140, 3) := dc_of dtX7_selectTold_186_3_ok (i := 9) rfl
theorem dX7_selectTold_208 : decode cX7_selectTold 208 = .ok (.istore_n 3, 1) := dc_of dtX7_selectTold_186_3_ok (i := 10) rfl
theorem dX7_selectTold_209 : decode cX7_selectTold 209 = .ok (.iload_n 3, 1) := dc_of dtX7_selectTold_186_3_ok (i := 11) rfl
theorem dX7_selectTold_210 : decode cX7_selectTold 210 = .ok (.ifCond .eq 7, 3) := dc_of dtX7_selectTold_186_3_ok (i := 12) rfl
theorem dX7_selectTold_213 : decode cX7_selectTold 213 = .ok (.aload_n 0, 1) := dc_of dtX7_selectTold_186_3_ok (i := 13) rfl
theorem dX7_selectTold_214 : decode cX7_selectTold 214 = .ok (.invokevirtual 137, 3) := dc_of dtX7_selectTold_186_3_ok (i := 14) rfl
theorem dX7_selectTold_217 : decode cX7_selectTold 217 = .ok (.goto (-202), 3) := dc_of dtX7_selectTold_186_3_ok (i := 15) rfl
theorem dX7_selectTold_220 : decode cX7_selectTold 220 = .ok (.aload_n 0, 1) := dc_of dtX7_selectTold_186_3_ok (i := 16) rfl
theorem dX7_selectTold_221 : decode cX7_selectTold 221 = .ok (.iconst 1, 1) := dc_of dtX7_selectTold_186_3_ok (i := 17) rfl
theorem dX7_selectTold_222 : decode cX7_selectTold 222 = .ok (.aload_n 0, 1) := dc_of dtX7_selectTold_186_3_ok (i := 18) rfl
theorem dX7_selectTold_223 : decode cX7_selectTold 223 = .ok (.iload_n 1, 1) := dc_of dtX7_selectTold_186_3_ok (i := 19) rfl
theorem dX7_selectTold_224 : decode cX7_selectTold 224 = .ok (.invokevirtual 206, 3) := dc_of dtX7_selectTold_186_3_ok (i := 20) rfl
theorem dX7_selectTold_227 : decode cX7_selectTold 227 = .ok (.iload_n 1, 1) := dc_of dtX7_selectTold_186_3_ok (i := 21) rfl
theorem dX7_selectTold_228 : decode cX7_selectTold 228 = .ok (.iconst (-1), 1) := dc_of dtX7_selectTold_186_3_ok (i := 22) rfl
theorem dX7_selectTold_229 : decode cX7_selectTold 229 = .ok (.iload_n 2, 1) := dc_of dtX7_selectTold_186_3_ok (i := 23) rfl
theorem dX7_selectTold_230 : decode cX7_selectTold 230 = .ok (.invokevirtual 219, 3) := dc_of dtX7_selectTold_186_3_ok (i := 24) rfl
theorem dX7_selectTold_233 : decode cX7_selectTold 233 = .ok (.return_, 1) := dc_of dtX7_selectTold_186_3_ok (i := 25) rfl
def dtX7_termsTold_0_0 : List (Nat × Instr × Nat) := [(0, .iconst 0, 1), (1, .istore_n 3, 1), (2, .iconst 1, 1), (3, .istore 4, 2), (5, .iload 4, 2), (7, .ifCond .eq 174, 3), (10, .aload_n 0, 1), (11, .getfield 81, 3), (14, .ifCond .ne 167, 3), (17, .iload_n 3, 1), (18, .iconst 4, 1), (19, .if_icmp .ne 44, 3), (22, .aload_n 0, 1), (23, .aload_n 0, 1), (24, .getfield 94, 3), (27, .iconst 1, 1), (28, .if_icmp .ne 19, 3), (31, .aload_n 0, 1), (32, .getfield 97, 3), (35, .iload_n 1, 1), (36, .if_icmp .lt 7, 3), (39, .iconst 2, 1), (40, .goto 20, 3), (43, .iconst 4, 1), (44, .goto 16, 3), (47, .aload_n 0, 1), (48, .getfield 94, 3), (51, .iconst 3, 1), (52, .if_icmp .ne 7, 3), (55, .iconst 4, 1), (56, .goto 4, 3), (59, .iconst 1, 1)]
theorem dtX7_termsTold_0_0_ok : dcAll cX7_termsTold dtX7_termsTold_0_0 = true := by decide +kernel
theorem dX7_termsTold_0 : decode cX7_termsTold 0 = .ok (.iconst 0, 1) := dc_of dtX7_termsTold_0_0_ok (i := 0) rfl
theorem dX7_termsTold_1 : decode cX7_termsTold 1 = .ok (.istore_n 3, 1) := dc_of dtX7_termsTold_0_0_ok (i := 1) rfl
theorem dX7_termsTold_2 : decode cX7_termsTold 2 = .ok (.iconst 1, 1) := dc_of dtX7_termsTold_0_0_ok (i := 2) rfl
theorem dX7_termsTold_3 : decode cX7_termsTold 3 = .ok (.istore 4, 2) := dc_of dtX7_termsTold_0_0_ok (i := 3) rfl
theorem dX7_termsTold_5 : decode cX7_termsTold 5 = .ok (.iload 4, 2) := dc_of dtX7_termsTold_0_0_ok (i := 4) rfl
theorem dX7_termsTold_7 : decode cX7_termsTold 7 = .ok (.ifCond .eq 174, 3) := dc_of dtX7_termsTold_0_0_ok (i := 5) rfl
theorem dX7_termsTold_10 : decode cX7_termsTold 10 = .ok (.aload_n 0, 1) := dc_of dtX7_termsTold_0_0_ok (i := 6) rfl
theorem dX7_termsTold_11 : decode cX7_termsTold 11 = .ok (.getfield 81, 3) := dc_of dtX7_termsTold_0_0_ok (i := 7) rfl
theorem dX7_termsTold_14 : decode cX7_termsTold 14 = .ok (.ifCond .ne 167, 3) := dc_of dtX7_termsTold_0_0_ok (i := 8) rfl
theorem dX7_termsTold_17 : decode cX7_termsTold 17 = .ok (.iload_n 3, 1) := dc_of dtX7_termsTold_0_0_ok (i := 9) rfl
theorem dX7_termsTold_18 : decode cX7_termsTold 18 = .ok (.iconst 4, 1) := dc_of dtX7_termsTold_0_0_ok (i := 10) rfl
theorem dX7_termsTold_19 : decode cX7_termsTold 19 = .ok (.if_icmp .ne 44, 3) := dc_of dtX7_termsTold_0_0_ok (i := 11) rfl
theorem dX7_termsTold_22 : decode cX7_termsTold 22 = .ok (.aload_n 0, 1) := dc_of dtX7_termsTold_0_0_ok (i := 12) rfl
theorem dX7_termsTold_23 : decode cX7_termsTold 23 = .ok (.aload_n 0, 1) := dc_of dtX7_termsTold_0_0_ok (i := 13) rfl
theorem dX7_termsTold_24 : decode cX7_termsTold 24 = .ok (.getfield 94, 3) := dc_of dtX7_termsTold_0_0_ok (i := 14) rfl
theorem dX7_termsTold_27 : decode cX7_termsTold 27 = .ok (.iconst 1, 1) := dc_of dtX7_termsTold_0_0_ok (i := 15) rfl
theorem dX7_termsTold_28 : decode cX7_termsTold 28 = .ok (.if_icmp .ne 19, 3) := dc_of dtX7_termsTold_0_0_ok (i := 16) rfl
theorem dX7_termsTold_31 : decode cX7_termsTold 31 = .ok (.aload_n 0, 1) := dc_of dtX7_termsTold_0_0_ok (i := 17) rfl
theorem dX7_termsTold_32 : decode cX7_termsTold 32 = .ok (.getfield 97, 3) := dc_of dtX7_termsTold_0_0_ok (i := 18) rfl
theorem dX7_termsTold_35 : decode cX7_termsTold 35 = .ok (.iload_n 1, 1) := dc_of dtX7_termsTold_0_0_ok (i := 19) rfl
theorem dX7_termsTold_36 : decode cX7_termsTold 36 = .ok (.if_icmp .lt 7, 3) := dc_of dtX7_termsTold_0_0_ok (i := 20) rfl
theorem dX7_termsTold_39 : decode cX7_termsTold 39 = .ok (.iconst 2, 1) := dc_of dtX7_termsTold_0_0_ok (i := 21) rfl
theorem dX7_termsTold_40 : decode cX7_termsTold 40 = .ok (.goto 20, 3) := dc_of dtX7_termsTold_0_0_ok (i := 22) rfl
theorem dX7_termsTold_43 : decode cX7_termsTold 43 = .ok (.iconst 4, 1) := dc_of dtX7_termsTold_0_0_ok (i := 23) rfl
theorem dX7_termsTold_44 : decode cX7_termsTold 44 = .ok (.goto 16, 3) := dc_of dtX7_termsTold_0_0_ok (i := 24) rfl
theorem dX7_termsTold_47 : decode cX7_termsTold 47 = .ok (.aload_n 0, 1) := dc_of dtX7_termsTold_0_0_ok (i := 25) rfl
theorem dX7_termsTold_48 : decode cX7_termsTold 48 = .ok (.getfield 94, 3) := dc_of dtX7_termsTold_0_0_ok (i := 26) rfl
theorem dX7_termsTold_51 : decode cX7_termsTold 51 = .ok (.iconst 3, 1) := dc_of dtX7_termsTold_0_0_ok (i := 27) rfl
theorem dX7_termsTold_52 : decode cX7_termsTold 52 = .ok (.if_icmp .ne 7, 3) := dc_of dtX7_termsTold_0_0_ok (i := 28) rfl
theorem dX7_termsTold_55 : decode cX7_termsTold 55 = .ok (.iconst 4, 1) := dc_of dtX7_termsTold_0_0_ok (i := 29) rfl
theorem dX7_termsTold_56 : decode cX7_termsTold 56 = .ok (.goto 4, 3) := dc_of dtX7_termsTold_0_0_ok (i := 30) rfl
theorem dX7_termsTold_59 : decode cX7_termsTold 59 = .ok (.iconst 1, 1) := dc_of dtX7_termsTold_0_0_ok (i := 31) rfl
def dtX7_termsTold_60_1 : List (Nat × Instr × Nat) := [(60, .invokevirtual 134, 3), (63, .aload_n 0, 1), (64, .getfield 94, 3), (67, .iconst 3, 1), (68, .if_icmp .ne 20, 3), (71, .aload_n 0, 1), (72, .iload_n 2, 1), (73, .iload_n 3, 1), (74, .iadd, 1), (75, .iconst (-1), 1), (76, .aload_n 0, 1), (77, .invokevirtual 212, 3), (80, .iconst 0, 1), (81, .iconst 0, 1), (82, .invokevirtual 215, 3), (85, .goto 73, 3), (88, .aload_n 0, 1), (89, .iload_n 1, 1), (90, .invokevirtual 209, 3), (93, .istore 5, 2), (95, .iconst 0, 1), (96, .istore 6, 2), (98, .aload_n 0, 1), (99, .bipush 43, 2), (101, .invokevirtual 131, 3), (104, .ifCond .ne 12, 3), (107, .aload_n 0, 1), (108, .bipush 45, 2), (110, .invokevirtual 131, 3), (113, .ifCond .eq 32, 3), (116, .aload_n 0, 1), (117, .bipush 43, 2)]
theorem dtX7_termsTold_60_1_ok : dcAll cX7_termsTold dtX7_termsTold_60_1 = true := by decide +kernel
theorem dX7_termsTold_60 : decode cX7_termsTold 60 = .ok (.invokevirtual 134, 3) := dc_of dtX7_termsTold_60_1_ok (i := 0) rfl
theorem dX7_termsTold_63 : decode cX7_termsTold 63 = .ok (.aload_n 0, 1) := dc_of dtX7_termsTold_60_1_ok (i := 1) rfl
theorem dX7_termsTold_64 : decode cX7_termsTold 64 = .ok (.getfield 94, 3) := dc_of dtX7_termsTold_60_1_ok (i := 2) rfl
theorem dX7_termsTold_67 : decode cX7_termsTold 67 = .ok (.iconst 3, 1) := dc_of dtX7_termsTold_60_1_ok (i := 3) rfl
theorem dX7_termsTold_68 : decode cX7_termsTold 68 = .ok (.if_icmp .ne 20, 3) := dc_of dtX7_termsTold_60_1_ok (i := 4) rfl
theorem dX7_termsTold_71 : decode cX7_termsTold 71 = .ok (.aload_n 0, 1) := dc_of dtX7_termsTold_60_1_ok (i := 5) rfl
theorem dX7_termsTold_72 : decode cX7_termsTold 72 = .ok (.iload_n 2, 1) := dc_of dtX7_termsTold_60_1_ok (i := 6) rfl
theorem dX7_termsTold_73 : decode cX7_termsTold 73 = .ok (.iload_n 3, 1) := dc_of dtX7_termsTold_60_1_ok (i := 7) rfl
theorem dX7_termsTold_74 : decode cX7_termsTold 74 = .ok (.iadd, 1) := dc_of dtX7_termsTold_60_1_ok (i := 8) rfl
theorem dX7_termsTold_75 : decode cX7_termsTold 75 = .ok (.iconst (-1), 1) := dc_of dtX7_termsTold_60_1_ok (i := 9) rfl
theorem dX7_termsTold_76 : decode cX7_termsTold 76 = .ok (.aload_n 0, 1) := dc_of dtX7_termsTold_60_1_ok (i := 10) rfl
theorem dX7_termsTold_77 : decode cX7_termsTold 77 = .ok (.invokevirtual 212, 3) := dc_of dtX7_termsTold_60_1_ok (i := 11) rfl
theorem dX7_termsTold_80 : decode cX7_termsTold 80 = .ok (.iconst 0, 1) := dc_of dtX7_termsTold_60_1_ok (i := 12) rfl
theorem dX7_termsTold_81 : decode cX7_termsTold 81 = .ok (.iconst 0, 1) := dc_of dtX7_termsTold_60_1_ok (i := 13) rfl
theorem dX7_termsTold_82 : decode cX7_termsTold 82 = .ok (.invokevirtual 215, 3) := dc_of dtX7_termsTold_60_1_ok (i := 14) rfl
theorem dX7_termsTold_85 : decode cX7_termsTold 85 = .ok (.goto 73, 3) := dc_of dtX7_termsTold_60_1_ok (i := 15) rfl
theorem dX7_termsTold_88 : decode cX7_termsTold 88 = .ok (.aload_n 0, 1) := dc_of dtX7_termsTold_60_1_ok (i := 16) rfl
theorem dX7_termsTold_89 : decode cX7_termsTold 89 = .ok (.iload_n 1, 1) := dc_of dtX7_termsTold_60_1_ok (i := 17) rfl
theorem dX7_termsTold_90 : decode cX7_termsTold 90 = .ok (.invokevirtual 209, 3) := dc_of dtX7_termsTold_60_1_ok (i := 18) rfl
theorem dX7_termsTold_93 : decode cX7_termsTold 93 = .ok (.istore 5, 2) := dc_of dtX7_termsTold_60_1_ok (i := 19) rfl
theorem dX7_termsTold_95 : decode cX7_termsTold 95 = .ok (.iconst 0, 1) := dc_of dtX7_termsTold_60_1_ok (i := 20) rfl
theorem dX7_termsTold_96 : decode cX7_termsTold 96 = .ok (.istore 6, 2) := dc_of dtX7_termsTold_60_1_ok (i := 21) rfl
theorem dX7_termsTold_98 : decode cX7_termsTold 98 = .ok (.aload_n 0, 1) := dc_of dtX7_termsTold_60_1_ok (i := 22) rfl
theorem dX7_termsTold_99 : decode cX7_termsTold 99 = .ok (.bipush 43, 2) := dc_of dtX7_termsTold_60_1_ok (i := 23) rfl
theorem dX7_termsTold_101 : decode cX7_termsTold 101 = .ok (.invokevirtual 131, 3) := dc_of dtX7_termsTold_60_1_ok (i := 24) rfl
theorem dX7_termsTold_104 : decode cX7_termsTold 104 = .ok (.ifCond .ne 12, 3) := dc_of dtX7_termsTold_60_1_ok (i := 25) rfl
theorem dX7_termsTold_107 : decode cX7_termsTold 107 = .ok (.aload_n 0, 1) := dc_of dtX7_termsTold_60_1_ok (i := 26) rfl
theorem dX7_termsTold_108 : decode cX7_termsTold 108 = .ok (.bipush 45, 2) := dc_of dtX7_termsTold_60_1_ok (i := 27) rfl
theorem dX7_termsTold_110 : decode cX7_termsTold 110 = .ok (.invokevirtual 131, 3) := dc_of dtX7_termsTold_60_1_ok (i := 28) rfl
theorem dX7_termsTold_113 : decode cX7_termsTold 113 = .ok (.ifCond .eq 32, 3) := dc_of dtX7_termsTold_60_1_ok (i := 29) rfl
theorem dX7_termsTold_116 : decode cX7_termsTold 116 = .ok (.aload_n 0, 1) := dc_of dtX7_termsTold_60_1_ok (i := 30) rfl
theorem dX7_termsTold_117 : decode cX7_termsTold 117 = .ok (.bipush 43, 2) := dc_of dtX7_termsTold_60_1_ok (i := 31) rfl
def dtX7_termsTold_119_2 : List (Nat × Instr × Nat) := [(119, .invokevirtual 131, 3), (122, .ifCond .eq 7, 3), (125, .iconst 1, 1), (126, .goto 4, 3), (129, .iconst (-1), 1), (130, .istore 7, 2), (132, .aload_n 0, 1), (133, .invokevirtual 137, 3), (136, .iload 7, 2), (138, .aload_n 0, 1), (139, .invokevirtual 212, 3), (142, .imul, 1), (143, .istore 6, 2), (145, .aload_n 0, 1), (146, .iload_n 2, 1), (147, .iload_n 3, 1), (148, .iadd, 1), (149, .iload 5, 2), (151, .iload 6, 2), (153, .iconst 0, 1), (154, .iconst 0, 1), (155, .invokevirtual 215, 3), (158, .iinc 3 1, 3), (161, .aload_n 0, 1), (162, .bipush 44, 2), (164, .invokevirtual 131, 3), (167, .istore 4, 2), (169, .iload 4, 2), (171, .ifCond .eq (-166), 3), (174, .aload_n 0, 1), (175, .invokevirtual 137, 3), (178, .goto (-173), 3)]
theorem dtX7_termsTold_119_2_ok : dcAll cX7_termsTold dtX7_termsTold_119_2 = true := by decide +kernel
theorem dX7_termsTold_119 : decode cX7_termsTold 119 = .ok (.invokevirtual 131, 3) := dc_of dtX7_termsTold_119_2_ok (i := 0) rfl
theorem dX7_termsTold_122 : decode cX7_termsTold 122 = .ok (.ifCond .eq 7, 3) := dc_of dtX7_termsTold_119_2_ok (i := 1) rfl
theorem dX7_termsTold_125 : decode cX7_termsTold 125 = .ok (.iconst 1, 1) := dc_of dtX7_termsTold_119_2_ok (i := 2) rfl
theorem dX7_termsTold_126 : decode cX7_termsTold 126 = .ok (.goto 4, 3) := dc_of dtX7_termsTold_119_2_ok (i := 3) rfl
theorem dX7_termsTold_129 : decode cX7_termsTold 129 = .ok (.iconst (-1), 1) := dc_of dtX7_termsTold_119_2_ok (i := 4) rfl
theorem dX7_termsTold_130 : decode cX7_termsTold 130 = .ok (.istore 7, 2) := dc_of dtX7_termsTold_119_2_ok (i := 5) rfl
theorem dX7_termsTold_132 : decode cX7_termsTold 132 = .ok (.aload_n 0, 1) := dc_of dtX7_termsTold_119_2_ok (i := 6) rfl
theorem dX7_termsTold_133 : decode cX7_termsTold 133 = .ok (.invokevirtual 137, 3) := dc_of dtX7_termsTold_119_2_ok (i := 7) rfl
theorem dX7_termsTold_136 : decode cX7_termsTold 136 = .ok (.iload 7, 2) := dc_of dtX7_termsTold_119_2_ok (i := 8) rfl
theorem dX7_termsTold_138 : decode cX7_termsTold 138 = .ok (.aload_n 0, 1) := dc_of dtX7_termsTold_119_2_ok (i := 9) rfl
theorem dX7_termsTold_139 : decode cX7_termsTold 139 = .ok (.invokevirtual 212, 3) := dc_of dtX7_termsTold_119_2_ok (i := 10) rfl
theorem dX7_termsTold_142 : decode cX7_termsTold 142 = .ok (.imul, 1) := dc_of dtX7_termsTold_119_2_ok (i := 11) rfl
theorem dX7_termsTold_143 : decode cX7_termsTold 143 = .ok (.istore 6, 2) := dc_of dtX7_termsTold_119_2_ok (i := 12) rfl
theorem dX7_termsTold_145 : decode cX7_termsTold 145 = .ok (.aload_n 0, 1) := dc_of dtX7_termsTold_119_2_ok (i := 13) rfl
theorem dX7_termsTold_146 : decode cX7_termsTold 146 = .ok (.iload_n 2, 1) := dc_of dtX7_termsTold_119_2_ok (i := 14) rfl
theorem dX7_termsTold_147 : decode cX7_termsTold 147 = .ok (.iload_n 3, 1) := dc_of dtX7_termsTold_119_2_ok (i := 15) rfl
theorem dX7_termsTold_148 : decode cX7_termsTold 148 = .ok (.iadd, 1) := dc_of dtX7_termsTold_119_2_ok (i := 16) rfl
theorem dX7_termsTold_149 : decode cX7_termsTold 149 = .ok (.iload 5, 2) := dc_of dtX7_termsTold_119_2_ok (i := 17) rfl
theorem dX7_termsTold_151 : decode cX7_termsTold 151 = .ok (.iload 6, 2) := dc_of dtX7_termsTold_119_2_ok (i := 18) rfl
theorem dX7_termsTold_153 : decode cX7_termsTold 153 = .ok (.iconst 0, 1) := dc_of dtX7_termsTold_119_2_ok (i := 19) rfl
theorem dX7_termsTold_154 : decode cX7_termsTold 154 = .ok (.iconst 0, 1) := dc_of dtX7_termsTold_119_2_ok (i := 20) rfl
theorem dX7_termsTold_155 : decode cX7_termsTold 155 = .ok (.invokevirtual 215, 3) := dc_of dtX7_termsTold_119_2_ok (i := 21) rfl
theorem dX7_termsTold_158 : decode cX7_termsTold 158 = .ok (.iinc 3 1, 3) := dc_of dtX7_termsTold_119_2_ok (i := 22) rfl
theorem dX7_termsTold_161 : decode cX7_termsTold 161 = .ok (.aload_n 0, 1) := dc_of dtX7_termsTold_119_2_ok (i := 23) rfl
theorem dX7_termsTold_162 : decode cX7_termsTold 162 = .ok (.bipush 44, 2) := dc_of dtX7_termsTold_119_2_ok (i := 24) rfl
theorem dX7_termsTold_164 : decode cX7_termsTold 164 = .ok (.invokevirtual 131, 3) := dc_of dtX7_termsTold_119_2_ok (i := 25) rfl
theorem dX7_termsTold_167 : decode cX7_termsTold 167 = .ok (.istore 4, 2) := dc_of dtX7_termsTold_119_2_ok (i := 26) rfl
theorem dX7_termsTold_169 : decode cX7_termsTold 169 = .ok (.iload 4, 2) := dc_of dtX7_termsTold_119_2_ok (i := 27) rfl
theorem dX7_termsTold_171 : decode cX7_termsTold 171 = .ok (.ifCond .eq (-166), 3) := dc_of dtX7_termsTold_119_2_ok (i := 28) rfl
theorem dX7_termsTold_174 : decode cX7_termsTold 174 = .ok (.aload_n 0, 1) := dc_of dtX7_termsTold_119_2_ok (i := 29) rfl
theorem dX7_termsTold_175 : decode cX7_termsTold 175 = .ok (.invokevirtual 137, 3) := dc_of dtX7_termsTold_119_2_ok (i := 30) rfl
theorem dX7_termsTold_178 : decode cX7_termsTold 178 = .ok (.goto (-173), 3) := dc_of dtX7_termsTold_119_2_ok (i := 31) rfl
def dtX7_termsTold_181_3 : List (Nat × Instr × Nat) := [(181, .iload_n 3, 1), (182, .ireturn, 1)]
theorem dtX7_termsTold_181_3_ok : dcAll cX7_termsTold dtX7_termsTold_181_3 = true := by decide +kernel
theorem dX7_termsTold_181 : decode cX7_termsTold 181 = .ok (.iload_n 3, 1) := dc_of dtX7_termsTold_181_3_ok (i := 0) rfl
theorem dX7_termsTold_182 : decode cX7_termsTold 182 = .ok (.ireturn, 1) := dc_of dtX7_termsTold_181_3_ok (i := 1) rfl
def dtX7_projectTold_0_0 : List (Nat × Instr × Nat) := [(0, .aload_n 0, 1), (1, .invokevirtual 199, 3), (4, .istore_n 1, 1), (5, .aload_n 0, 1), (6, .aload_n 0, 1), (7, .iload_n 1, 1), (8, .invokevirtual 206, 3), (11, .iconst 0, 1), (12, .invokevirtual 222, 3), (15, .istore_n 2, 1), (16, .aload_n 0, 1), (17, .iconst 2, 1), (18, .iload_n 2, 1), (19, .iload_n 1, 1), (20, .iconst (-1), 1), (21, .iload_n 2, 1), (22, .invokevirtual 219, 3), (25, .return_, 1)]
theorem dtX7_projectTold_0_0_ok : dcAll cX7_projectTold dtX7_projectTold_0_0 = true := by decide +kernel
theorem dX7_projectTold_0 : decode cX7_projectTold 0 = .ok (.aload_n 0, 1) := dc_of dtX7_projectTold_0_0_ok (i := 0) rfl
theorem dX7_projectTold_1 : decode cX7_projectTold 1 = .ok (.invokevirtual 199, 3) := dc_of dtX7_projectTold_0_0_ok (i := 1) rfl
theorem dX7_projectTold_4 : decode cX7_projectTold 4 = .ok (.istore_n 1, 1) := dc_of dtX7_projectTold_0_0_ok (i := 2) rfl
theorem dX7_projectTold_5 : decode cX7_projectTold 5 = .ok (.aload_n 0, 1) := dc_of dtX7_projectTold_0_0_ok (i := 3) rfl
theorem dX7_projectTold_6 : decode cX7_projectTold 6 = .ok (.aload_n 0, 1) := dc_of dtX7_projectTold_0_0_ok (i := 4) rfl
theorem dX7_projectTold_7 : decode cX7_projectTold 7 = .ok (.iload_n 1, 1) := dc_of dtX7_projectTold_0_0_ok (i := 5) rfl
theorem dX7_projectTold_8 : decode cX7_projectTold 8 = .ok (.invokevirtual 206, 3) := dc_of dtX7_projectTold_0_0_ok (i := 6) rfl
theorem dX7_projectTold_11 : decode cX7_projectTold 11 = .ok (.iconst 0, 1) := dc_of dtX7_projectTold_0_0_ok (i := 7) rfl
theorem dX7_projectTold_12 : decode cX7_projectTold 12 = .ok (.invokevirtual 222, 3) := dc_of dtX7_projectTold_0_0_ok (i := 8) rfl
theorem dX7_projectTold_15 : decode cX7_projectTold 15 = .ok (.istore_n 2, 1) := dc_of dtX7_projectTold_0_0_ok (i := 9) rfl
theorem dX7_projectTold_16 : decode cX7_projectTold 16 = .ok (.aload_n 0, 1) := dc_of dtX7_projectTold_0_0_ok (i := 10) rfl
theorem dX7_projectTold_17 : decode cX7_projectTold 17 = .ok (.iconst 2, 1) := dc_of dtX7_projectTold_0_0_ok (i := 11) rfl
theorem dX7_projectTold_18 : decode cX7_projectTold 18 = .ok (.iload_n 2, 1) := dc_of dtX7_projectTold_0_0_ok (i := 12) rfl
theorem dX7_projectTold_19 : decode cX7_projectTold 19 = .ok (.iload_n 1, 1) := dc_of dtX7_projectTold_0_0_ok (i := 13) rfl
theorem dX7_projectTold_20 : decode cX7_projectTold 20 = .ok (.iconst (-1), 1) := dc_of dtX7_projectTold_0_0_ok (i := 14) rfl
theorem dX7_projectTold_21 : decode cX7_projectTold 21 = .ok (.iload_n 2, 1) := dc_of dtX7_projectTold_0_0_ok (i := 15) rfl
theorem dX7_projectTold_22 : decode cX7_projectTold 22 = .ok (.invokevirtual 219, 3) := dc_of dtX7_projectTold_0_0_ok (i := 16) rfl
theorem dX7_projectTold_25 : decode cX7_projectTold 25 = .ok (.return_, 1) := dc_of dtX7_projectTold_0_0_ok (i := 17) rfl
def dtX7_joinTold_0_0 : List (Nat × Instr × Nat) := [(0, .aload_n 0, 1), (1, .invokevirtual 199, 3), (4, .istore_n 1, 1), (5, .aload_n 0, 1), (6, .invokevirtual 199, 3), (9, .istore_n 2, 1), (10, .aload_n 0, 1), (11, .ldc 158, 2), (13, .invokevirtual 202, 3), (16, .iconst 0, 1), (17, .istore_n 3, 1), (18, .iconst 0, 1), (19, .istore 4, 2), (21, .iconst 1, 1), (22, .istore 5, 2), (24, .iload 5, 2), (26, .ifCond .eq 134, 3), (29, .aload_n 0, 1), (30, .getfield 81, 3), (33, .ifCond .ne 127, 3), (36, .iload_n 3, 1), (37, .iconst 4, 1), (38, .if_icmp .ne 44, 3), (41, .aload_n 0, 1), (42, .aload_n 0, 1), (43, .getfield 94, 3), (46, .iconst 1, 1), (47, .if_icmp .ne 19, 3), (50, .aload_n 0, 1), (51, .getfield 97, 3), (54, .aload_n 0, 1), (55, .iload_n 1, 1)]
theorem dtX7_joinTold_0_0_ok : dcAll cX7_joinTold dtX7_joinTold_0_0 = true := by decide +kernel
theorem dX7_joinTold_0 : decode cX7_joinTold 0 = .ok (.aload_n 0, 1) := dc_of dtX7_joinTold_0_0_ok (i := 0) rfl
theorem dX7_joinTold_1 : decode cX7_joinTold 1 = .ok (.invokevirtual 199, 3) := dc_of dtX7_joinTold_0_0_ok (i := 1) rfl
theorem dX7_joinTold_4 : decode cX7_joinTold 4 = .ok (.istore_n 1, 1) := dc_of dtX7_joinTold_0_0_ok (i := 2) rfl
theorem dX7_joinTold_5 : decode cX7_joinTold 5 = .ok (.aload_n 0, 1) := dc_of dtX7_joinTold_0_0_ok (i := 3) rfl
theorem dX7_joinTold_6 : decode cX7_joinTold 6 = .ok (.invokevirtual 199, 3) := dc_of dtX7_joinTold_0_0_ok (i := 4) rfl
theorem dX7_joinTold_9 : decode cX7_joinTold 9 = .ok (.istore_n 2, 1) := dc_of dtX7_joinTold_0_0_ok (i := 5) rfl
theorem dX7_joinTold_10 : decode cX7_joinTold 10 = .ok (.aload_n 0, 1) := dc_of dtX7_joinTold_0_0_ok (i := 6) rfl
theorem dX7_joinTold_11 : decode cX7_joinTold 11 = .ok (.ldc 158, 2) := dc_of dtX7_joinTold_0_0_ok (i := 7) rfl
theorem dX7_joinTold_13 : decode cX7_joinTold 13 = .ok (.invokevirtual 202, 3) := dc_of dtX7_joinTold_0_0_ok (i := 8) rfl
theorem dX7_joinTold_16 : decode cX7_joinTold 16 = .ok (.iconst 0, 1) := dc_of dtX7_joinTold_0_0_ok (i := 9) rfl
theorem dX7_joinTold_17 : decode cX7_joinTold 17 = .ok (.istore_n 3, 1) := dc_of dtX7_joinTold_0_0_ok (i := 10) rfl
theorem dX7_joinTold_18 : decode cX7_joinTold 18 = .ok (.iconst 0, 1) := dc_of dtX7_joinTold_0_0_ok (i := 11) rfl
theorem dX7_joinTold_19 : decode cX7_joinTold 19 = .ok (.istore 4, 2) := dc_of dtX7_joinTold_0_0_ok (i := 12) rfl
theorem dX7_joinTold_21 : decode cX7_joinTold 21 = .ok (.iconst 1, 1) := dc_of dtX7_joinTold_0_0_ok (i := 13) rfl
theorem dX7_joinTold_22 : decode cX7_joinTold 22 = .ok (.istore 5, 2) := dc_of dtX7_joinTold_0_0_ok (i := 14) rfl
theorem dX7_joinTold_24 : decode cX7_joinTold 24 = .ok (.iload 5, 2) := dc_of dtX7_joinTold_0_0_ok (i := 15) rfl
theorem dX7_joinTold_26 : decode cX7_joinTold 26 = .ok (.ifCond .eq 134, 3) := dc_of dtX7_joinTold_0_0_ok (i := 16) rfl
theorem dX7_joinTold_29 : decode cX7_joinTold 29 = .ok (.aload_n 0, 1) := dc_of dtX7_joinTold_0_0_ok (i := 17) rfl
theorem dX7_joinTold_30 : decode cX7_joinTold 30 = .ok (.getfield 81, 3) := dc_of dtX7_joinTold_0_0_ok (i := 18) rfl
theorem dX7_joinTold_33 : decode cX7_joinTold 33 = .ok (.ifCond .ne 127, 3) := dc_of dtX7_joinTold_0_0_ok (i := 19) rfl
theorem dX7_joinTold_36 : decode cX7_joinTold 36 = .ok (.iload_n 3, 1) := dc_of dtX7_joinTold_0_0_ok (i := 20) rfl
theorem dX7_joinTold_37 : decode cX7_joinTold 37 = .ok (.iconst 4, 1) := dc_of dtX7_joinTold_0_0_ok (i := 21) rfl
theorem dX7_joinTold_38 : decode cX7_joinTold 38 = .ok (.if_icmp .ne 44, 3) := dc_of dtX7_joinTold_0_0_ok (i := 22) rfl
theorem dX7_joinTold_41 : decode cX7_joinTold 41 = .ok (.aload_n 0, 1) := dc_of dtX7_joinTold_0_0_ok (i := 23) rfl
theorem dX7_joinTold_42 : decode cX7_joinTold 42 = .ok (.aload_n 0, 1) := dc_of dtX7_joinTold_0_0_ok (i := 24) rfl
theorem dX7_joinTold_43 : decode cX7_joinTold 43 = .ok (.getfield 94, 3) := dc_of dtX7_joinTold_0_0_ok (i := 25) rfl
theorem dX7_joinTold_46 : decode cX7_joinTold 46 = .ok (.iconst 1, 1) := dc_of dtX7_joinTold_0_0_ok (i := 26) rfl
theorem dX7_joinTold_47 : decode cX7_joinTold 47 = .ok (.if_icmp .ne 19, 3) := dc_of dtX7_joinTold_0_0_ok (i := 27) rfl
theorem dX7_joinTold_50 : decode cX7_joinTold 50 = .ok (.aload_n 0, 1) := dc_of dtX7_joinTold_0_0_ok (i := 28) rfl
theorem dX7_joinTold_51 : decode cX7_joinTold 51 = .ok (.getfield 97, 3) := dc_of dtX7_joinTold_0_0_ok (i := 29) rfl
theorem dX7_joinTold_54 : decode cX7_joinTold 54 = .ok (.aload_n 0, 1) := dc_of dtX7_joinTold_0_0_ok (i := 30) rfl
theorem dX7_joinTold_55 : decode cX7_joinTold 55 = .ok (.iload_n 1, 1) := dc_of dtX7_joinTold_0_0_ok (i := 31) rfl
def dtX7_joinTold_56_1 : List (Nat × Instr × Nat) := [(56, .invokevirtual 206, 3), (59, .if_icmp .lt 7, 3), (62, .iconst 2, 1), (63, .goto 16, 3), (66, .aload_n 0, 1), (67, .getfield 94, 3), (70, .iconst 1, 1), (71, .if_icmp .ne 7, 3), (74, .iconst 4, 1), (75, .goto 4, 3), (78, .iconst 1, 1), (79, .invokevirtual 134, 3), (82, .aload_n 0, 1), (83, .aload_n 0, 1), (84, .iload_n 1, 1), (85, .invokevirtual 206, 3), (88, .invokevirtual 209, 3), (91, .istore 6, 2), (93, .aload_n 0, 1), (94, .bipush 61, 2), (96, .invokevirtual 226, 3), (99, .aload_n 0, 1), (100, .aload_n 0, 1), (101, .iload_n 2, 1), (102, .invokevirtual 206, 3), (105, .invokevirtual 209, 3), (108, .istore 7, 2), (110, .aload_n 0, 1), (111, .iload_n 3, 1), (112, .iload 6, 2), (114, .iload 7, 2), (116, .iconst 0, 1)]
theorem dtX7_joinTold_56_1_ok : dcAll cX7_joinTold dtX7_joinTold_56_1 = true := by decide +kernel
theorem dX7_joinTold_56 : decode cX7_joinTold 56 = .ok (.invokevirtual 206, 3) := dc_of dtX7_joinTold_56_1_ok (i := 0) rfl
theorem dX7_joinTold_59 : decode cX7_joinTold 59 = .ok (.if_icmp .lt 7, 3) := dc_of dtX7_joinTold_56_1_ok (i := 1) rfl
theorem dX7_joinTold_62 : decode cX7_joinTold 62 = .ok (.iconst 2, 1) := dc_of dtX7_joinTold_56_1_ok (i := 2) rfl
theorem dX7_joinTold_63 : decode cX7_joinTold 63 = .ok (.goto 16, 3) := dc_of dtX7_joinTold_56_1_ok (i := 3) rfl
theorem dX7_joinTold_66 : decode cX7_joinTold 66 = .ok (.aload_n 0, 1) := dc_of dtX7_joinTold_56_1_ok (i := 4) rfl
theorem dX7_joinTold_67 : decode cX7_joinTold 67 = .ok (.getfield 94, 3) := dc_of dtX7_joinTold_56_1_ok (i := 5) rfl
theorem dX7_joinTold_70 : decode cX7_joinTold 70 = .ok (.iconst 1, 1) := dc_of dtX7_joinTold_56_1_ok (i := 6) rfl
theorem dX7_joinTold_71 : decode cX7_joinTold 71 = .ok (.if_icmp .ne 7, 3) := dc_of dtX7_joinTold_56_1_ok (i := 7) rfl
theorem dX7_joinTold_74 : decode cX7_joinTold 74 = .ok (.iconst 4, 1) := dc_of dtX7_joinTold_56_1_ok (i := 8) rfl
theorem dX7_joinTold_75 : decode cX7_joinTold 75 = .ok (.goto 4, 3) := dc_of dtX7_joinTold_56_1_ok (i := 9) rfl
theorem dX7_joinTold_78 : decode cX7_joinTold 78 = .ok (.iconst 1, 1) := dc_of dtX7_joinTold_56_1_ok (i := 10) rfl
theorem dX7_joinTold_79 : decode cX7_joinTold 79 = .ok (.invokevirtual 134, 3) := dc_of dtX7_joinTold_56_1_ok (i := 11) rfl
theorem dX7_joinTold_82 : decode cX7_joinTold 82 = .ok (.aload_n 0, 1) := dc_of dtX7_joinTold_56_1_ok (i := 12) rfl
theorem dX7_joinTold_83 : decode cX7_joinTold 83 = .ok (.aload_n 0, 1) := dc_of dtX7_joinTold_56_1_ok (i := 13) rfl
theorem dX7_joinTold_84 : decode cX7_joinTold 84 = .ok (.iload_n 1, 1) := dc_of dtX7_joinTold_56_1_ok (i := 14) rfl
theorem dX7_joinTold_85 : decode cX7_joinTold 85 = .ok (.invokevirtual 206, 3) := dc_of dtX7_joinTold_56_1_ok (i := 15) rfl
theorem dX7_joinTold_88 : decode cX7_joinTold 88 = .ok (.invokevirtual 209, 3) := dc_of dtX7_joinTold_56_1_ok (i := 16) rfl
theorem dX7_joinTold_91 : decode cX7_joinTold 91 = .ok (.istore 6, 2) := dc_of dtX7_joinTold_56_1_ok (i := 17) rfl
theorem dX7_joinTold_93 : decode cX7_joinTold 93 = .ok (.aload_n 0, 1) := dc_of dtX7_joinTold_56_1_ok (i := 18) rfl
theorem dX7_joinTold_94 : decode cX7_joinTold 94 = .ok (.bipush 61, 2) := dc_of dtX7_joinTold_56_1_ok (i := 19) rfl
theorem dX7_joinTold_96 : decode cX7_joinTold 96 = .ok (.invokevirtual 226, 3) := dc_of dtX7_joinTold_56_1_ok (i := 20) rfl
theorem dX7_joinTold_99 : decode cX7_joinTold 99 = .ok (.aload_n 0, 1) := dc_of dtX7_joinTold_56_1_ok (i := 21) rfl
theorem dX7_joinTold_100 : decode cX7_joinTold 100 = .ok (.aload_n 0, 1) := dc_of dtX7_joinTold_56_1_ok (i := 22) rfl
theorem dX7_joinTold_101 : decode cX7_joinTold 101 = .ok (.iload_n 2, 1) := dc_of dtX7_joinTold_56_1_ok (i := 23) rfl
theorem dX7_joinTold_102 : decode cX7_joinTold 102 = .ok (.invokevirtual 206, 3) := dc_of dtX7_joinTold_56_1_ok (i := 24) rfl
theorem dX7_joinTold_105 : decode cX7_joinTold 105 = .ok (.invokevirtual 209, 3) := dc_of dtX7_joinTold_56_1_ok (i := 25) rfl
theorem dX7_joinTold_108 : decode cX7_joinTold 108 = .ok (.istore 7, 2) := dc_of dtX7_joinTold_56_1_ok (i := 26) rfl
theorem dX7_joinTold_110 : decode cX7_joinTold 110 = .ok (.aload_n 0, 1) := dc_of dtX7_joinTold_56_1_ok (i := 27) rfl
theorem dX7_joinTold_111 : decode cX7_joinTold 111 = .ok (.iload_n 3, 1) := dc_of dtX7_joinTold_56_1_ok (i := 28) rfl
theorem dX7_joinTold_112 : decode cX7_joinTold 112 = .ok (.iload 6, 2) := dc_of dtX7_joinTold_56_1_ok (i := 29) rfl
theorem dX7_joinTold_114 : decode cX7_joinTold 114 = .ok (.iload 7, 2) := dc_of dtX7_joinTold_56_1_ok (i := 30) rfl
theorem dX7_joinTold_116 : decode cX7_joinTold 116 = .ok (.iconst 0, 1) := dc_of dtX7_joinTold_56_1_ok (i := 31) rfl
def dtX7_joinTold_117_2 : List (Nat × Instr × Nat) := [(117, .iconst 0, 1), (118, .invokevirtual 215, 3), (121, .aload_n 0, 1), (122, .getfield 81, 3), (125, .ifCond .ne 12, 3), (128, .iload 4, 2), (130, .iconst 1, 1), (131, .iload 7, 2), (133, .ishl, 1), (134, .ior, 1), (135, .istore 4, 2), (137, .iinc 3 1, 3), (140, .aload_n 0, 1), (141, .bipush 44, 2), (143, .invokevirtual 131, 3), (146, .istore 5, 2), (148, .iload 5, 2), (150, .ifCond .eq 7, 3), (153, .aload_n 0, 1), (154, .invokevirtual 137, 3), (157, .goto (-133), 3), (160, .aload_n 0, 1), (161, .iload_n 1, 1), (162, .invokevirtual 206, 3), (165, .istore 6, 2), (167, .iconst 0, 1), (168, .istore 7, 2), (170, .iload 7, 2), (172, .aload_n 0, 1), (173, .iload_n 2, 1), (174, .invokevirtual 206, 3), (177, .if_icmp .ge 22, 3)]
theorem dtX7_joinTold_117_2_ok : dcAll cX7_joinTold dtX7_joinTold_117_2 = true := by decide +kernel
theorem dX7_joinTold_117 : decode cX7_joinTold 117 = .ok (.iconst 0, 1) := dc_of dtX7_joinTold_117_2_ok (i := 0) rfl
theorem dX7_joinTold_118 : decode cX7_joinTold 118 = .ok (.invokevirtual 215, 3) := dc_of dtX7_joinTold_117_2_ok (i := 1) rfl
theorem dX7_joinTold_121 : decode cX7_joinTold 121 = .ok (.aload_n 0, 1) := dc_of dtX7_joinTold_117_2_ok (i := 2) rfl
theorem dX7_joinTold_122 : decode cX7_joinTold 122 = .ok (.getfield 81, 3) := dc_of dtX7_joinTold_117_2_ok (i := 3) rfl
theorem dX7_joinTold_125 : decode cX7_joinTold 125 = .ok (.ifCond .ne 12, 3) := dc_of dtX7_joinTold_117_2_ok (i := 4) rfl
theorem dX7_joinTold_128 : decode cX7_joinTold 128 = .ok (.iload 4, 2) := dc_of dtX7_joinTold_117_2_ok (i := 5) rfl
theorem dX7_joinTold_130 : decode cX7_joinTold 130 = .ok (.iconst 1, 1) := dc_of dtX7_joinTold_117_2_ok (i := 6) rfl
theorem dX7_joinTold_131 : decode cX7_joinTold 131 = .ok (.iload 7, 2) := dc_of dtX7_joinTold_117_2_ok (i := 7) rfl
theorem dX7_joinTold_133 : decode cX7_joinTold 133 = .ok (.ishl, 1) := dc_of dtX7_joinTold_117_2_ok (i := 8) rfl
theorem dX7_joinTold_134 : decode cX7_joinTold 134 = .ok (.ior, 1) := dc_of dtX7_joinTold_117_2_ok (i := 9) rfl
theorem dX7_joinTold_135 : decode cX7_joinTold 135 = .ok (.istore 4, 2) := dc_of dtX7_joinTold_117_2_ok (i := 10) rfl
theorem dX7_joinTold_137 : decode cX7_joinTold 137 = .ok (.iinc 3 1, 3) := dc_of dtX7_joinTold_117_2_ok (i := 11) rfl
theorem dX7_joinTold_140 : decode cX7_joinTold 140 = .ok (.aload_n 0, 1) := dc_of dtX7_joinTold_117_2_ok (i := 12) rfl
theorem dX7_joinTold_141 : decode cX7_joinTold 141 = .ok (.bipush 44, 2) := dc_of dtX7_joinTold_117_2_ok (i := 13) rfl
theorem dX7_joinTold_143 : decode cX7_joinTold 143 = .ok (.invokevirtual 131, 3) := dc_of dtX7_joinTold_117_2_ok (i := 14) rfl
theorem dX7_joinTold_146 : decode cX7_joinTold 146 = .ok (.istore 5, 2) := dc_of dtX7_joinTold_117_2_ok (i := 15) rfl
theorem dX7_joinTold_148 : decode cX7_joinTold 148 = .ok (.iload 5, 2) := dc_of dtX7_joinTold_117_2_ok (i := 16) rfl
theorem dX7_joinTold_150 : decode cX7_joinTold 150 = .ok (.ifCond .eq 7, 3) := dc_of dtX7_joinTold_117_2_ok (i := 17) rfl
theorem dX7_joinTold_153 : decode cX7_joinTold 153 = .ok (.aload_n 0, 1) := dc_of dtX7_joinTold_117_2_ok (i := 18) rfl
theorem dX7_joinTold_154 : decode cX7_joinTold 154 = .ok (.invokevirtual 137, 3) := dc_of dtX7_joinTold_117_2_ok (i := 19) rfl
theorem dX7_joinTold_157 : decode cX7_joinTold 157 = .ok (.goto (-133), 3) := dc_of dtX7_joinTold_117_2_ok (i := 20) rfl
theorem dX7_joinTold_160 : decode cX7_joinTold 160 = .ok (.aload_n 0, 1) := dc_of dtX7_joinTold_117_2_ok (i := 21) rfl
theorem dX7_joinTold_161 : decode cX7_joinTold 161 = .ok (.iload_n 1, 1) := dc_of dtX7_joinTold_117_2_ok (i := 22) rfl
theorem dX7_joinTold_162 : decode cX7_joinTold 162 = .ok (.invokevirtual 206, 3) := dc_of dtX7_joinTold_117_2_ok (i := 23) rfl
theorem dX7_joinTold_165 : decode cX7_joinTold 165 = .ok (.istore 6, 2) := dc_of dtX7_joinTold_117_2_ok (i := 24) rfl
theorem dX7_joinTold_167 : decode cX7_joinTold 167 = .ok (.iconst 0, 1) := dc_of dtX7_joinTold_117_2_ok (i := 25) rfl
theorem dX7_joinTold_168 : decode cX7_joinTold 168 = .ok (.istore 7, 2) := dc_of dtX7_joinTold_117_2_ok (i := 26) rfl
theorem dX7_joinTold_170 : decode cX7_joinTold 170 = .ok (.iload 7, 2) := dc_of dtX7_joinTold_117_2_ok (i := 27) rfl
theorem dX7_joinTold_172 : decode cX7_joinTold 172 = .ok (.aload_n 0, 1) := dc_of dtX7_joinTold_117_2_ok (i := 28) rfl
theorem dX7_joinTold_173 : decode cX7_joinTold 173 = .ok (.iload_n 2, 1) := dc_of dtX7_joinTold_117_2_ok (i := 29) rfl
theorem dX7_joinTold_174 : decode cX7_joinTold 174 = .ok (.invokevirtual 206, 3) := dc_of dtX7_joinTold_117_2_ok (i := 30) rfl
theorem dX7_joinTold_177 : decode cX7_joinTold 177 = .ok (.if_icmp .ge 22, 3) := dc_of dtX7_joinTold_117_2_ok (i := 31) rfl
def dtX7_joinTold_180_3 : List (Nat × Instr × Nat) := [(180, .iload 4, 2), (182, .iload 7, 2), (184, .ishr, 1), (185, .iconst 1, 1), (186, .iand, 1), (187, .ifCond .ne 6, 3), (190, .iinc 6 1, 3), (193, .iinc 7 1, 3), (196, .goto (-26), 3), (199, .aload_n 0, 1), (200, .bipush 59, 2), (202, .invokevirtual 131, 3), (205, .ifCond .eq 14, 3), (208, .iload 6, 2), (210, .iconst 4, 1), (211, .if_icmp .le 8, 3), (214, .aload_n 0, 1), (215, .iconst 5, 1), (216, .invokevirtual 134, 3), (219, .aload_n 0, 1), (220, .iconst 3, 1), (221, .iload 6, 2), (223, .iload_n 1, 1), (224, .iload_n 2, 1), (225, .iload_n 3, 1), (226, .invokevirtual 219, 3), (229, .aload_n 0, 1), (230, .iconst 5, 1), (231, .iload 4, 2), (233, .invokevirtual 195, 3), (236, .return_, 1)]
theorem dtX7_joinTold_180_3_ok : dcAll cX7_joinTold dtX7_joinTold_180_3 = true := by decide +kernel
theorem dX7_joinTold_180 : decode cX7_joinTold 180 = .ok (.iload 4, 2) := dc_of dtX7_joinTold_180_3_ok (i := 0) rfl
theorem dX7_joinTold_182 : decode cX7_joinTold 182 = .ok (.iload 7, 2) := dc_of dtX7_joinTold_180_3_ok (i := 1) rfl
theorem dX7_joinTold_184 : decode cX7_joinTold 184 = .ok (.ishr, 1) := dc_of dtX7_joinTold_180_3_ok (i := 2) rfl
theorem dX7_joinTold_185 : decode cX7_joinTold 185 = .ok (.iconst 1, 1) := dc_of dtX7_joinTold_180_3_ok (i := 3) rfl
theorem dX7_joinTold_186 : decode cX7_joinTold 186 = .ok (.iand, 1) := dc_of dtX7_joinTold_180_3_ok (i := 4) rfl
theorem dX7_joinTold_187 : decode cX7_joinTold 187 = .ok (.ifCond .ne 6, 3) := dc_of dtX7_joinTold_180_3_ok (i := 5) rfl
theorem dX7_joinTold_190 : decode cX7_joinTold 190 = .ok (.iinc 6 1, 3) := dc_of dtX7_joinTold_180_3_ok (i := 6) rfl
theorem dX7_joinTold_193 : decode cX7_joinTold 193 = .ok (.iinc 7 1, 3) := dc_of dtX7_joinTold_180_3_ok (i := 7) rfl
theorem dX7_joinTold_196 : decode cX7_joinTold 196 = .ok (.goto (-26), 3) := dc_of dtX7_joinTold_180_3_ok (i := 8) rfl
theorem dX7_joinTold_199 : decode cX7_joinTold 199 = .ok (.aload_n 0, 1) := dc_of dtX7_joinTold_180_3_ok (i := 9) rfl
theorem dX7_joinTold_200 : decode cX7_joinTold 200 = .ok (.bipush 59, 2) := dc_of dtX7_joinTold_180_3_ok (i := 10) rfl
theorem dX7_joinTold_202 : decode cX7_joinTold 202 = .ok (.invokevirtual 131, 3) := dc_of dtX7_joinTold_180_3_ok (i := 11) rfl
theorem dX7_joinTold_205 : decode cX7_joinTold 205 = .ok (.ifCond .eq 14, 3) := dc_of dtX7_joinTold_180_3_ok (i := 12) rfl
theorem dX7_joinTold_208 : decode cX7_joinTold 208 = .ok (.iload 6, 2) := dc_of dtX7_joinTold_180_3_ok (i := 13) rfl
theorem dX7_joinTold_210 : decode cX7_joinTold 210 = .ok (.iconst 4, 1) := dc_of dtX7_joinTold_180_3_ok (i := 14) rfl
theorem dX7_joinTold_211 : decode cX7_joinTold 211 = .ok (.if_icmp .le 8, 3) := dc_of dtX7_joinTold_180_3_ok (i := 15) rfl
theorem dX7_joinTold_214 : decode cX7_joinTold 214 = .ok (.aload_n 0, 1) := dc_of dtX7_joinTold_180_3_ok (i := 16) rfl
theorem dX7_joinTold_215 : decode cX7_joinTold 215 = .ok (.iconst 5, 1) := dc_of dtX7_joinTold_180_3_ok (i := 17) rfl
theorem dX7_joinTold_216 : decode cX7_joinTold 216 = .ok (.invokevirtual 134, 3) := dc_of dtX7_joinTold_180_3_ok (i := 18) rfl
theorem dX7_joinTold_219 : decode cX7_joinTold 219 = .ok (.aload_n 0, 1) := dc_of dtX7_joinTold_180_3_ok (i := 19) rfl
theorem dX7_joinTold_220 : decode cX7_joinTold 220 = .ok (.iconst 3, 1) := dc_of dtX7_joinTold_180_3_ok (i := 20) rfl
theorem dX7_joinTold_221 : decode cX7_joinTold 221 = .ok (.iload 6, 2) := dc_of dtX7_joinTold_180_3_ok (i := 21) rfl
theorem dX7_joinTold_223 : decode cX7_joinTold 223 = .ok (.iload_n 1, 1) := dc_of dtX7_joinTold_180_3_ok (i := 22) rfl
theorem dX7_joinTold_224 : decode cX7_joinTold 224 = .ok (.iload_n 2, 1) := dc_of dtX7_joinTold_180_3_ok (i := 23) rfl
theorem dX7_joinTold_225 : decode cX7_joinTold 225 = .ok (.iload_n 3, 1) := dc_of dtX7_joinTold_180_3_ok (i := 24) rfl
theorem dX7_joinTold_226 : decode cX7_joinTold 226 = .ok (.invokevirtual 219, 3) := dc_of dtX7_joinTold_180_3_ok (i := 25) rfl
theorem dX7_joinTold_229 : decode cX7_joinTold 229 = .ok (.aload_n 0, 1) := dc_of dtX7_joinTold_180_3_ok (i := 26) rfl
theorem dX7_joinTold_230 : decode cX7_joinTold 230 = .ok (.iconst 5, 1) := dc_of dtX7_joinTold_180_3_ok (i := 27) rfl
theorem dX7_joinTold_231 : decode cX7_joinTold 231 = .ok (.iload 4, 2) := dc_of dtX7_joinTold_180_3_ok (i := 28) rfl
theorem dX7_joinTold_233 : decode cX7_joinTold 233 = .ok (.invokevirtual 195, 3) := dc_of dtX7_joinTold_180_3_ok (i := 29) rfl
theorem dX7_joinTold_236 : decode cX7_joinTold 236 = .ok (.return_, 1) := dc_of dtX7_joinTold_180_3_ok (i := 30) rfl
def dtX7_bothTold_0_0 : List (Nat × Instr × Nat) := [(0, .aload_n 0, 1), (1, .invokevirtual 199, 3), (4, .istore_n 2, 1), (5, .aload_n 0, 1), (6, .getfield 81, 3), (9, .ifCond .ne 54, 3), (12, .aload_n 0, 1), (13, .getfield 94, 3), (16, .iconst 2, 1), (17, .if_icmp .ne 46, 3), (20, .aload_n 0, 1), (21, .invokevirtual 187, 3), (24, .ifCond .ne 39, 3), (27, .aload_n 0, 1), (28, .aload_n 0, 1), (29, .getfield 111, 3), (32, .invokevirtual 191, 3), (35, .ifCond .lt 28, 3), (38, .aload_n 0, 1), (39, .aload_n 0, 1), (40, .aload_n 0, 1), (41, .getfield 111, 3), (44, .invokevirtual 191, 3), (47, .invokevirtual 206, 3), (50, .aload_n 0, 1), (51, .iload_n 2, 1), (52, .invokevirtual 206, 3), (55, .if_icmp .eq 8, 3), (58, .aload_n 0, 1), (59, .iconst 5, 1), (60, .invokevirtual 134, 3), (63, .aload_n 0, 1)]
theorem dtX7_bothTold_0_0_ok : dcAll cX7_bothTold dtX7_bothTold_0_0 = true := by decide +kernel
theorem dX7_bothTold_0 : decode cX7_bothTold 0 = .ok (.aload_n 0, 1) := dc_of dtX7_bothTold_0_0_ok (i := 0) rfl
theorem dX7_bothTold_1 : decode cX7_bothTold 1 = .ok (.invokevirtual 199, 3) := dc_of dtX7_bothTold_0_0_ok (i := 1) rfl
theorem dX7_bothTold_4 : decode cX7_bothTold 4 = .ok (.istore_n 2, 1) := dc_of dtX7_bothTold_0_0_ok (i := 2) rfl
theorem dX7_bothTold_5 : decode cX7_bothTold 5 = .ok (.aload_n 0, 1) := dc_of dtX7_bothTold_0_0_ok (i := 3) rfl
theorem dX7_bothTold_6 : decode cX7_bothTold 6 = .ok (.getfield 81, 3) := dc_of dtX7_bothTold_0_0_ok (i := 4) rfl
theorem dX7_bothTold_9 : decode cX7_bothTold 9 = .ok (.ifCond .ne 54, 3) := dc_of dtX7_bothTold_0_0_ok (i := 5) rfl
theorem dX7_bothTold_12 : decode cX7_bothTold 12 = .ok (.aload_n 0, 1) := dc_of dtX7_bothTold_0_0_ok (i := 6) rfl
theorem dX7_bothTold_13 : decode cX7_bothTold 13 = .ok (.getfield 94, 3) := dc_of dtX7_bothTold_0_0_ok (i := 7) rfl
theorem dX7_bothTold_16 : decode cX7_bothTold 16 = .ok (.iconst 2, 1) := dc_of dtX7_bothTold_0_0_ok (i := 8) rfl
theorem dX7_bothTold_17 : decode cX7_bothTold 17 = .ok (.if_icmp .ne 46, 3) := dc_of dtX7_bothTold_0_0_ok (i := 9) rfl
theorem dX7_bothTold_20 : decode cX7_bothTold 20 = .ok (.aload_n 0, 1) := dc_of dtX7_bothTold_0_0_ok (i := 10) rfl
theorem dX7_bothTold_21 : decode cX7_bothTold 21 = .ok (.invokevirtual 187, 3) := dc_of dtX7_bothTold_0_0_ok (i := 11) rfl
theorem dX7_bothTold_24 : decode cX7_bothTold 24 = .ok (.ifCond .ne 39, 3) := dc_of dtX7_bothTold_0_0_ok (i := 12) rfl
theorem dX7_bothTold_27 : decode cX7_bothTold 27 = .ok (.aload_n 0, 1) := dc_of dtX7_bothTold_0_0_ok (i := 13) rfl
theorem dX7_bothTold_28 : decode cX7_bothTold 28 = .ok (.aload_n 0, 1) := dc_of dtX7_bothTold_0_0_ok (i := 14) rfl
theorem dX7_bothTold_29 : decode cX7_bothTold 29 = .ok (.getfield 111, 3) := dc_of dtX7_bothTold_0_0_ok (i := 15) rfl
theorem dX7_bothTold_32 : decode cX7_bothTold 32 = .ok (.invokevirtual 191, 3) := dc_of dtX7_bothTold_0_0_ok (i := 16) rfl
theorem dX7_bothTold_35 : decode cX7_bothTold 35 = .ok (.ifCond .lt 28, 3) := dc_of dtX7_bothTold_0_0_ok (i := 17) rfl
theorem dX7_bothTold_38 : decode cX7_bothTold 38 = .ok (.aload_n 0, 1) := dc_of dtX7_bothTold_0_0_ok (i := 18) rfl
theorem dX7_bothTold_39 : decode cX7_bothTold 39 = .ok (.aload_n 0, 1) := dc_of dtX7_bothTold_0_0_ok (i := 19) rfl
theorem dX7_bothTold_40 : decode cX7_bothTold 40 = .ok (.aload_n 0, 1) := dc_of dtX7_bothTold_0_0_ok (i := 20) rfl
theorem dX7_bothTold_41 : decode cX7_bothTold 41 = .ok (.getfield 111, 3) := dc_of dtX7_bothTold_0_0_ok (i := 21) rfl
theorem dX7_bothTold_44 : decode cX7_bothTold 44 = .ok (.invokevirtual 191, 3) := dc_of dtX7_bothTold_0_0_ok (i := 22) rfl
theorem dX7_bothTold_47 : decode cX7_bothTold 47 = .ok (.invokevirtual 206, 3) := dc_of dtX7_bothTold_0_0_ok (i := 23) rfl
theorem dX7_bothTold_50 : decode cX7_bothTold 50 = .ok (.aload_n 0, 1) := dc_of dtX7_bothTold_0_0_ok (i := 24) rfl
theorem dX7_bothTold_51 : decode cX7_bothTold 51 = .ok (.iload_n 2, 1) := dc_of dtX7_bothTold_0_0_ok (i := 25) rfl
theorem dX7_bothTold_52 : decode cX7_bothTold 52 = .ok (.invokevirtual 206, 3) := dc_of dtX7_bothTold_0_0_ok (i := 26) rfl
theorem dX7_bothTold_55 : decode cX7_bothTold 55 = .ok (.if_icmp .eq 8, 3) := dc_of dtX7_bothTold_0_0_ok (i := 27) rfl
theorem dX7_bothTold_58 : decode cX7_bothTold 58 = .ok (.aload_n 0, 1) := dc_of dtX7_bothTold_0_0_ok (i := 28) rfl
theorem dX7_bothTold_59 : decode cX7_bothTold 59 = .ok (.iconst 5, 1) := dc_of dtX7_bothTold_0_0_ok (i := 29) rfl
theorem dX7_bothTold_60 : decode cX7_bothTold 60 = .ok (.invokevirtual 134, 3) := dc_of dtX7_bothTold_0_0_ok (i := 30) rfl
theorem dX7_bothTold_63 : decode cX7_bothTold 63 = .ok (.aload_n 0, 1) := dc_of dtX7_bothTold_0_0_ok (i := 31) rfl
def dtX7_bothTold_64_1 : List (Nat × Instr × Nat) := [(64, .invokevirtual 199, 3), (67, .istore_n 3, 1), (68, .aload_n 0, 1), (69, .iload_n 1, 1), (70, .aload_n 0, 1), (71, .iload_n 2, 1), (72, .invokevirtual 206, 3), (75, .iload_n 2, 1), (76, .iload_n 3, 1), (77, .iconst 0, 1), (78, .invokevirtual 219, 3), (81, .return_, 1)]
theorem dtX7_bothTold_64_1_ok : dcAll cX7_bothTold dtX7_bothTold_64_1 = true := by decide +kernel
theorem dX7_bothTold_64 : decode cX7_bothTold 64 = .ok (.invokevirtual 199, 3) := dc_of dtX7_bothTold_64_1_ok (i := 0) rfl
theorem dX7_bothTold_67 : decode cX7_bothTold 67 = .ok (.istore_n 3, 1) := dc_of dtX7_bothTold_64_1_ok (i := 1) rfl
theorem dX7_bothTold_68 : decode cX7_bothTold 68 = .ok (.aload_n 0, 1) := dc_of dtX7_bothTold_64_1_ok (i := 2) rfl
theorem dX7_bothTold_69 : decode cX7_bothTold 69 = .ok (.iload_n 1, 1) := dc_of dtX7_bothTold_64_1_ok (i := 3) rfl
theorem dX7_bothTold_70 : decode cX7_bothTold 70 = .ok (.aload_n 0, 1) := dc_of dtX7_bothTold_64_1_ok (i := 4) rfl
theorem dX7_bothTold_71 : decode cX7_bothTold 71 = .ok (.iload_n 2, 1) := dc_of dtX7_bothTold_64_1_ok (i := 5) rfl
theorem dX7_bothTold_72 : decode cX7_bothTold 72 = .ok (.invokevirtual 206, 3) := dc_of dtX7_bothTold_64_1_ok (i := 6) rfl
theorem dX7_bothTold_75 : decode cX7_bothTold 75 = .ok (.iload_n 2, 1) := dc_of dtX7_bothTold_64_1_ok (i := 7) rfl
theorem dX7_bothTold_76 : decode cX7_bothTold 76 = .ok (.iload_n 3, 1) := dc_of dtX7_bothTold_64_1_ok (i := 8) rfl
theorem dX7_bothTold_77 : decode cX7_bothTold 77 = .ok (.iconst 0, 1) := dc_of dtX7_bothTold_64_1_ok (i := 9) rfl
theorem dX7_bothTold_78 : decode cX7_bothTold 78 = .ok (.invokevirtual 219, 3) := dc_of dtX7_bothTold_64_1_ok (i := 10) rfl
theorem dX7_bothTold_81 : decode cX7_bothTold 81 = .ok (.return_, 1) := dc_of dtX7_bothTold_64_1_ok (i := 11) rfl
def dtX7_groupTold_0_0 : List (Nat × Instr × Nat) := [(0, .aload_n 0, 1), (1, .invokevirtual 199, 3), (4, .istore_n 1, 1), (5, .aload_n 0, 1), (6, .ldc 168, 2), (8, .invokevirtual 202, 3), (11, .iconst 0, 1), (12, .istore_n 2, 1), (13, .iconst 0, 1), (14, .istore_n 3, 1), (15, .iconst 1, 1), (16, .istore 4, 2), (18, .iload 4, 2), (20, .ifCond .eq 136, 3), (23, .aload_n 0, 1), (24, .getfield 81, 3), (27, .ifCond .ne 129, 3), (30, .aload_n 0, 1), (31, .getfield 94, 3), (34, .iconst 1, 1), (35, .if_icmp .ne 7, 3), (38, .iconst 1, 1), (39, .goto 4, 3), (42, .iconst 0, 1), (43, .istore 5, 2), (45, .iload 5, 2), (47, .ifCond .eq 32, 3), (50, .aload_n 0, 1), (51, .getfield 97, 3), (54, .aload_n 0, 1), (55, .iload_n 1, 1), (56, .invokevirtual 206, 3)]
theorem dtX7_groupTold_0_0_ok : dcAll cX7_groupTold dtX7_groupTold_0_0 = true := by decide +kernel
theorem dX7_groupTold_0 : decode cX7_groupTold 0 = .ok (.aload_n 0, 1) := dc_of dtX7_groupTold_0_0_ok (i := 0) rfl
theorem dX7_groupTold_1 : decode cX7_groupTold 1 = .ok (.invokevirtual 199, 3) := dc_of dtX7_groupTold_0_0_ok (i := 1) rfl
theorem dX7_groupTold_4 : decode cX7_groupTold 4 = .ok (.istore_n 1, 1) := dc_of dtX7_groupTold_0_0_ok (i := 2) rfl
theorem dX7_groupTold_5 : decode cX7_groupTold 5 = .ok (.aload_n 0, 1) := dc_of dtX7_groupTold_0_0_ok (i := 3) rfl
theorem dX7_groupTold_6 : decode cX7_groupTold 6 = .ok (.ldc 168, 2) := dc_of dtX7_groupTold_0_0_ok (i := 4) rfl
theorem dX7_groupTold_8 : decode cX7_groupTold 8 = .ok (.invokevirtual 202, 3) := dc_of dtX7_groupTold_0_0_ok (i := 5) rfl
theorem dX7_groupTold_11 : decode cX7_groupTold 11 = .ok (.iconst 0, 1) := dc_of dtX7_groupTold_0_0_ok (i := 6) rfl
theorem dX7_groupTold_12 : decode cX7_groupTold 12 = .ok (.istore_n 2, 1) := dc_of dtX7_groupTold_0_0_ok (i := 7) rfl
theorem dX7_groupTold_13 : decode cX7_groupTold 13 = .ok (.iconst 0, 1) := dc_of dtX7_groupTold_0_0_ok (i := 8) rfl
theorem dX7_groupTold_14 : decode cX7_groupTold 14 = .ok (.istore_n 3, 1) := dc_of dtX7_groupTold_0_0_ok (i := 9) rfl
theorem dX7_groupTold_15 : decode cX7_groupTold 15 = .ok (.iconst 1, 1) := dc_of dtX7_groupTold_0_0_ok (i := 10) rfl
theorem dX7_groupTold_16 : decode cX7_groupTold 16 = .ok (.istore 4, 2) := dc_of dtX7_groupTold_0_0_ok (i := 11) rfl
theorem dX7_groupTold_18 : decode cX7_groupTold 18 = .ok (.iload 4, 2) := dc_of dtX7_groupTold_0_0_ok (i := 12) rfl
theorem dX7_groupTold_20 : decode cX7_groupTold 20 = .ok (.ifCond .eq 136, 3) := dc_of dtX7_groupTold_0_0_ok (i := 13) rfl
theorem dX7_groupTold_23 : decode cX7_groupTold 23 = .ok (.aload_n 0, 1) := dc_of dtX7_groupTold_0_0_ok (i := 14) rfl
theorem dX7_groupTold_24 : decode cX7_groupTold 24 = .ok (.getfield 81, 3) := dc_of dtX7_groupTold_0_0_ok (i := 15) rfl
theorem dX7_groupTold_27 : decode cX7_groupTold 27 = .ok (.ifCond .ne 129, 3) := dc_of dtX7_groupTold_0_0_ok (i := 16) rfl
theorem dX7_groupTold_30 : decode cX7_groupTold 30 = .ok (.aload_n 0, 1) := dc_of dtX7_groupTold_0_0_ok (i := 17) rfl
theorem dX7_groupTold_31 : decode cX7_groupTold 31 = .ok (.getfield 94, 3) := dc_of dtX7_groupTold_0_0_ok (i := 18) rfl
theorem dX7_groupTold_34 : decode cX7_groupTold 34 = .ok (.iconst 1, 1) := dc_of dtX7_groupTold_0_0_ok (i := 19) rfl
theorem dX7_groupTold_35 : decode cX7_groupTold 35 = .ok (.if_icmp .ne 7, 3) := dc_of dtX7_groupTold_0_0_ok (i := 20) rfl
theorem dX7_groupTold_38 : decode cX7_groupTold 38 = .ok (.iconst 1, 1) := dc_of dtX7_groupTold_0_0_ok (i := 21) rfl
theorem dX7_groupTold_39 : decode cX7_groupTold 39 = .ok (.goto 4, 3) := dc_of dtX7_groupTold_0_0_ok (i := 22) rfl
theorem dX7_groupTold_42 : decode cX7_groupTold 42 = .ok (.iconst 0, 1) := dc_of dtX7_groupTold_0_0_ok (i := 23) rfl
theorem dX7_groupTold_43 : decode cX7_groupTold 43 = .ok (.istore 5, 2) := dc_of dtX7_groupTold_0_0_ok (i := 24) rfl
theorem dX7_groupTold_45 : decode cX7_groupTold 45 = .ok (.iload 5, 2) := dc_of dtX7_groupTold_0_0_ok (i := 25) rfl
theorem dX7_groupTold_47 : decode cX7_groupTold 47 = .ok (.ifCond .eq 32, 3) := dc_of dtX7_groupTold_0_0_ok (i := 26) rfl
theorem dX7_groupTold_50 : decode cX7_groupTold 50 = .ok (.aload_n 0, 1) := dc_of dtX7_groupTold_0_0_ok (i := 27) rfl
theorem dX7_groupTold_51 : decode cX7_groupTold 51 = .ok (.getfield 97, 3) := dc_of dtX7_groupTold_0_0_ok (i := 28) rfl
theorem dX7_groupTold_54 : decode cX7_groupTold 54 = .ok (.aload_n 0, 1) := dc_of dtX7_groupTold_0_0_ok (i := 29) rfl
theorem dX7_groupTold_55 : decode cX7_groupTold 55 = .ok (.iload_n 1, 1) := dc_of dtX7_groupTold_0_0_ok (i := 30) rfl
theorem dX7_groupTold_56 : decode cX7_groupTold 56 = .ok (.invokevirtual 206, 3) := dc_of dtX7_groupTold_0_0_ok (i := 31) rfl
def dtX7_groupTold_59_1 : List (Nat × Instr × Nat) := [(59, .if_icmp .ge 15, 3), (62, .iload_n 3, 1), (63, .aload_n 0, 1), (64, .getfield 97, 3), (67, .ishr, 1), (68, .iconst 1, 1), (69, .iand, 1), (70, .iconst 1, 1), (71, .if_icmp .ne 8, 3), (74, .aload_n 0, 1), (75, .iconst 2, 1), (76, .invokevirtual 134, 3), (79, .iload_n 2, 1), (80, .iconst 3, 1), (81, .if_icmp .ne 17, 3), (84, .aload_n 0, 1), (85, .iload 5, 2), (87, .ifCond .eq 7, 3), (90, .iconst 4, 1), (91, .goto 4, 3), (94, .iconst 1, 1), (95, .invokevirtual 134, 3), (98, .aload_n 0, 1), (99, .aload_n 0, 1), (100, .iload_n 1, 1), (101, .invokevirtual 206, 3), (104, .invokevirtual 209, 3), (107, .istore 6, 2), (109, .aload_n 0, 1), (110, .getfield 81, 3), (113, .ifCond .ne 10, 3), (116, .iload_n 3, 1)]
theorem dtX7_groupTold_59_1_ok : dcAll cX7_groupTold dtX7_groupTold_59_1 = true := by decide +kernel
theorem dX7_groupTold_59 : decode cX7_groupTold 59 = .ok (.if_icmp .ge 15, 3) := dc_of dtX7_groupTold_59_1_ok (i := 0) rfl
theorem dX7_groupTold_62 : decode cX7_groupTold 62 = .ok (.iload_n 3, 1) := dc_of dtX7_groupTold_59_1_ok (i := 1) rfl
theorem dX7_groupTold_63 : decode cX7_groupTold 63 = .ok (.aload_n 0, 1) := dc_of dtX7_groupTold_59_1_ok (i := 2) rfl
theorem dX7_groupTold_64 : decode cX7_groupTold 64 = .ok (.getfield 97, 3) := dc_of dtX7_groupTold_59_1_ok (i := 3) rfl
theorem dX7_groupTold_67 : decode cX7_groupTold 67 = .ok (.ishr, 1) := dc_of dtX7_groupTold_59_1_ok (i := 4) rfl
theorem dX7_groupTold_68 : decode cX7_groupTold 68 = .ok (.iconst 1, 1) := dc_of dtX7_groupTold_59_1_ok (i := 5) rfl
theorem dX7_groupTold_69 : decode cX7_groupTold 69 = .ok (.iand, 1) := dc_of dtX7_groupTold_59_1_ok (i := 6) rfl
theorem dX7_groupTold_70 : decode cX7_groupTold 70 = .ok (.iconst 1, 1) := dc_of dtX7_groupTold_59_1_ok (i := 7) rfl
theorem dX7_groupTold_71 : decode cX7_groupTold 71 = .ok (.if_icmp .ne 8, 3) := dc_of dtX7_groupTold_59_1_ok (i := 8) rfl
theorem dX7_groupTold_74 : decode cX7_groupTold 74 = .ok (.aload_n 0, 1) := dc_of dtX7_groupTold_59_1_ok (i := 9) rfl
theorem dX7_groupTold_75 : decode cX7_groupTold 75 = .ok (.iconst 2, 1) := dc_of dtX7_groupTold_59_1_ok (i := 10) rfl
theorem dX7_groupTold_76 : decode cX7_groupTold 76 = .ok (.invokevirtual 134, 3) := dc_of dtX7_groupTold_59_1_ok (i := 11) rfl
theorem dX7_groupTold_79 : decode cX7_groupTold 79 = .ok (.iload_n 2, 1) := dc_of dtX7_groupTold_59_1_ok (i := 12) rfl
theorem dX7_groupTold_80 : decode cX7_groupTold 80 = .ok (.iconst 3, 1) := dc_of dtX7_groupTold_59_1_ok (i := 13) rfl
theorem dX7_groupTold_81 : decode cX7_groupTold 81 = .ok (.if_icmp .ne 17, 3) := dc_of dtX7_groupTold_59_1_ok (i := 14) rfl
theorem dX7_groupTold_84 : decode cX7_groupTold 84 = .ok (.aload_n 0, 1) := dc_of dtX7_groupTold_59_1_ok (i := 15) rfl
theorem dX7_groupTold_85 : decode cX7_groupTold 85 = .ok (.iload 5, 2) := dc_of dtX7_groupTold_59_1_ok (i := 16) rfl
theorem dX7_groupTold_87 : decode cX7_groupTold 87 = .ok (.ifCond .eq 7, 3) := dc_of dtX7_groupTold_59_1_ok (i := 17) rfl
theorem dX7_groupTold_90 : decode cX7_groupTold 90 = .ok (.iconst 4, 1) := dc_of dtX7_groupTold_59_1_ok (i := 18) rfl
theorem dX7_groupTold_91 : decode cX7_groupTold 91 = .ok (.goto 4, 3) := dc_of dtX7_groupTold_59_1_ok (i := 19) rfl
theorem dX7_groupTold_94 : decode cX7_groupTold 94 = .ok (.iconst 1, 1) := dc_of dtX7_groupTold_59_1_ok (i := 20) rfl
theorem dX7_groupTold_95 : decode cX7_groupTold 95 = .ok (.invokevirtual 134, 3) := dc_of dtX7_groupTold_59_1_ok (i := 21) rfl
theorem dX7_groupTold_98 : decode cX7_groupTold 98 = .ok (.aload_n 0, 1) := dc_of dtX7_groupTold_59_1_ok (i := 22) rfl
theorem dX7_groupTold_99 : decode cX7_groupTold 99 = .ok (.aload_n 0, 1) := dc_of dtX7_groupTold_59_1_ok (i := 23) rfl
theorem dX7_groupTold_100 : decode cX7_groupTold 100 = .ok (.iload_n 1, 1) := dc_of dtX7_groupTold_59_1_ok (i := 24) rfl
theorem dX7_groupTold_101 : decode cX7_groupTold 101 = .ok (.invokevirtual 206, 3) := dc_of dtX7_groupTold_59_1_ok (i := 25) rfl
theorem dX7_groupTold_104 : decode cX7_groupTold 104 = .ok (.invokevirtual 209, 3) := dc_of dtX7_groupTold_59_1_ok (i := 26) rfl
theorem dX7_groupTold_107 : decode cX7_groupTold 107 = .ok (.istore 6, 2) := dc_of dtX7_groupTold_59_1_ok (i := 27) rfl
theorem dX7_groupTold_109 : decode cX7_groupTold 109 = .ok (.aload_n 0, 1) := dc_of dtX7_groupTold_59_1_ok (i := 28) rfl
theorem dX7_groupTold_110 : decode cX7_groupTold 110 = .ok (.getfield 81, 3) := dc_of dtX7_groupTold_59_1_ok (i := 29) rfl
theorem dX7_groupTold_113 : decode cX7_groupTold 113 = .ok (.ifCond .ne 10, 3) := dc_of dtX7_groupTold_59_1_ok (i := 30) rfl
theorem dX7_groupTold_116 : decode cX7_groupTold 116 = .ok (.iload_n 3, 1) := dc_of dtX7_groupTold_59_1_ok (i := 31) rfl
def dtX7_groupTold_117_2 : List (Nat × Instr × Nat) := [(117, .iconst 1, 1), (118, .iload 6, 2), (120, .ishl, 1), (121, .ior, 1), (122, .istore_n 3, 1), (123, .aload_n 0, 1), (124, .iload_n 2, 1), (125, .iload 6, 2), (127, .iconst 0, 1), (128, .iconst 0, 1), (129, .iconst 0, 1), (130, .invokevirtual 215, 3), (133, .iinc 2 1, 3), (136, .aload_n 0, 1), (137, .bipush 44, 2), (139, .invokevirtual 131, 3), (142, .istore 4, 2), (144, .iload 4, 2), (146, .ifCond .eq 7, 3), (149, .aload_n 0, 1), (150, .invokevirtual 137, 3), (153, .goto (-135), 3), (156, .aload_n 0, 1), (157, .ldc 170, 2), (159, .invokevirtual 140, 3), (162, .ifCond .eq 7, 3), (165, .iconst 0, 1), (166, .goto 43, 3), (169, .aload_n 0, 1), (170, .ldc 172, 2), (172, .invokevirtual 140, 3), (175, .ifCond .eq 7, 3)]
theorem dtX7_groupTold_117_2_ok : dcAll cX7_groupTold dtX7_groupTold_117_2 = true := by decide +kernel
theorem dX7_groupTold_117 : decode cX7_groupTold 117 = .ok (.iconst 1, 1) := dc_of dtX7_groupTold_117_2_ok (i := 0) rfl
theorem dX7_groupTold_118 : decode cX7_groupTold 118 = .ok (.iload 6, 2) := dc_of dtX7_groupTold_117_2_ok (i := 1) rfl
theorem dX7_groupTold_120 : decode cX7_groupTold 120 = .ok (.ishl, 1) := dc_of dtX7_groupTold_117_2_ok (i := 2) rfl
theorem dX7_groupTold_121 : decode cX7_groupTold 121 = .ok (.ior, 1) := dc_of dtX7_groupTold_117_2_ok (i := 3) rfl
theorem dX7_groupTold_122 : decode cX7_groupTold 122 = .ok (.istore_n 3, 1) := dc_of dtX7_groupTold_117_2_ok (i := 4) rfl
theorem dX7_groupTold_123 : decode cX7_groupTold 123 = .ok (.aload_n 0, 1) := dc_of dtX7_groupTold_117_2_ok (i := 5) rfl
theorem dX7_groupTold_124 : decode cX7_groupTold 124 = .ok (.iload_n 2, 1) := dc_of dtX7_groupTold_117_2_ok (i := 6) rfl
theorem dX7_groupTold_125 : decode cX7_groupTold 125 = .ok (.iload 6, 2) := dc_of dtX7_groupTold_117_2_ok (i := 7) rfl
theorem dX7_groupTold_127 : decode cX7_groupTold 127 = .ok (.iconst 0, 1) := dc_of dtX7_groupTold_117_2_ok (i := 8) rfl
theorem dX7_groupTold_128 : decode cX7_groupTold 128 = .ok (.iconst 0, 1) := dc_of dtX7_groupTold_117_2_ok (i := 9) rfl
theorem dX7_groupTold_129 : decode cX7_groupTold 129 = .ok (.iconst 0, 1) := dc_of dtX7_groupTold_117_2_ok (i := 10) rfl
theorem dX7_groupTold_130 : decode cX7_groupTold 130 = .ok (.invokevirtual 215, 3) := dc_of dtX7_groupTold_117_2_ok (i := 11) rfl
theorem dX7_groupTold_133 : decode cX7_groupTold 133 = .ok (.iinc 2 1, 3) := dc_of dtX7_groupTold_117_2_ok (i := 12) rfl
theorem dX7_groupTold_136 : decode cX7_groupTold 136 = .ok (.aload_n 0, 1) := dc_of dtX7_groupTold_117_2_ok (i := 13) rfl
theorem dX7_groupTold_137 : decode cX7_groupTold 137 = .ok (.bipush 44, 2) := dc_of dtX7_groupTold_117_2_ok (i := 14) rfl
theorem dX7_groupTold_139 : decode cX7_groupTold 139 = .ok (.invokevirtual 131, 3) := dc_of dtX7_groupTold_117_2_ok (i := 15) rfl
theorem dX7_groupTold_142 : decode cX7_groupTold 142 = .ok (.istore 4, 2) := dc_of dtX7_groupTold_117_2_ok (i := 16) rfl
theorem dX7_groupTold_144 : decode cX7_groupTold 144 = .ok (.iload 4, 2) := dc_of dtX7_groupTold_117_2_ok (i := 17) rfl
theorem dX7_groupTold_146 : decode cX7_groupTold 146 = .ok (.ifCond .eq 7, 3) := dc_of dtX7_groupTold_117_2_ok (i := 18) rfl
theorem dX7_groupTold_149 : decode cX7_groupTold 149 = .ok (.aload_n 0, 1) := dc_of dtX7_groupTold_117_2_ok (i := 19) rfl
theorem dX7_groupTold_150 : decode cX7_groupTold 150 = .ok (.invokevirtual 137, 3) := dc_of dtX7_groupTold_117_2_ok (i := 20) rfl
theorem dX7_groupTold_153 : decode cX7_groupTold 153 = .ok (.goto (-135), 3) := dc_of dtX7_groupTold_117_2_ok (i := 21) rfl
theorem dX7_groupTold_156 : decode cX7_groupTold 156 = .ok (.aload_n 0, 1) := dc_of dtX7_groupTold_117_2_ok (i := 22) rfl
theorem dX7_groupTold_157 : decode cX7_groupTold 157 = .ok (.ldc 170, 2) := dc_of dtX7_groupTold_117_2_ok (i := 23) rfl
theorem dX7_groupTold_159 : decode cX7_groupTold 159 = .ok (.invokevirtual 140, 3) := dc_of dtX7_groupTold_117_2_ok (i := 24) rfl
theorem dX7_groupTold_162 : decode cX7_groupTold 162 = .ok (.ifCond .eq 7, 3) := dc_of dtX7_groupTold_117_2_ok (i := 25) rfl
theorem dX7_groupTold_165 : decode cX7_groupTold 165 = .ok (.iconst 0, 1) := dc_of dtX7_groupTold_117_2_ok (i := 26) rfl
theorem dX7_groupTold_166 : decode cX7_groupTold 166 = .ok (.goto 43, 3) := dc_of dtX7_groupTold_117_2_ok (i := 27) rfl
theorem dX7_groupTold_169 : decode cX7_groupTold 169 = .ok (.aload_n 0, 1) := dc_of dtX7_groupTold_117_2_ok (i := 28) rfl
theorem dX7_groupTold_170 : decode cX7_groupTold 170 = .ok (.ldc 172, 2) := dc_of dtX7_groupTold_117_2_ok (i := 29) rfl
theorem dX7_groupTold_172 : decode cX7_groupTold 172 = .ok (.invokevirtual 140, 3) := dc_of dtX7_groupTold_117_2_ok (i := 30) rfl
theorem dX7_groupTold_175 : decode cX7_groupTold 175 = .ok (.ifCond .eq 7, 3) := dc_of dtX7_groupTold_117_2_ok (i := 31) rfl
def dtX7_groupTold_178_3 : List (Nat × Instr × Nat) := [(178, .iconst 1, 1), (179, .goto 30, 3), (182, .aload_n 0, 1), (183, .ldc 174, 2), (185, .invokevirtual 140, 3), (188, .ifCond .eq 7, 3), (191, .iconst 2, 1), (192, .goto 17, 3), (195, .aload_n 0, 1), (196, .ldc 176, 2), (198, .invokevirtual 140, 3), (201, .ifCond .eq 7, 3), (204, .iconst 3, 1), (205, .goto 4, 3), (208, .iconst (-1), 1), (209, .istore 5, 2), (211, .iload 5, 2), (213, .ifCond .ge 8, 3), (216, .aload_n 0, 1), (217, .iconst 1, 1), (218, .invokevirtual 134, 3), (221, .aload_n 0, 1), (222, .invokevirtual 137, 3), (225, .iload 5, 2), (227, .ifCond .le 15, 3), (230, .aload_n 0, 1), (231, .aload_n 0, 1), (232, .iload_n 1, 1), (233, .invokevirtual 206, 3), (236, .invokevirtual 209, 3), (239, .goto 4, 3), (242, .iconst 0, 1)]
theorem dtX7_groupTold_178_3_ok : dcAll cX7_groupTold dtX7_groupTold_178_3 = true := by decide +kernel
theorem dX7_groupTold_178 : decode cX7_groupTold 178 = .ok (.iconst 1, 1) := dc_of dtX7_groupTold_178_3_ok (i := 0) rfl
theorem dX7_groupTold_179 : decode cX7_groupTold 179 = .ok (.goto 30, 3) := dc_of dtX7_groupTold_178_3_ok (i := 1) rfl
theorem dX7_groupTold_182 : decode cX7_groupTold 182 = .ok (.aload_n 0, 1) := dc_of dtX7_groupTold_178_3_ok (i := 2) rfl
theorem dX7_groupTold_183 : decode cX7_groupTold 183 = .ok (.ldc 174, 2) := dc_of dtX7_groupTold_178_3_ok (i := 3) rfl
theorem dX7_groupTold_185 : decode cX7_groupTold 185 = .ok (.invokevirtual 140, 3) := dc_of dtX7_groupTold_178_3_ok (i := 4) rfl
theorem dX7_groupTold_188 : decode cX7_groupTold 188 = .ok (.ifCond .eq 7, 3) := dc_of dtX7_groupTold_178_3_ok (i := 5) rfl
theorem dX7_groupTold_191 : decode cX7_groupTold 191 = .ok (.iconst 2, 1) := dc_of dtX7_groupTold_178_3_ok (i := 6) rfl
theorem dX7_groupTold_192 : decode cX7_groupTold 192 = .ok (.goto 17, 3) := dc_of dtX7_groupTold_178_3_ok (i := 7) rfl
theorem dX7_groupTold_195 : decode cX7_groupTold 195 = .ok (.aload_n 0, 1) := dc_of dtX7_groupTold_178_3_ok (i := 8) rfl
theorem dX7_groupTold_196 : decode cX7_groupTold 196 = .ok (.ldc 176, 2) := dc_of dtX7_groupTold_178_3_ok (i := 9) rfl
theorem dX7_groupTold_198 : decode cX7_groupTold 198 = .ok (.invokevirtual 140, 3) := dc_of dtX7_groupTold_178_3_ok (i := 10) rfl
theorem dX7_groupTold_201 : decode cX7_groupTold 201 = .ok (.ifCond .eq 7, 3) := dc_of dtX7_groupTold_178_3_ok (i := 11) rfl
theorem dX7_groupTold_204 : decode cX7_groupTold 204 = .ok (.iconst 3, 1) := dc_of dtX7_groupTold_178_3_ok (i := 12) rfl
theorem dX7_groupTold_205 : decode cX7_groupTold 205 = .ok (.goto 4, 3) := dc_of dtX7_groupTold_178_3_ok (i := 13) rfl
theorem dX7_groupTold_208 : decode cX7_groupTold 208 = .ok (.iconst (-1), 1) := dc_of dtX7_groupTold_178_3_ok (i := 14) rfl
theorem dX7_groupTold_209 : decode cX7_groupTold 209 = .ok (.istore 5, 2) := dc_of dtX7_groupTold_178_3_ok (i := 15) rfl
theorem dX7_groupTold_211 : decode cX7_groupTold 211 = .ok (.iload 5, 2) := dc_of dtX7_groupTold_178_3_ok (i := 16) rfl
theorem dX7_groupTold_213 : decode cX7_groupTold 213 = .ok (.ifCond .ge 8, 3) := dc_of dtX7_groupTold_178_3_ok (i := 17) rfl
theorem dX7_groupTold_216 : decode cX7_groupTold 216 = .ok (.aload_n 0, 1) := dc_of dtX7_groupTold_178_3_ok (i := 18) rfl
theorem dX7_groupTold_217 : decode cX7_groupTold 217 = .ok (.iconst 1, 1) := dc_of dtX7_groupTold_178_3_ok (i := 19) rfl
theorem dX7_groupTold_218 : decode cX7_groupTold 218 = .ok (.invokevirtual 134, 3) := dc_of dtX7_groupTold_178_3_ok (i := 20) rfl
theorem dX7_groupTold_221 : decode cX7_groupTold 221 = .ok (.aload_n 0, 1) := dc_of dtX7_groupTold_178_3_ok (i := 21) rfl
theorem dX7_groupTold_222 : decode cX7_groupTold 222 = .ok (.invokevirtual 137, 3) := dc_of dtX7_groupTold_178_3_ok (i := 22) rfl
theorem dX7_groupTold_225 : decode cX7_groupTold 225 = .ok (.iload 5, 2) := dc_of dtX7_groupTold_178_3_ok (i := 23) rfl
theorem dX7_groupTold_227 : decode cX7_groupTold 227 = .ok (.ifCond .le 15, 3) := dc_of dtX7_groupTold_178_3_ok (i := 24) rfl
theorem dX7_groupTold_230 : decode cX7_groupTold 230 = .ok (.aload_n 0, 1) := dc_of dtX7_groupTold_178_3_ok (i := 25) rfl
theorem dX7_groupTold_231 : decode cX7_groupTold 231 = .ok (.aload_n 0, 1) := dc_of dtX7_groupTold_178_3_ok (i := 26) rfl
theorem dX7_groupTold_232 : decode cX7_groupTold 232 = .ok (.iload_n 1, 1) := dc_of dtX7_groupTold_178_3_ok (i := 27) rfl
theorem dX7_groupTold_233 : decode cX7_groupTold 233 = .ok (.invokevirtual 206, 3) := dc_of dtX7_groupTold_178_3_ok (i := 28) rfl
theorem dX7_groupTold_236 : decode cX7_groupTold 236 = .ok (.invokevirtual 209, 3) := dc_of dtX7_groupTold_178_3_ok (i := 29) rfl
theorem dX7_groupTold_239 : decode cX7_groupTold 239 = .ok (.goto 4, 3) := dc_of dtX7_groupTold_178_3_ok (i := 30) rfl
theorem dX7_groupTold_242 : decode cX7_groupTold 242 = .ok (.iconst 0, 1) := dc_of dtX7_groupTold_178_3_ok (i := 31) rfl
def dtX7_groupTold_243_4 : List (Nat × Instr × Nat) := [(243, .istore 6, 2), (245, .aload_n 0, 1), (246, .iload_n 2, 1), (247, .iload 6, 2), (249, .iload 5, 2), (251, .iconst 0, 1), (252, .iconst 0, 1), (253, .invokevirtual 215, 3), (256, .aload_n 0, 1), (257, .bipush 7, 2), (259, .iload_n 2, 1), (260, .iconst 1, 1), (261, .iadd, 1), (262, .iload_n 1, 1), (263, .iconst (-1), 1), (264, .iload_n 2, 1), (265, .invokevirtual 219, 3), (268, .return_, 1)]
theorem dtX7_groupTold_243_4_ok : dcAll cX7_groupTold dtX7_groupTold_243_4 = true := by decide +kernel
theorem dX7_groupTold_243 : decode cX7_groupTold 243 = .ok (.istore 6, 2) := dc_of dtX7_groupTold_243_4_ok (i := 0) rfl
theorem dX7_groupTold_245 : decode cX7_groupTold 245 = .ok (.aload_n 0, 1) := dc_of dtX7_groupTold_243_4_ok (i := 1) rfl
theorem dX7_groupTold_246 : decode cX7_groupTold 246 = .ok (.iload_n 2, 1) := dc_of dtX7_groupTold_243_4_ok (i := 2) rfl
theorem dX7_groupTold_247 : decode cX7_groupTold 247 = .ok (.iload 6, 2) := dc_of dtX7_groupTold_243_4_ok (i := 3) rfl
theorem dX7_groupTold_249 : decode cX7_groupTold 249 = .ok (.iload 5, 2) := dc_of dtX7_groupTold_243_4_ok (i := 4) rfl
theorem dX7_groupTold_251 : decode cX7_groupTold 251 = .ok (.iconst 0, 1) := dc_of dtX7_groupTold_243_4_ok (i := 5) rfl
theorem dX7_groupTold_252 : decode cX7_groupTold 252 = .ok (.iconst 0, 1) := dc_of dtX7_groupTold_243_4_ok (i := 6) rfl
theorem dX7_groupTold_253 : decode cX7_groupTold 253 = .ok (.invokevirtual 215, 3) := dc_of dtX7_groupTold_243_4_ok (i := 7) rfl
theorem dX7_groupTold_256 : decode cX7_groupTold 256 = .ok (.aload_n 0, 1) := dc_of dtX7_groupTold_243_4_ok (i := 8) rfl
theorem dX7_groupTold_257 : decode cX7_groupTold 257 = .ok (.bipush 7, 2) := dc_of dtX7_groupTold_243_4_ok (i := 9) rfl
theorem dX7_groupTold_259 : decode cX7_groupTold 259 = .ok (.iload_n 2, 1) := dc_of dtX7_groupTold_243_4_ok (i := 10) rfl
theorem dX7_groupTold_260 : decode cX7_groupTold 260 = .ok (.iconst 1, 1) := dc_of dtX7_groupTold_243_4_ok (i := 11) rfl
theorem dX7_groupTold_261 : decode cX7_groupTold 261 = .ok (.iadd, 1) := dc_of dtX7_groupTold_243_4_ok (i := 12) rfl
theorem dX7_groupTold_262 : decode cX7_groupTold 262 = .ok (.iload_n 1, 1) := dc_of dtX7_groupTold_243_4_ok (i := 13) rfl
theorem dX7_groupTold_263 : decode cX7_groupTold 263 = .ok (.iconst (-1), 1) := dc_of dtX7_groupTold_243_4_ok (i := 14) rfl
theorem dX7_groupTold_264 : decode cX7_groupTold 264 = .ok (.iload_n 2, 1) := dc_of dtX7_groupTold_243_4_ok (i := 15) rfl
theorem dX7_groupTold_265 : decode cX7_groupTold 265 = .ok (.invokevirtual 219, 3) := dc_of dtX7_groupTold_243_4_ok (i := 16) rfl
theorem dX7_groupTold_268 : decode cX7_groupTold 268 = .ok (.return_, 1) := dc_of dtX7_groupTold_243_4_ok (i := 17) rfl
def dtX7_ringTold_0_0 : List (Nat × Instr × Nat) := [(0, .aload_n 0, 1), (1, .invokevirtual 199, 3), (4, .istore_n 1, 1), (5, .aload_n 0, 1), (6, .ldc 180, 2), (8, .invokevirtual 202, 3), (11, .aload_n 0, 1), (12, .invokevirtual 199, 3), (15, .istore_n 2, 1), (16, .aload_n 0, 1), (17, .ldc 158, 2), (19, .invokevirtual 202, 3), (22, .aload_n 0, 1), (23, .aload_n 0, 1), (24, .iload_n 1, 1), (25, .invokevirtual 206, 3), (28, .invokevirtual 209, 3), (31, .istore_n 3, 1), (32, .aload_n 0, 1), (33, .bipush 61, 2), (35, .invokevirtual 226, 3), (38, .aload_n 0, 1), (39, .aload_n 0, 1), (40, .iload_n 2, 1), (41, .invokevirtual 206, 3), (44, .invokevirtual 209, 3), (47, .istore 4, 2), (49, .aload_n 0, 1), (50, .ldc 182, 2), (52, .invokevirtual 202, 3), (55, .aload_n 0, 1), (56, .iconst 0, 1)]
theorem dtX7_ringTold_0_0_ok : dcAll cX7_ringTold dtX7_ringTold_0_0 = true := by decide +kernel
theorem dX7_ringTold_0 : decode cX7_ringTold 0 = .ok (.aload_n 0, 1) := dc_of dtX7_ringTold_0_0_ok (i := 0) rfl
theorem dX7_ringTold_1 : decode cX7_ringTold 1 = .ok (.invokevirtual 199, 3) := dc_of dtX7_ringTold_0_0_ok (i := 1) rfl
theorem dX7_ringTold_4 : decode cX7_ringTold 4 = .ok (.istore_n 1, 1) := dc_of dtX7_ringTold_0_0_ok (i := 2) rfl
theorem dX7_ringTold_5 : decode cX7_ringTold 5 = .ok (.aload_n 0, 1) := dc_of dtX7_ringTold_0_0_ok (i := 3) rfl
theorem dX7_ringTold_6 : decode cX7_ringTold 6 = .ok (.ldc 180, 2) := dc_of dtX7_ringTold_0_0_ok (i := 4) rfl
theorem dX7_ringTold_8 : decode cX7_ringTold 8 = .ok (.invokevirtual 202, 3) := dc_of dtX7_ringTold_0_0_ok (i := 5) rfl
theorem dX7_ringTold_11 : decode cX7_ringTold 11 = .ok (.aload_n 0, 1) := dc_of dtX7_ringTold_0_0_ok (i := 6) rfl
theorem dX7_ringTold_12 : decode cX7_ringTold 12 = .ok (.invokevirtual 199, 3) := dc_of dtX7_ringTold_0_0_ok (i := 7) rfl
theorem dX7_ringTold_15 : decode cX7_ringTold 15 = .ok (.istore_n 2, 1) := dc_of dtX7_ringTold_0_0_ok (i := 8) rfl
theorem dX7_ringTold_16 : decode cX7_ringTold 16 = .ok (.aload_n 0, 1) := dc_of dtX7_ringTold_0_0_ok (i := 9) rfl
theorem dX7_ringTold_17 : decode cX7_ringTold 17 = .ok (.ldc 158, 2) := dc_of dtX7_ringTold_0_0_ok (i := 10) rfl
theorem dX7_ringTold_19 : decode cX7_ringTold 19 = .ok (.invokevirtual 202, 3) := dc_of dtX7_ringTold_0_0_ok (i := 11) rfl
theorem dX7_ringTold_22 : decode cX7_ringTold 22 = .ok (.aload_n 0, 1) := dc_of dtX7_ringTold_0_0_ok (i := 12) rfl
theorem dX7_ringTold_23 : decode cX7_ringTold 23 = .ok (.aload_n 0, 1) := dc_of dtX7_ringTold_0_0_ok (i := 13) rfl
theorem dX7_ringTold_24 : decode cX7_ringTold 24 = .ok (.iload_n 1, 1) := dc_of dtX7_ringTold_0_0_ok (i := 14) rfl
theorem dX7_ringTold_25 : decode cX7_ringTold 25 = .ok (.invokevirtual 206, 3) := dc_of dtX7_ringTold_0_0_ok (i := 15) rfl
theorem dX7_ringTold_28 : decode cX7_ringTold 28 = .ok (.invokevirtual 209, 3) := dc_of dtX7_ringTold_0_0_ok (i := 16) rfl
theorem dX7_ringTold_31 : decode cX7_ringTold 31 = .ok (.istore_n 3, 1) := dc_of dtX7_ringTold_0_0_ok (i := 17) rfl
theorem dX7_ringTold_32 : decode cX7_ringTold 32 = .ok (.aload_n 0, 1) := dc_of dtX7_ringTold_0_0_ok (i := 18) rfl
theorem dX7_ringTold_33 : decode cX7_ringTold 33 = .ok (.bipush 61, 2) := dc_of dtX7_ringTold_0_0_ok (i := 19) rfl
theorem dX7_ringTold_35 : decode cX7_ringTold 35 = .ok (.invokevirtual 226, 3) := dc_of dtX7_ringTold_0_0_ok (i := 20) rfl
theorem dX7_ringTold_38 : decode cX7_ringTold 38 = .ok (.aload_n 0, 1) := dc_of dtX7_ringTold_0_0_ok (i := 21) rfl
theorem dX7_ringTold_39 : decode cX7_ringTold 39 = .ok (.aload_n 0, 1) := dc_of dtX7_ringTold_0_0_ok (i := 22) rfl
theorem dX7_ringTold_40 : decode cX7_ringTold 40 = .ok (.iload_n 2, 1) := dc_of dtX7_ringTold_0_0_ok (i := 23) rfl
theorem dX7_ringTold_41 : decode cX7_ringTold 41 = .ok (.invokevirtual 206, 3) := dc_of dtX7_ringTold_0_0_ok (i := 24) rfl
theorem dX7_ringTold_44 : decode cX7_ringTold 44 = .ok (.invokevirtual 209, 3) := dc_of dtX7_ringTold_0_0_ok (i := 25) rfl
theorem dX7_ringTold_47 : decode cX7_ringTold 47 = .ok (.istore 4, 2) := dc_of dtX7_ringTold_0_0_ok (i := 26) rfl
theorem dX7_ringTold_49 : decode cX7_ringTold 49 = .ok (.aload_n 0, 1) := dc_of dtX7_ringTold_0_0_ok (i := 27) rfl
theorem dX7_ringTold_50 : decode cX7_ringTold 50 = .ok (.ldc 182, 2) := dc_of dtX7_ringTold_0_0_ok (i := 28) rfl
theorem dX7_ringTold_52 : decode cX7_ringTold 52 = .ok (.invokevirtual 202, 3) := dc_of dtX7_ringTold_0_0_ok (i := 29) rfl
theorem dX7_ringTold_55 : decode cX7_ringTold 55 = .ok (.aload_n 0, 1) := dc_of dtX7_ringTold_0_0_ok (i := 30) rfl
theorem dX7_ringTold_56 : decode cX7_ringTold 56 = .ok (.iconst 0, 1) := dc_of dtX7_ringTold_0_0_ok (i := 31) rfl
def dtX7_ringTold_57_1 : List (Nat × Instr × Nat) := [(57, .iload_n 3, 1), (58, .iload 4, 2), (60, .iconst 0, 1), (61, .iconst 0, 1), (62, .invokevirtual 215, 3), (65, .aload_n 0, 1), (66, .iload_n 1, 1), (67, .invokevirtual 206, 3), (70, .aload_n 0, 1), (71, .iload_n 2, 1), (72, .invokevirtual 206, 3), (75, .iadd, 1), (76, .istore 5, 2), (78, .aload_n 0, 1), (79, .iload 5, 2), (81, .iconst 1, 1), (82, .invokevirtual 222, 3), (85, .istore 6, 2), (87, .aload_n 0, 1), (88, .bipush 59, 2), (90, .invokevirtual 131, 3), (93, .ifCond .eq 24, 3), (96, .iload 5, 2), (98, .iconst 4, 1), (99, .if_icmp .gt 13, 3), (102, .iload 6, 2), (104, .aload_n 0, 1), (105, .iload_n 1, 1), (106, .invokevirtual 206, 3), (109, .if_icmp .eq 8, 3), (112, .aload_n 0, 1), (113, .iconst 5, 1)]
theorem dtX7_ringTold_57_1_ok : dcAll cX7_ringTold dtX7_ringTold_57_1 = true := by decide +kernel
theorem dX7_ringTold_57 : decode cX7_ringTold 57 = .ok (.iload_n 3, 1) := dc_of dtX7_ringTold_57_1_ok (i := 0) rfl
theorem dX7_ringTold_58 : decode cX7_ringTold 58 = .ok (.iload 4, 2) := dc_of dtX7_ringTold_57_1_ok (i := 1) rfl
theorem dX7_ringTold_60 : decode cX7_ringTold 60 = .ok (.iconst 0, 1) := dc_of dtX7_ringTold_57_1_ok (i := 2) rfl
theorem dX7_ringTold_61 : decode cX7_ringTold 61 = .ok (.iconst 0, 1) := dc_of dtX7_ringTold_57_1_ok (i := 3) rfl
theorem dX7_ringTold_62 : decode cX7_ringTold 62 = .ok (.invokevirtual 215, 3) := dc_of dtX7_ringTold_57_1_ok (i := 4) rfl
theorem dX7_ringTold_65 : decode cX7_ringTold 65 = .ok (.aload_n 0, 1) := dc_of dtX7_ringTold_57_1_ok (i := 5) rfl
theorem dX7_ringTold_66 : decode cX7_ringTold 66 = .ok (.iload_n 1, 1) := dc_of dtX7_ringTold_57_1_ok (i := 6) rfl
theorem dX7_ringTold_67 : decode cX7_ringTold 67 = .ok (.invokevirtual 206, 3) := dc_of dtX7_ringTold_57_1_ok (i := 7) rfl
theorem dX7_ringTold_70 : decode cX7_ringTold 70 = .ok (.aload_n 0, 1) := dc_of dtX7_ringTold_57_1_ok (i := 8) rfl
theorem dX7_ringTold_71 : decode cX7_ringTold 71 = .ok (.iload_n 2, 1) := dc_of dtX7_ringTold_57_1_ok (i := 9) rfl
theorem dX7_ringTold_72 : decode cX7_ringTold 72 = .ok (.invokevirtual 206, 3) := dc_of dtX7_ringTold_57_1_ok (i := 10) rfl
theorem dX7_ringTold_75 : decode cX7_ringTold 75 = .ok (.iadd, 1) := dc_of dtX7_ringTold_57_1_ok (i := 11) rfl
theorem dX7_ringTold_76 : decode cX7_ringTold 76 = .ok (.istore 5, 2) := dc_of dtX7_ringTold_57_1_ok (i := 12) rfl
theorem dX7_ringTold_78 : decode cX7_ringTold 78 = .ok (.aload_n 0, 1) := dc_of dtX7_ringTold_57_1_ok (i := 13) rfl
theorem dX7_ringTold_79 : decode cX7_ringTold 79 = .ok (.iload 5, 2) := dc_of dtX7_ringTold_57_1_ok (i := 14) rfl
theorem dX7_ringTold_81 : decode cX7_ringTold 81 = .ok (.iconst 1, 1) := dc_of dtX7_ringTold_57_1_ok (i := 15) rfl
theorem dX7_ringTold_82 : decode cX7_ringTold 82 = .ok (.invokevirtual 222, 3) := dc_of dtX7_ringTold_57_1_ok (i := 16) rfl
theorem dX7_ringTold_85 : decode cX7_ringTold 85 = .ok (.istore 6, 2) := dc_of dtX7_ringTold_57_1_ok (i := 17) rfl
theorem dX7_ringTold_87 : decode cX7_ringTold 87 = .ok (.aload_n 0, 1) := dc_of dtX7_ringTold_57_1_ok (i := 18) rfl
theorem dX7_ringTold_88 : decode cX7_ringTold 88 = .ok (.bipush 59, 2) := dc_of dtX7_ringTold_57_1_ok (i := 19) rfl
theorem dX7_ringTold_90 : decode cX7_ringTold 90 = .ok (.invokevirtual 131, 3) := dc_of dtX7_ringTold_57_1_ok (i := 20) rfl
theorem dX7_ringTold_93 : decode cX7_ringTold 93 = .ok (.ifCond .eq 24, 3) := dc_of dtX7_ringTold_57_1_ok (i := 21) rfl
theorem dX7_ringTold_96 : decode cX7_ringTold 96 = .ok (.iload 5, 2) := dc_of dtX7_ringTold_57_1_ok (i := 22) rfl
theorem dX7_ringTold_98 : decode cX7_ringTold 98 = .ok (.iconst 4, 1) := dc_of dtX7_ringTold_57_1_ok (i := 23) rfl
theorem dX7_ringTold_99 : decode cX7_ringTold 99 = .ok (.if_icmp .gt 13, 3) := dc_of dtX7_ringTold_57_1_ok (i := 24) rfl
theorem dX7_ringTold_102 : decode cX7_ringTold 102 = .ok (.iload 6, 2) := dc_of dtX7_ringTold_57_1_ok (i := 25) rfl
theorem dX7_ringTold_104 : decode cX7_ringTold 104 = .ok (.aload_n 0, 1) := dc_of dtX7_ringTold_57_1_ok (i := 26) rfl
theorem dX7_ringTold_105 : decode cX7_ringTold 105 = .ok (.iload_n 1, 1) := dc_of dtX7_ringTold_57_1_ok (i := 27) rfl
theorem dX7_ringTold_106 : decode cX7_ringTold 106 = .ok (.invokevirtual 206, 3) := dc_of dtX7_ringTold_57_1_ok (i := 28) rfl
theorem dX7_ringTold_109 : decode cX7_ringTold 109 = .ok (.if_icmp .eq 8, 3) := dc_of dtX7_ringTold_57_1_ok (i := 29) rfl
theorem dX7_ringTold_112 : decode cX7_ringTold 112 = .ok (.aload_n 0, 1) := dc_of dtX7_ringTold_57_1_ok (i := 30) rfl
theorem dX7_ringTold_113 : decode cX7_ringTold 113 = .ok (.iconst 5, 1) := dc_of dtX7_ringTold_57_1_ok (i := 31) rfl
def dtX7_ringTold_114_2 : List (Nat × Instr × Nat) := [(114, .invokevirtual 134, 3), (117, .aload_n 0, 1), (118, .bipush 8, 2), (120, .aload_n 0, 1), (121, .iload_n 1, 1), (122, .invokevirtual 206, 3), (125, .iload_n 1, 1), (126, .iload_n 2, 1), (127, .iload 6, 2), (129, .invokevirtual 219, 3), (132, .return_, 1)]
theorem dtX7_ringTold_114_2_ok : dcAll cX7_ringTold dtX7_ringTold_114_2 = true := by decide +kernel
theorem dX7_ringTold_114 : decode cX7_ringTold 114 = .ok (.invokevirtual 134, 3) := dc_of dtX7_ringTold_114_2_ok (i := 0) rfl
theorem dX7_ringTold_117 : decode cX7_ringTold 117 = .ok (.aload_n 0, 1) := dc_of dtX7_ringTold_114_2_ok (i := 1) rfl
theorem dX7_ringTold_118 : decode cX7_ringTold 118 = .ok (.bipush 8, 2) := dc_of dtX7_ringTold_114_2_ok (i := 2) rfl
theorem dX7_ringTold_120 : decode cX7_ringTold 120 = .ok (.aload_n 0, 1) := dc_of dtX7_ringTold_114_2_ok (i := 3) rfl
theorem dX7_ringTold_121 : decode cX7_ringTold 121 = .ok (.iload_n 1, 1) := dc_of dtX7_ringTold_114_2_ok (i := 4) rfl
theorem dX7_ringTold_122 : decode cX7_ringTold 122 = .ok (.invokevirtual 206, 3) := dc_of dtX7_ringTold_114_2_ok (i := 5) rfl
theorem dX7_ringTold_125 : decode cX7_ringTold 125 = .ok (.iload_n 1, 1) := dc_of dtX7_ringTold_114_2_ok (i := 6) rfl
theorem dX7_ringTold_126 : decode cX7_ringTold 126 = .ok (.iload_n 2, 1) := dc_of dtX7_ringTold_114_2_ok (i := 7) rfl
theorem dX7_ringTold_127 : decode cX7_ringTold 127 = .ok (.iload 6, 2) := dc_of dtX7_ringTold_114_2_ok (i := 8) rfl
theorem dX7_ringTold_129 : decode cX7_ringTold 129 = .ok (.invokevirtual 219, 3) := dc_of dtX7_ringTold_114_2_ok (i := 9) rfl
theorem dX7_ringTold_132 : decode cX7_ringTold 132 = .ok (.return_, 1) := dc_of dtX7_ringTold_114_2_ok (i := 10) rfl
def dtX7_tableTold_0_0 : List (Nat × Instr × Nat) := [(0, .aload_n 0, 1), (1, .getfield 184, 3), (4, .bipush 16, 2), (6, .if_icmp .ne 8, 3), (9, .aload_n 0, 1), (10, .iconst 4, 1), (11, .invokevirtual 134, 3), (14, .iload_n 1, 1), (15, .ifCond .eq 9, 3), (18, .aload_n 0, 1), (19, .bipush 6, 2), (21, .invokevirtual 134, 3), (24, .aload_n 0, 1), (25, .invokevirtual 137, 3), (28, .aload_n 0, 1), (29, .invokevirtual 229, 3), (32, .aload_n 0, 1), (33, .getfield 81, 3), (36, .ifCond .ne 28, 3), (39, .aload_n 0, 1), (40, .getfield 94, 3), (43, .iconst 3, 1), (44, .if_icmp .ne 20, 3), (47, .aload_n 0, 1), (48, .getfield 97, 3), (51, .iconst 1, 1), (52, .iconst 4, 1), (53, .invokestatic 67, 3), (56, .ifCond .ne 8, 3), (59, .aload_n 0, 1), (60, .iconst 2, 1), (61, .invokevirtual 134, 3)]
theorem dtX7_tableTold_0_0_ok : dcAll cX7_tableTold dtX7_tableTold_0_0 = true := by decide +kernel
theorem dX7_tableTold_0 : decode cX7_tableTold 0 = .ok (.aload_n 0, 1) := dc_of dtX7_tableTold_0_0_ok (i := 0) rfl
theorem dX7_tableTold_1 : decode cX7_tableTold 1 = .ok (.getfield 184, 3) := dc_of dtX7_tableTold_0_0_ok (i := 1) rfl
theorem dX7_tableTold_4 : decode cX7_tableTold 4 = .ok (.bipush 16, 2) := dc_of dtX7_tableTold_0_0_ok (i := 2) rfl
theorem dX7_tableTold_6 : decode cX7_tableTold 6 = .ok (.if_icmp .ne 8, 3) := dc_of dtX7_tableTold_0_0_ok (i := 3) rfl
theorem dX7_tableTold_9 : decode cX7_tableTold 9 = .ok (.aload_n 0, 1) := dc_of dtX7_tableTold_0_0_ok (i := 4) rfl
theorem dX7_tableTold_10 : decode cX7_tableTold 10 = .ok (.iconst 4, 1) := dc_of dtX7_tableTold_0_0_ok (i := 5) rfl
theorem dX7_tableTold_11 : decode cX7_tableTold 11 = .ok (.invokevirtual 134, 3) := dc_of dtX7_tableTold_0_0_ok (i := 6) rfl
theorem dX7_tableTold_14 : decode cX7_tableTold 14 = .ok (.iload_n 1, 1) := dc_of dtX7_tableTold_0_0_ok (i := 7) rfl
theorem dX7_tableTold_15 : decode cX7_tableTold 15 = .ok (.ifCond .eq 9, 3) := dc_of dtX7_tableTold_0_0_ok (i := 8) rfl
theorem dX7_tableTold_18 : decode cX7_tableTold 18 = .ok (.aload_n 0, 1) := dc_of dtX7_tableTold_0_0_ok (i := 9) rfl
theorem dX7_tableTold_19 : decode cX7_tableTold 19 = .ok (.bipush 6, 2) := dc_of dtX7_tableTold_0_0_ok (i := 10) rfl
theorem dX7_tableTold_21 : decode cX7_tableTold 21 = .ok (.invokevirtual 134, 3) := dc_of dtX7_tableTold_0_0_ok (i := 11) rfl
theorem dX7_tableTold_24 : decode cX7_tableTold 24 = .ok (.aload_n 0, 1) := dc_of dtX7_tableTold_0_0_ok (i := 12) rfl
theorem dX7_tableTold_25 : decode cX7_tableTold 25 = .ok (.invokevirtual 137, 3) := dc_of dtX7_tableTold_0_0_ok (i := 13) rfl
theorem dX7_tableTold_28 : decode cX7_tableTold 28 = .ok (.aload_n 0, 1) := dc_of dtX7_tableTold_0_0_ok (i := 14) rfl
theorem dX7_tableTold_29 : decode cX7_tableTold 29 = .ok (.invokevirtual 229, 3) := dc_of dtX7_tableTold_0_0_ok (i := 15) rfl
theorem dX7_tableTold_32 : decode cX7_tableTold 32 = .ok (.aload_n 0, 1) := dc_of dtX7_tableTold_0_0_ok (i := 16) rfl
theorem dX7_tableTold_33 : decode cX7_tableTold 33 = .ok (.getfield 81, 3) := dc_of dtX7_tableTold_0_0_ok (i := 17) rfl
theorem dX7_tableTold_36 : decode cX7_tableTold 36 = .ok (.ifCond .ne 28, 3) := dc_of dtX7_tableTold_0_0_ok (i := 18) rfl
theorem dX7_tableTold_39 : decode cX7_tableTold 39 = .ok (.aload_n 0, 1) := dc_of dtX7_tableTold_0_0_ok (i := 19) rfl
theorem dX7_tableTold_40 : decode cX7_tableTold 40 = .ok (.getfield 94, 3) := dc_of dtX7_tableTold_0_0_ok (i := 20) rfl
theorem dX7_tableTold_43 : decode cX7_tableTold 43 = .ok (.iconst 3, 1) := dc_of dtX7_tableTold_0_0_ok (i := 21) rfl
theorem dX7_tableTold_44 : decode cX7_tableTold 44 = .ok (.if_icmp .ne 20, 3) := dc_of dtX7_tableTold_0_0_ok (i := 22) rfl
theorem dX7_tableTold_47 : decode cX7_tableTold 47 = .ok (.aload_n 0, 1) := dc_of dtX7_tableTold_0_0_ok (i := 23) rfl
theorem dX7_tableTold_48 : decode cX7_tableTold 48 = .ok (.getfield 97, 3) := dc_of dtX7_tableTold_0_0_ok (i := 24) rfl
theorem dX7_tableTold_51 : decode cX7_tableTold 51 = .ok (.iconst 1, 1) := dc_of dtX7_tableTold_0_0_ok (i := 25) rfl
theorem dX7_tableTold_52 : decode cX7_tableTold 52 = .ok (.iconst 4, 1) := dc_of dtX7_tableTold_0_0_ok (i := 26) rfl
theorem dX7_tableTold_53 : decode cX7_tableTold 53 = .ok (.invokestatic 67, 3) := dc_of dtX7_tableTold_0_0_ok (i := 27) rfl
theorem dX7_tableTold_56 : decode cX7_tableTold 56 = .ok (.ifCond .ne 8, 3) := dc_of dtX7_tableTold_0_0_ok (i := 28) rfl
theorem dX7_tableTold_59 : decode cX7_tableTold 59 = .ok (.aload_n 0, 1) := dc_of dtX7_tableTold_0_0_ok (i := 29) rfl
theorem dX7_tableTold_60 : decode cX7_tableTold 60 = .ok (.iconst 2, 1) := dc_of dtX7_tableTold_0_0_ok (i := 30) rfl
theorem dX7_tableTold_61 : decode cX7_tableTold 61 = .ok (.invokevirtual 134, 3) := dc_of dtX7_tableTold_0_0_ok (i := 31) rfl
def dtX7_tableTold_64_1 : List (Nat × Instr × Nat) := [(64, .aload_n 0, 1), (65, .invokevirtual 212, 3), (68, .istore_n 2, 1), (69, .aload_n 0, 1), (70, .iconst 0, 1), (71, .iload_n 2, 1), (72, .iconst (-1), 1), (73, .iconst (-1), 1), (74, .iconst 0, 1), (75, .invokevirtual 219, 3), (78, .return_, 1)]
theorem dtX7_tableTold_64_1_ok : dcAll cX7_tableTold dtX7_tableTold_64_1 = true := by decide +kernel
theorem dX7_tableTold_64 : decode cX7_tableTold 64 = .ok (.aload_n 0, 1) := dc_of dtX7_tableTold_64_1_ok (i := 0) rfl
theorem dX7_tableTold_65 : decode cX7_tableTold 65 = .ok (.invokevirtual 212, 3) := dc_of dtX7_tableTold_64_1_ok (i := 1) rfl
theorem dX7_tableTold_68 : decode cX7_tableTold 68 = .ok (.istore_n 2, 1) := dc_of dtX7_tableTold_64_1_ok (i := 2) rfl
theorem dX7_tableTold_69 : decode cX7_tableTold 69 = .ok (.aload_n 0, 1) := dc_of dtX7_tableTold_64_1_ok (i := 3) rfl
theorem dX7_tableTold_70 : decode cX7_tableTold 70 = .ok (.iconst 0, 1) := dc_of dtX7_tableTold_64_1_ok (i := 4) rfl
theorem dX7_tableTold_71 : decode cX7_tableTold 71 = .ok (.iload_n 2, 1) := dc_of dtX7_tableTold_64_1_ok (i := 5) rfl
theorem dX7_tableTold_72 : decode cX7_tableTold 72 = .ok (.iconst (-1), 1) := dc_of dtX7_tableTold_64_1_ok (i := 6) rfl
theorem dX7_tableTold_73 : decode cX7_tableTold 73 = .ok (.iconst (-1), 1) := dc_of dtX7_tableTold_64_1_ok (i := 7) rfl
theorem dX7_tableTold_74 : decode cX7_tableTold 74 = .ok (.iconst 0, 1) := dc_of dtX7_tableTold_64_1_ok (i := 8) rfl
theorem dX7_tableTold_75 : decode cX7_tableTold 75 = .ok (.invokevirtual 219, 3) := dc_of dtX7_tableTold_64_1_ok (i := 9) rfl
theorem dX7_tableTold_78 : decode cX7_tableTold 78 = .ok (.return_, 1) := dc_of dtX7_tableTold_64_1_ok (i := 10) rfl
def dtX7_viewTold_0_0 : List (Nat × Instr × Nat) := [(0, .aload_n 0, 1), (1, .getfield 184, 3), (4, .bipush 16, 2), (6, .if_icmp .ne 8, 3), (9, .aload_n 0, 1), (10, .iconst 4, 1), (11, .invokevirtual 134, 3), (14, .aload_n 0, 1), (15, .invokevirtual 137, 3), (18, .aload_n 0, 1), (19, .invokevirtual 229, 3), (22, .aload_n 0, 1), (23, .bipush 61, 2), (25, .invokevirtual 226, 3), (28, .aload_n 0, 1), (29, .getfield 81, 3), (32, .ifCond .le 4, 3), (35, .return_, 1), (36, .aload_n 0, 1), (37, .ldc 148, 2), (39, .invokevirtual 140, 3), (42, .ifCond .eq 7, 3), (45, .iconst 1, 1), (46, .goto 98, 3), (49, .aload_n 0, 1), (50, .ldc 154, 2), (52, .invokevirtual 140, 3), (55, .ifCond .eq 7, 3), (58, .iconst 2, 1), (59, .goto 85, 3), (62, .aload_n 0, 1), (63, .ldc 156, 2)]
theorem dtX7_viewTold_0_0_ok : dcAll cX7_viewTold dtX7_viewTold_0_0 = true := by decide +kernel
theorem dX7_viewTold_0 : decode cX7_viewTold 0 = .ok (.aload_n 0, 1) := dc_of dtX7_viewTold_0_0_ok (i := 0) rfl
theorem dX7_viewTold_1 : decode cX7_viewTold 1 = .ok (.getfield 184, 3) := dc_of dtX7_viewTold_0_0_ok (i := 1) rfl
theorem dX7_viewTold_4 : decode cX7_viewTold 4 = .ok (.bipush 16, 2) := dc_of dtX7_viewTold_0_0_ok (i := 2) rfl
theorem dX7_viewTold_6 : decode cX7_viewTold 6 = .ok (.if_icmp .ne 8, 3) := dc_of dtX7_viewTold_0_0_ok (i := 3) rfl
theorem dX7_viewTold_9 : decode cX7_viewTold 9 = .ok (.aload_n 0, 1) := dc_of dtX7_viewTold_0_0_ok (i := 4) rfl
theorem dX7_viewTold_10 : decode cX7_viewTold 10 = .ok (.iconst 4, 1) := dc_of dtX7_viewTold_0_0_ok (i := 5) rfl
theorem dX7_viewTold_11 : decode cX7_viewTold 11 = .ok (.invokevirtual 134, 3) := dc_of dtX7_viewTold_0_0_ok (i := 6) rfl
theorem dX7_viewTold_14 : decode cX7_viewTold 14 = .ok (.aload_n 0, 1) := dc_of dtX7_viewTold_0_0_ok (i := 7) rfl
theorem dX7_viewTold_15 : decode cX7_viewTold 15 = .ok (.invokevirtual 137, 3) := dc_of dtX7_viewTold_0_0_ok (i := 8) rfl
theorem dX7_viewTold_18 : decode cX7_viewTold 18 = .ok (.aload_n 0, 1) := dc_of dtX7_viewTold_0_0_ok (i := 9) rfl
theorem dX7_viewTold_19 : decode cX7_viewTold 19 = .ok (.invokevirtual 229, 3) := dc_of dtX7_viewTold_0_0_ok (i := 10) rfl
theorem dX7_viewTold_22 : decode cX7_viewTold 22 = .ok (.aload_n 0, 1) := dc_of dtX7_viewTold_0_0_ok (i := 11) rfl
theorem dX7_viewTold_23 : decode cX7_viewTold 23 = .ok (.bipush 61, 2) := dc_of dtX7_viewTold_0_0_ok (i := 12) rfl
theorem dX7_viewTold_25 : decode cX7_viewTold 25 = .ok (.invokevirtual 226, 3) := dc_of dtX7_viewTold_0_0_ok (i := 13) rfl
theorem dX7_viewTold_28 : decode cX7_viewTold 28 = .ok (.aload_n 0, 1) := dc_of dtX7_viewTold_0_0_ok (i := 14) rfl
theorem dX7_viewTold_29 : decode cX7_viewTold 29 = .ok (.getfield 81, 3) := dc_of dtX7_viewTold_0_0_ok (i := 15) rfl
theorem dX7_viewTold_32 : decode cX7_viewTold 32 = .ok (.ifCond .le 4, 3) := dc_of dtX7_viewTold_0_0_ok (i := 16) rfl
theorem dX7_viewTold_35 : decode cX7_viewTold 35 = .ok (.return_, 1) := dc_of dtX7_viewTold_0_0_ok (i := 17) rfl
theorem dX7_viewTold_36 : decode cX7_viewTold 36 = .ok (.aload_n 0, 1) := dc_of dtX7_viewTold_0_0_ok (i := 18) rfl
theorem dX7_viewTold_37 : decode cX7_viewTold 37 = .ok (.ldc 148, 2) := dc_of dtX7_viewTold_0_0_ok (i := 19) rfl
theorem dX7_viewTold_39 : decode cX7_viewTold 39 = .ok (.invokevirtual 140, 3) := dc_of dtX7_viewTold_0_0_ok (i := 20) rfl
theorem dX7_viewTold_42 : decode cX7_viewTold 42 = .ok (.ifCond .eq 7, 3) := dc_of dtX7_viewTold_0_0_ok (i := 21) rfl
theorem dX7_viewTold_45 : decode cX7_viewTold 45 = .ok (.iconst 1, 1) := dc_of dtX7_viewTold_0_0_ok (i := 22) rfl
theorem dX7_viewTold_46 : decode cX7_viewTold 46 = .ok (.goto 98, 3) := dc_of dtX7_viewTold_0_0_ok (i := 23) rfl
theorem dX7_viewTold_49 : decode cX7_viewTold 49 = .ok (.aload_n 0, 1) := dc_of dtX7_viewTold_0_0_ok (i := 24) rfl
theorem dX7_viewTold_50 : decode cX7_viewTold 50 = .ok (.ldc 154, 2) := dc_of dtX7_viewTold_0_0_ok (i := 25) rfl
theorem dX7_viewTold_52 : decode cX7_viewTold 52 = .ok (.invokevirtual 140, 3) := dc_of dtX7_viewTold_0_0_ok (i := 26) rfl
theorem dX7_viewTold_55 : decode cX7_viewTold 55 = .ok (.ifCond .eq 7, 3) := dc_of dtX7_viewTold_0_0_ok (i := 27) rfl
theorem dX7_viewTold_58 : decode cX7_viewTold 58 = .ok (.iconst 2, 1) := dc_of dtX7_viewTold_0_0_ok (i := 28) rfl
theorem dX7_viewTold_59 : decode cX7_viewTold 59 = .ok (.goto 85, 3) := dc_of dtX7_viewTold_0_0_ok (i := 29) rfl
theorem dX7_viewTold_62 : decode cX7_viewTold 62 = .ok (.aload_n 0, 1) := dc_of dtX7_viewTold_0_0_ok (i := 30) rfl
theorem dX7_viewTold_63 : decode cX7_viewTold 63 = .ok (.ldc 156, 2) := dc_of dtX7_viewTold_0_0_ok (i := 31) rfl
def dtX7_viewTold_65_1 : List (Nat × Instr × Nat) := [(65, .invokevirtual 140, 3), (68, .ifCond .eq 7, 3), (71, .iconst 3, 1), (72, .goto 72, 3), (75, .aload_n 0, 1), (76, .ldc 160, 2), (78, .invokevirtual 140, 3), (81, .ifCond .eq 7, 3), (84, .iconst 4, 1), (85, .goto 59, 3), (88, .aload_n 0, 1), (89, .ldc 162, 2), (91, .invokevirtual 140, 3), (94, .ifCond .eq 7, 3), (97, .iconst 5, 1), (98, .goto 46, 3), (101, .aload_n 0, 1), (102, .ldc 164, 2), (104, .invokevirtual 140, 3), (107, .ifCond .eq 8, 3), (110, .bipush 6, 2), (112, .goto 32, 3), (115, .aload_n 0, 1), (116, .ldc 166, 2), (118, .invokevirtual 140, 3), (121, .ifCond .eq 8, 3), (124, .bipush 7, 2), (126, .goto 18, 3), (129, .aload_n 0, 1), (130, .ldc 178, 2), (132, .invokevirtual 140, 3), (135, .ifCond .eq 8, 3)]
theorem dtX7_viewTold_65_1_ok : dcAll cX7_viewTold dtX7_viewTold_65_1 = true := by decide +kernel
theorem dX7_viewTold_65 : decode cX7_viewTold 65 = .ok (.invokevirtual 140, 3) := dc_of dtX7_viewTold_65_1_ok (i := 0) rfl
theorem dX7_viewTold_68 : decode cX7_viewTold 68 = .ok (.ifCond .eq 7, 3) := dc_of dtX7_viewTold_65_1_ok (i := 1) rfl
theorem dX7_viewTold_71 : decode cX7_viewTold 71 = .ok (.iconst 3, 1) := dc_of dtX7_viewTold_65_1_ok (i := 2) rfl
theorem dX7_viewTold_72 : decode cX7_viewTold 72 = .ok (.goto 72, 3) := dc_of dtX7_viewTold_65_1_ok (i := 3) rfl
theorem dX7_viewTold_75 : decode cX7_viewTold 75 = .ok (.aload_n 0, 1) := dc_of dtX7_viewTold_65_1_ok (i := 4) rfl
theorem dX7_viewTold_76 : decode cX7_viewTold 76 = .ok (.ldc 160, 2) := dc_of dtX7_viewTold_65_1_ok (i := 5) rfl
theorem dX7_viewTold_78 : decode cX7_viewTold 78 = .ok (.invokevirtual 140, 3) := dc_of dtX7_viewTold_65_1_ok (i := 6) rfl
theorem dX7_viewTold_81 : decode cX7_viewTold 81 = .ok (.ifCond .eq 7, 3) := dc_of dtX7_viewTold_65_1_ok (i := 7) rfl
theorem dX7_viewTold_84 : decode cX7_viewTold 84 = .ok (.iconst 4, 1) := dc_of dtX7_viewTold_65_1_ok (i := 8) rfl
theorem dX7_viewTold_85 : decode cX7_viewTold 85 = .ok (.goto 59, 3) := dc_of dtX7_viewTold_65_1_ok (i := 9) rfl
theorem dX7_viewTold_88 : decode cX7_viewTold 88 = .ok (.aload_n 0, 1) := dc_of dtX7_viewTold_65_1_ok (i := 10) rfl
theorem dX7_viewTold_89 : decode cX7_viewTold 89 = .ok (.ldc 162, 2) := dc_of dtX7_viewTold_65_1_ok (i := 11) rfl
theorem dX7_viewTold_91 : decode cX7_viewTold 91 = .ok (.invokevirtual 140, 3) := dc_of dtX7_viewTold_65_1_ok (i := 12) rfl
theorem dX7_viewTold_94 : decode cX7_viewTold 94 = .ok (.ifCond .eq 7, 3) := dc_of dtX7_viewTold_65_1_ok (i := 13) rfl
theorem dX7_viewTold_97 : decode cX7_viewTold 97 = .ok (.iconst 5, 1) := dc_of dtX7_viewTold_65_1_ok (i := 14) rfl
theorem dX7_viewTold_98 : decode cX7_viewTold 98 = .ok (.goto 46, 3) := dc_of dtX7_viewTold_65_1_ok (i := 15) rfl
theorem dX7_viewTold_101 : decode cX7_viewTold 101 = .ok (.aload_n 0, 1) := dc_of dtX7_viewTold_65_1_ok (i := 16) rfl
theorem dX7_viewTold_102 : decode cX7_viewTold 102 = .ok (.ldc 164, 2) := dc_of dtX7_viewTold_65_1_ok (i := 17) rfl
theorem dX7_viewTold_104 : decode cX7_viewTold 104 = .ok (.invokevirtual 140, 3) := dc_of dtX7_viewTold_65_1_ok (i := 18) rfl
theorem dX7_viewTold_107 : decode cX7_viewTold 107 = .ok (.ifCond .eq 8, 3) := dc_of dtX7_viewTold_65_1_ok (i := 19) rfl
theorem dX7_viewTold_110 : decode cX7_viewTold 110 = .ok (.bipush 6, 2) := dc_of dtX7_viewTold_65_1_ok (i := 20) rfl
theorem dX7_viewTold_112 : decode cX7_viewTold 112 = .ok (.goto 32, 3) := dc_of dtX7_viewTold_65_1_ok (i := 21) rfl
theorem dX7_viewTold_115 : decode cX7_viewTold 115 = .ok (.aload_n 0, 1) := dc_of dtX7_viewTold_65_1_ok (i := 22) rfl
theorem dX7_viewTold_116 : decode cX7_viewTold 116 = .ok (.ldc 166, 2) := dc_of dtX7_viewTold_65_1_ok (i := 23) rfl
theorem dX7_viewTold_118 : decode cX7_viewTold 118 = .ok (.invokevirtual 140, 3) := dc_of dtX7_viewTold_65_1_ok (i := 24) rfl
theorem dX7_viewTold_121 : decode cX7_viewTold 121 = .ok (.ifCond .eq 8, 3) := dc_of dtX7_viewTold_65_1_ok (i := 25) rfl
theorem dX7_viewTold_124 : decode cX7_viewTold 124 = .ok (.bipush 7, 2) := dc_of dtX7_viewTold_65_1_ok (i := 26) rfl
theorem dX7_viewTold_126 : decode cX7_viewTold 126 = .ok (.goto 18, 3) := dc_of dtX7_viewTold_65_1_ok (i := 27) rfl
theorem dX7_viewTold_129 : decode cX7_viewTold 129 = .ok (.aload_n 0, 1) := dc_of dtX7_viewTold_65_1_ok (i := 28) rfl
theorem dX7_viewTold_130 : decode cX7_viewTold 130 = .ok (.ldc 178, 2) := dc_of dtX7_viewTold_65_1_ok (i := 29) rfl
theorem dX7_viewTold_132 : decode cX7_viewTold 132 = .ok (.invokevirtual 140, 3) := dc_of dtX7_viewTold_65_1_ok (i := 30) rfl
theorem dX7_viewTold_135 : decode cX7_viewTold 135 = .ok (.ifCond .eq 8, 3) := dc_of dtX7_viewTold_65_1_ok (i := 31) rfl
def dtX7_viewTold_138_2 : List (Nat × Instr × Nat) := [(138, .bipush 8, 2), (140, .goto 4, 3), (143, .iconst (-1), 1), (144, .istore_n 1, 1), (145, .iload_n 1, 1), (146, .ifCond .ge 8, 3), (149, .aload_n 0, 1), (150, .iconst 1, 1), (151, .invokevirtual 134, 3), (154, .aload_n 0, 1), (155, .invokevirtual 137, 3), (158, .aload_n 0, 1), (159, .getfield 81, 3), (162, .ifCond .le 4, 3), (165, .return_, 1), (166, .iload_n 1, 1), (167, .iconst 1, 1), (168, .if_icmp .ne 10, 3), (171, .aload_n 0, 1), (172, .invokevirtual 232, 3), (175, .goto 90, 3), (178, .iload_n 1, 1), (179, .iconst 2, 1), (180, .if_icmp .ne 10, 3), (183, .aload_n 0, 1), (184, .invokevirtual 235, 3), (187, .goto 78, 3), (190, .iload_n 1, 1), (191, .iconst 3, 1), (192, .if_icmp .ne 10, 3), (195, .aload_n 0, 1), (196, .invokevirtual 238, 3)]
theorem dtX7_viewTold_138_2_ok : dcAll cX7_viewTold dtX7_viewTold_138_2 = true := by decide +kernel
theorem dX7_viewTold_138 : decode cX7_viewTold 138 = .ok (.bipush 8, 2) := dc_of dtX7_viewTold_138_2_ok (i := 0) rfl
theorem dX7_viewTold_140 : decode cX7_viewTold 140 = .ok (.goto 4, 3) := dc_of dtX7_viewTold_138_2_ok (i := 1) rfl
theorem dX7_viewTold_143 : decode cX7_viewTold 143 = .ok (.iconst (-1), 1) := dc_of dtX7_viewTold_138_2_ok (i := 2) rfl
theorem dX7_viewTold_144 : decode cX7_viewTold 144 = .ok (.istore_n 1, 1) := dc_of dtX7_viewTold_138_2_ok (i := 3) rfl
theorem dX7_viewTold_145 : decode cX7_viewTold 145 = .ok (.iload_n 1, 1) := dc_of dtX7_viewTold_138_2_ok (i := 4) rfl
theorem dX7_viewTold_146 : decode cX7_viewTold 146 = .ok (.ifCond .ge 8, 3) := dc_of dtX7_viewTold_138_2_ok (i := 5) rfl
theorem dX7_viewTold_149 : decode cX7_viewTold 149 = .ok (.aload_n 0, 1) := dc_of dtX7_viewTold_138_2_ok (i := 6) rfl
theorem dX7_viewTold_150 : decode cX7_viewTold 150 = .ok (.iconst 1, 1) := dc_of dtX7_viewTold_138_2_ok (i := 7) rfl
theorem dX7_viewTold_151 : decode cX7_viewTold 151 = .ok (.invokevirtual 134, 3) := dc_of dtX7_viewTold_138_2_ok (i := 8) rfl
theorem dX7_viewTold_154 : decode cX7_viewTold 154 = .ok (.aload_n 0, 1) := dc_of dtX7_viewTold_138_2_ok (i := 9) rfl
theorem dX7_viewTold_155 : decode cX7_viewTold 155 = .ok (.invokevirtual 137, 3) := dc_of dtX7_viewTold_138_2_ok (i := 10) rfl
theorem dX7_viewTold_158 : decode cX7_viewTold 158 = .ok (.aload_n 0, 1) := dc_of dtX7_viewTold_138_2_ok (i := 11) rfl
theorem dX7_viewTold_159 : decode cX7_viewTold 159 = .ok (.getfield 81, 3) := dc_of dtX7_viewTold_138_2_ok (i := 12) rfl
theorem dX7_viewTold_162 : decode cX7_viewTold 162 = .ok (.ifCond .le 4, 3) := dc_of dtX7_viewTold_138_2_ok (i := 13) rfl
theorem dX7_viewTold_165 : decode cX7_viewTold 165 = .ok (.return_, 1) := dc_of dtX7_viewTold_138_2_ok (i := 14) rfl
theorem dX7_viewTold_166 : decode cX7_viewTold 166 = .ok (.iload_n 1, 1) := dc_of dtX7_viewTold_138_2_ok (i := 15) rfl
theorem dX7_viewTold_167 : decode cX7_viewTold 167 = .ok (.iconst 1, 1) := dc_of dtX7_viewTold_138_2_ok (i := 16) rfl
theorem dX7_viewTold_168 : decode cX7_viewTold 168 = .ok (.if_icmp .ne 10, 3) := dc_of dtX7_viewTold_138_2_ok (i := 17) rfl
theorem dX7_viewTold_171 : decode cX7_viewTold 171 = .ok (.aload_n 0, 1) := dc_of dtX7_viewTold_138_2_ok (i := 18) rfl
theorem dX7_viewTold_172 : decode cX7_viewTold 172 = .ok (.invokevirtual 232, 3) := dc_of dtX7_viewTold_138_2_ok (i := 19) rfl
theorem dX7_viewTold_175 : decode cX7_viewTold 175 = .ok (.goto 90, 3) := dc_of dtX7_viewTold_138_2_ok (i := 20) rfl
theorem dX7_viewTold_178 : decode cX7_viewTold 178 = .ok (.iload_n 1, 1) := dc_of dtX7_viewTold_138_2_ok (i := 21) rfl
theorem dX7_viewTold_179 : decode cX7_viewTold 179 = .ok (.iconst 2, 1) := dc_of dtX7_viewTold_138_2_ok (i := 22) rfl
theorem dX7_viewTold_180 : decode cX7_viewTold 180 = .ok (.if_icmp .ne 10, 3) := dc_of dtX7_viewTold_138_2_ok (i := 23) rfl
theorem dX7_viewTold_183 : decode cX7_viewTold 183 = .ok (.aload_n 0, 1) := dc_of dtX7_viewTold_138_2_ok (i := 24) rfl
theorem dX7_viewTold_184 : decode cX7_viewTold 184 = .ok (.invokevirtual 235, 3) := dc_of dtX7_viewTold_138_2_ok (i := 25) rfl
theorem dX7_viewTold_187 : decode cX7_viewTold 187 = .ok (.goto 78, 3) := dc_of dtX7_viewTold_138_2_ok (i := 26) rfl
theorem dX7_viewTold_190 : decode cX7_viewTold 190 = .ok (.iload_n 1, 1) := dc_of dtX7_viewTold_138_2_ok (i := 27) rfl
theorem dX7_viewTold_191 : decode cX7_viewTold 191 = .ok (.iconst 3, 1) := dc_of dtX7_viewTold_138_2_ok (i := 28) rfl
theorem dX7_viewTold_192 : decode cX7_viewTold 192 = .ok (.if_icmp .ne 10, 3) := dc_of dtX7_viewTold_138_2_ok (i := 29) rfl
theorem dX7_viewTold_195 : decode cX7_viewTold 195 = .ok (.aload_n 0, 1) := dc_of dtX7_viewTold_138_2_ok (i := 30) rfl
theorem dX7_viewTold_196 : decode cX7_viewTold 196 = .ok (.invokevirtual 238, 3) := dc_of dtX7_viewTold_138_2_ok (i := 31) rfl
def dtX7_viewTold_199_3 : List (Nat × Instr × Nat) := [(199, .goto 66, 3), (202, .iload_n 1, 1), (203, .iconst 4, 1), (204, .if_icmp .eq 8, 3), (207, .iload_n 1, 1), (208, .iconst 5, 1), (209, .if_icmp .ne 11, 3), (212, .aload_n 0, 1), (213, .iload_n 1, 1), (214, .invokevirtual 241, 3), (217, .goto 48, 3), (220, .iload_n 1, 1), (221, .bipush 7, 2), (223, .if_icmp .ne 10, 3), (226, .aload_n 0, 1), (227, .invokevirtual 244, 3), (230, .goto 35, 3), (233, .iload_n 1, 1), (234, .bipush 8, 2), (236, .if_icmp .ne 10, 3), (239, .aload_n 0, 1), (240, .invokevirtual 247, 3), (243, .goto 22, 3), (246, .aload_n 0, 1), (247, .invokevirtual 199, 3), (250, .istore_n 2, 1), (251, .aload_n 0, 1), (252, .bipush 6, 2), (254, .aload_n 0, 1), (255, .iload_n 2, 1), (256, .invokevirtual 206, 3), (259, .iload_n 2, 1)]
theorem dtX7_viewTold_199_3_ok : dcAll cX7_viewTold dtX7_viewTold_199_3 = true := by decide +kernel
theorem dX7_viewTold_199 : decode cX7_viewTold 199 = .ok (.goto 66, 3) := dc_of dtX7_viewTold_199_3_ok (i := 0) rfl
theorem dX7_viewTold_202 : decode cX7_viewTold 202 = .ok (.iload_n 1, 1) := dc_of dtX7_viewTold_199_3_ok (i := 1) rfl
theorem dX7_viewTold_203 : decode cX7_viewTold 203 = .ok (.iconst 4, 1) := dc_of dtX7_viewTold_199_3_ok (i := 2) rfl
theorem dX7_viewTold_204 : decode cX7_viewTold 204 = .ok (.if_icmp .eq 8, 3) := dc_of dtX7_viewTold_199_3_ok (i := 3) rfl
theorem dX7_viewTold_207 : decode cX7_viewTold 207 = .ok (.iload_n 1, 1) := dc_of dtX7_viewTold_199_3_ok (i := 4) rfl
theorem dX7_viewTold_208 : decode cX7_viewTold 208 = .ok (.iconst 5, 1) := dc_of dtX7_viewTold_199_3_ok (i := 5) rfl
theorem dX7_viewTold_209 : decode cX7_viewTold 209 = .ok (.if_icmp .ne 11, 3) := dc_of dtX7_viewTold_199_3_ok (i := 6) rfl
theorem dX7_viewTold_212 : decode cX7_viewTold 212 = .ok (.aload_n 0, 1) := dc_of dtX7_viewTold_199_3_ok (i := 7) rfl
theorem dX7_viewTold_213 : decode cX7_viewTold 213 = .ok (.iload_n 1, 1) := dc_of dtX7_viewTold_199_3_ok (i := 8) rfl
theorem dX7_viewTold_214 : decode cX7_viewTold 214 = .ok (.invokevirtual 241, 3) := dc_of dtX7_viewTold_199_3_ok (i := 9) rfl
theorem dX7_viewTold_217 : decode cX7_viewTold 217 = .ok (.goto 48, 3) := dc_of dtX7_viewTold_199_3_ok (i := 10) rfl
theorem dX7_viewTold_220 : decode cX7_viewTold 220 = .ok (.iload_n 1, 1) := dc_of dtX7_viewTold_199_3_ok (i := 11) rfl
theorem dX7_viewTold_221 : decode cX7_viewTold 221 = .ok (.bipush 7, 2) := dc_of dtX7_viewTold_199_3_ok (i := 12) rfl
theorem dX7_viewTold_223 : decode cX7_viewTold 223 = .ok (.if_icmp .ne 10, 3) := dc_of dtX7_viewTold_199_3_ok (i := 13) rfl
theorem dX7_viewTold_226 : decode cX7_viewTold 226 = .ok (.aload_n 0, 1) := dc_of dtX7_viewTold_199_3_ok (i := 14) rfl
theorem dX7_viewTold_227 : decode cX7_viewTold 227 = .ok (.invokevirtual 244, 3) := dc_of dtX7_viewTold_199_3_ok (i := 15) rfl
theorem dX7_viewTold_230 : decode cX7_viewTold 230 = .ok (.goto 35, 3) := dc_of dtX7_viewTold_199_3_ok (i := 16) rfl
theorem dX7_viewTold_233 : decode cX7_viewTold 233 = .ok (.iload_n 1, 1) := dc_of dtX7_viewTold_199_3_ok (i := 17) rfl
theorem dX7_viewTold_234 : decode cX7_viewTold 234 = .ok (.bipush 8, 2) := dc_of dtX7_viewTold_199_3_ok (i := 18) rfl
theorem dX7_viewTold_236 : decode cX7_viewTold 236 = .ok (.if_icmp .ne 10, 3) := dc_of dtX7_viewTold_199_3_ok (i := 19) rfl
theorem dX7_viewTold_239 : decode cX7_viewTold 239 = .ok (.aload_n 0, 1) := dc_of dtX7_viewTold_199_3_ok (i := 20) rfl
theorem dX7_viewTold_240 : decode cX7_viewTold 240 = .ok (.invokevirtual 247, 3) := dc_of dtX7_viewTold_199_3_ok (i := 21) rfl
theorem dX7_viewTold_243 : decode cX7_viewTold 243 = .ok (.goto 22, 3) := dc_of dtX7_viewTold_199_3_ok (i := 22) rfl
theorem dX7_viewTold_246 : decode cX7_viewTold 246 = .ok (.aload_n 0, 1) := dc_of dtX7_viewTold_199_3_ok (i := 23) rfl
theorem dX7_viewTold_247 : decode cX7_viewTold 247 = .ok (.invokevirtual 199, 3) := dc_of dtX7_viewTold_199_3_ok (i := 24) rfl
theorem dX7_viewTold_250 : decode cX7_viewTold 250 = .ok (.istore_n 2, 1) := dc_of dtX7_viewTold_199_3_ok (i := 25) rfl
theorem dX7_viewTold_251 : decode cX7_viewTold 251 = .ok (.aload_n 0, 1) := dc_of dtX7_viewTold_199_3_ok (i := 26) rfl
theorem dX7_viewTold_252 : decode cX7_viewTold 252 = .ok (.bipush 6, 2) := dc_of dtX7_viewTold_199_3_ok (i := 27) rfl
theorem dX7_viewTold_254 : decode cX7_viewTold 254 = .ok (.aload_n 0, 1) := dc_of dtX7_viewTold_199_3_ok (i := 28) rfl
theorem dX7_viewTold_255 : decode cX7_viewTold 255 = .ok (.iload_n 2, 1) := dc_of dtX7_viewTold_199_3_ok (i := 29) rfl
theorem dX7_viewTold_256 : decode cX7_viewTold 256 = .ok (.invokevirtual 206, 3) := dc_of dtX7_viewTold_199_3_ok (i := 30) rfl
theorem dX7_viewTold_259 : decode cX7_viewTold 259 = .ok (.iload_n 2, 1) := dc_of dtX7_viewTold_199_3_ok (i := 31) rfl
def dtX7_viewTold_260_4 : List (Nat × Instr × Nat) := [(260, .iconst (-1), 1), (261, .iconst 0, 1), (262, .invokevirtual 219, 3), (265, .return_, 1)]
theorem dtX7_viewTold_260_4_ok : dcAll cX7_viewTold dtX7_viewTold_260_4 = true := by decide +kernel
theorem dX7_viewTold_260 : decode cX7_viewTold 260 = .ok (.iconst (-1), 1) := dc_of dtX7_viewTold_260_4_ok (i := 0) rfl
theorem dX7_viewTold_261 : decode cX7_viewTold 261 = .ok (.iconst 0, 1) := dc_of dtX7_viewTold_260_4_ok (i := 1) rfl
theorem dX7_viewTold_262 : decode cX7_viewTold 262 = .ok (.invokevirtual 219, 3) := dc_of dtX7_viewTold_260_4_ok (i := 2) rfl
theorem dX7_viewTold_265 : decode cX7_viewTold 265 = .ok (.return_, 1) := dc_of dtX7_viewTold_260_4_ok (i := 3) rfl
def dtX7_plan_0_0 : List (Nat × Instr × Nat) := [(0, .aload_n 0, 1), (1, .iconst 0, 1), (2, .putfield 60, 3), (5, .aload_n 0, 1), (6, .aload_n 0, 1), (7, .getfield 71, 3), (10, .putfield 78, 3), (13, .aload_n 0, 1), (14, .iconst 0, 1), (15, .putfield 71, 3), (18, .aload_n 0, 1), (19, .getfield 78, 3), (22, .sipush 900, 3), (25, .if_icmp .le 5, 3), (28, .iconst (-1), 1), (29, .ireturn, 1), (30, .aload_n 0, 1), (31, .iconst 0, 1), (32, .putfield 184, 3), (35, .aload_n 0, 1), (36, .iconst 0, 1), (37, .putfield 81, 3), (40, .aload_n 0, 1), (41, .iconst 0, 1), (42, .putfield 84, 3), (45, .iconst 0, 1), (46, .istore_n 1, 1), (47, .aload_n 0, 1), (48, .invokevirtual 137, 3), (51, .aload_n 0, 1), (52, .getfield 81, 3), (55, .ifCond .ne 76, 3)]
theorem dtX7_plan_0_0_ok : dcAll cX7_plan dtX7_plan_0_0 = true := by decide +kernel
theorem dX7_plan_0 : decode cX7_plan 0 = .ok (.aload_n 0, 1) := dc_of dtX7_plan_0_0_ok (i := 0) rfl
theorem dX7_plan_1 : decode cX7_plan 1 = .ok (.iconst 0, 1) := dc_of dtX7_plan_0_0_ok (i := 1) rfl
theorem dX7_plan_2 : decode cX7_plan 2 = .ok (.putfield 60, 3) := dc_of dtX7_plan_0_0_ok (i := 2) rfl
theorem dX7_plan_5 : decode cX7_plan 5 = .ok (.aload_n 0, 1) := dc_of dtX7_plan_0_0_ok (i := 3) rfl
theorem dX7_plan_6 : decode cX7_plan 6 = .ok (.aload_n 0, 1) := dc_of dtX7_plan_0_0_ok (i := 4) rfl
theorem dX7_plan_7 : decode cX7_plan 7 = .ok (.getfield 71, 3) := dc_of dtX7_plan_0_0_ok (i := 5) rfl
theorem dX7_plan_10 : decode cX7_plan 10 = .ok (.putfield 78, 3) := dc_of dtX7_plan_0_0_ok (i := 6) rfl
theorem dX7_plan_13 : decode cX7_plan 13 = .ok (.aload_n 0, 1) := dc_of dtX7_plan_0_0_ok (i := 7) rfl
theorem dX7_plan_14 : decode cX7_plan 14 = .ok (.iconst 0, 1) := dc_of dtX7_plan_0_0_ok (i := 8) rfl
theorem dX7_plan_15 : decode cX7_plan 15 = .ok (.putfield 71, 3) := dc_of dtX7_plan_0_0_ok (i := 9) rfl
theorem dX7_plan_18 : decode cX7_plan 18 = .ok (.aload_n 0, 1) := dc_of dtX7_plan_0_0_ok (i := 10) rfl
theorem dX7_plan_19 : decode cX7_plan 19 = .ok (.getfield 78, 3) := dc_of dtX7_plan_0_0_ok (i := 11) rfl
theorem dX7_plan_22 : decode cX7_plan 22 = .ok (.sipush 900, 3) := dc_of dtX7_plan_0_0_ok (i := 12) rfl
theorem dX7_plan_25 : decode cX7_plan 25 = .ok (.if_icmp .le 5, 3) := dc_of dtX7_plan_0_0_ok (i := 13) rfl
theorem dX7_plan_28 : decode cX7_plan 28 = .ok (.iconst (-1), 1) := dc_of dtX7_plan_0_0_ok (i := 14) rfl
theorem dX7_plan_29 : decode cX7_plan 29 = .ok (.ireturn, 1) := dc_of dtX7_plan_0_0_ok (i := 15) rfl
theorem dX7_plan_30 : decode cX7_plan 30 = .ok (.aload_n 0, 1) := dc_of dtX7_plan_0_0_ok (i := 16) rfl
theorem dX7_plan_31 : decode cX7_plan 31 = .ok (.iconst 0, 1) := dc_of dtX7_plan_0_0_ok (i := 17) rfl
theorem dX7_plan_32 : decode cX7_plan 32 = .ok (.putfield 184, 3) := dc_of dtX7_plan_0_0_ok (i := 18) rfl
theorem dX7_plan_35 : decode cX7_plan 35 = .ok (.aload_n 0, 1) := dc_of dtX7_plan_0_0_ok (i := 19) rfl
theorem dX7_plan_36 : decode cX7_plan 36 = .ok (.iconst 0, 1) := dc_of dtX7_plan_0_0_ok (i := 20) rfl
theorem dX7_plan_37 : decode cX7_plan 37 = .ok (.putfield 81, 3) := dc_of dtX7_plan_0_0_ok (i := 21) rfl
theorem dX7_plan_40 : decode cX7_plan 40 = .ok (.aload_n 0, 1) := dc_of dtX7_plan_0_0_ok (i := 22) rfl
theorem dX7_plan_41 : decode cX7_plan 41 = .ok (.iconst 0, 1) := dc_of dtX7_plan_0_0_ok (i := 23) rfl
theorem dX7_plan_42 : decode cX7_plan 42 = .ok (.putfield 84, 3) := dc_of dtX7_plan_0_0_ok (i := 24) rfl
theorem dX7_plan_45 : decode cX7_plan 45 = .ok (.iconst 0, 1) := dc_of dtX7_plan_0_0_ok (i := 25) rfl
theorem dX7_plan_46 : decode cX7_plan 46 = .ok (.istore_n 1, 1) := dc_of dtX7_plan_0_0_ok (i := 26) rfl
theorem dX7_plan_47 : decode cX7_plan 47 = .ok (.aload_n 0, 1) := dc_of dtX7_plan_0_0_ok (i := 27) rfl
theorem dX7_plan_48 : decode cX7_plan 48 = .ok (.invokevirtual 137, 3) := dc_of dtX7_plan_0_0_ok (i := 28) rfl
theorem dX7_plan_51 : decode cX7_plan 51 = .ok (.aload_n 0, 1) := dc_of dtX7_plan_0_0_ok (i := 29) rfl
theorem dX7_plan_52 : decode cX7_plan 52 = .ok (.getfield 81, 3) := dc_of dtX7_plan_0_0_ok (i := 30) rfl
theorem dX7_plan_55 : decode cX7_plan 55 = .ok (.ifCond .ne 76, 3) := dc_of dtX7_plan_0_0_ok (i := 31) rfl
def dtX7_plan_58_1 : List (Nat × Instr × Nat) := [(58, .aload_n 0, 1), (59, .getfield 94, 3), (62, .ifCond .eq 69, 3), (65, .aload_n 0, 1), (66, .ldc 144, 2), (68, .invokevirtual 140, 3), (71, .ifCond .eq 11, 3), (74, .aload_n 0, 1), (75, .iload_n 1, 1), (76, .invokevirtual 250, 3), (79, .goto 26, 3), (82, .aload_n 0, 1), (83, .ldc 146, 2), (85, .invokevirtual 140, 3), (88, .ifCond .eq 12, 3), (91, .iconst 1, 1), (92, .istore_n 1, 1), (93, .aload_n 0, 1), (94, .invokevirtual 254, 3), (97, .goto 8, 3), (100, .aload_n 0, 1), (101, .iconst 1, 1), (102, .invokevirtual 134, 3), (105, .aload_n 0, 1), (106, .bipush 59, 2), (108, .invokevirtual 226, 3), (111, .aload_n 0, 1), (112, .getfield 81, 3), (115, .ifCond .ne (-64), 3), (118, .aload_n 0, 1), (119, .dup, 1), (120, .getfield 184, 3)]
theorem dtX7_plan_58_1_ok : dcAll cX7_plan dtX7_plan_58_1 = true := by decide +kernel
theorem dX7_plan_58 : decode cX7_plan 58 = .ok (.aload_n 0, 1) := dc_of dtX7_plan_58_1_ok (i := 0) rfl
theorem dX7_plan_59 : decode cX7_plan 59 = .ok (.getfield 94, 3) := dc_of dtX7_plan_58_1_ok (i := 1) rfl
theorem dX7_plan_62 : decode cX7_plan 62 = .ok (.ifCond .eq 69, 3) := dc_of dtX7_plan_58_1_ok (i := 2) rfl
theorem dX7_plan_65 : decode cX7_plan 65 = .ok (.aload_n 0, 1) := dc_of dtX7_plan_58_1_ok (i := 3) rfl
theorem dX7_plan_66 : decode cX7_plan 66 = .ok (.ldc 144, 2) := dc_of dtX7_plan_58_1_ok (i := 4) rfl
theorem dX7_plan_68 : decode cX7_plan 68 = .ok (.invokevirtual 140, 3) := dc_of dtX7_plan_58_1_ok (i := 5) rfl
theorem dX7_plan_71 : decode cX7_plan 71 = .ok (.ifCond .eq 11, 3) := dc_of dtX7_plan_58_1_ok (i := 6) rfl
theorem dX7_plan_74 : decode cX7_plan 74 = .ok (.aload_n 0, 1) := dc_of dtX7_plan_58_1_ok (i := 7) rfl
theorem dX7_plan_75 : decode cX7_plan 75 = .ok (.iload_n 1, 1) := dc_of dtX7_plan_58_1_ok (i := 8) rfl
theorem dX7_plan_76 : decode cX7_plan 76 = .ok (.invokevirtual 250, 3) := dc_of dtX7_plan_58_1_ok (i := 9) rfl
theorem dX7_plan_79 : decode cX7_plan 79 = .ok (.goto 26, 3) := dc_of dtX7_plan_58_1_ok (i := 10) rfl
theorem dX7_plan_82 : decode cX7_plan 82 = .ok (.aload_n 0, 1) := dc_of dtX7_plan_58_1_ok (i := 11) rfl
theorem dX7_plan_83 : decode cX7_plan 83 = .ok (.ldc 146, 2) := dc_of dtX7_plan_58_1_ok (i := 12) rfl
theorem dX7_plan_85 : decode cX7_plan 85 = .ok (.invokevirtual 140, 3) := dc_of dtX7_plan_58_1_ok (i := 13) rfl
theorem dX7_plan_88 : decode cX7_plan 88 = .ok (.ifCond .eq 12, 3) := dc_of dtX7_plan_58_1_ok (i := 14) rfl
theorem dX7_plan_91 : decode cX7_plan 91 = .ok (.iconst 1, 1) := dc_of dtX7_plan_58_1_ok (i := 15) rfl
theorem dX7_plan_92 : decode cX7_plan 92 = .ok (.istore_n 1, 1) := dc_of dtX7_plan_58_1_ok (i := 16) rfl
theorem dX7_plan_93 : decode cX7_plan 93 = .ok (.aload_n 0, 1) := dc_of dtX7_plan_58_1_ok (i := 17) rfl
theorem dX7_plan_94 : decode cX7_plan 94 = .ok (.invokevirtual 254, 3) := dc_of dtX7_plan_58_1_ok (i := 18) rfl
theorem dX7_plan_97 : decode cX7_plan 97 = .ok (.goto 8, 3) := dc_of dtX7_plan_58_1_ok (i := 19) rfl
theorem dX7_plan_100 : decode cX7_plan 100 = .ok (.aload_n 0, 1) := dc_of dtX7_plan_58_1_ok (i := 20) rfl
theorem dX7_plan_101 : decode cX7_plan 101 = .ok (.iconst 1, 1) := dc_of dtX7_plan_58_1_ok (i := 21) rfl
theorem dX7_plan_102 : decode cX7_plan 102 = .ok (.invokevirtual 134, 3) := dc_of dtX7_plan_58_1_ok (i := 22) rfl
theorem dX7_plan_105 : decode cX7_plan 105 = .ok (.aload_n 0, 1) := dc_of dtX7_plan_58_1_ok (i := 23) rfl
theorem dX7_plan_106 : decode cX7_plan 106 = .ok (.bipush 59, 2) := dc_of dtX7_plan_58_1_ok (i := 24) rfl
theorem dX7_plan_108 : decode cX7_plan 108 = .ok (.invokevirtual 226, 3) := dc_of dtX7_plan_58_1_ok (i := 25) rfl
theorem dX7_plan_111 : decode cX7_plan 111 = .ok (.aload_n 0, 1) := dc_of dtX7_plan_58_1_ok (i := 26) rfl
theorem dX7_plan_112 : decode cX7_plan 112 = .ok (.getfield 81, 3) := dc_of dtX7_plan_58_1_ok (i := 27) rfl
theorem dX7_plan_115 : decode cX7_plan 115 = .ok (.ifCond .ne (-64), 3) := dc_of dtX7_plan_58_1_ok (i := 28) rfl
theorem dX7_plan_118 : decode cX7_plan 118 = .ok (.aload_n 0, 1) := dc_of dtX7_plan_58_1_ok (i := 29) rfl
theorem dX7_plan_119 : decode cX7_plan 119 = .ok (.dup, 1) := dc_of dtX7_plan_58_1_ok (i := 30) rfl
theorem dX7_plan_120 : decode cX7_plan 120 = .ok (.getfield 184, 3) := dc_of dtX7_plan_58_1_ok (i := 31) rfl
def dtX7_plan_123_2 : List (Nat × Instr × Nat) := [(123, .iconst 1, 1), (124, .iadd, 1), (125, .putfield 184, 3), (128, .goto (-77), 3), (131, .aload_n 0, 1), (132, .getfield 81, 3), (135, .ifCond .le 11, 3), (138, .bipush (-2), 2), (140, .aload_n 0, 1), (141, .getfield 81, 3), (144, .isub, 1), (145, .ireturn, 1), (146, .aload_n 0, 1), (147, .aload_n 0, 1), (148, .getfield 184, 3), (151, .putfield 64, 3), (154, .iconst 0, 1), (155, .istore_n 2, 1), (156, .iload_n 2, 1), (157, .sipush 640, 3), (160, .if_icmp .ge 21, 3), (163, .aload_n 0, 1), (164, .getfield 7, 3), (167, .iload_n 2, 1), (168, .aload_n 0, 1), (169, .getfield 17, 3), (172, .iload_n 2, 1), (173, .iaload, 1), (174, .iastore, 1), (175, .iinc 2 1, 3), (178, .goto (-22), 3), (181, .iconst 0, 1)]
theorem dtX7_plan_123_2_ok : dcAll cX7_plan dtX7_plan_123_2 = true := by decide +kernel
theorem dX7_plan_123 : decode cX7_plan 123 = .ok (.iconst 1, 1) := dc_of dtX7_plan_123_2_ok (i := 0) rfl
theorem dX7_plan_124 : decode cX7_plan 124 = .ok (.iadd, 1) := dc_of dtX7_plan_123_2_ok (i := 1) rfl
theorem dX7_plan_125 : decode cX7_plan 125 = .ok (.putfield 184, 3) := dc_of dtX7_plan_123_2_ok (i := 2) rfl
theorem dX7_plan_128 : decode cX7_plan 128 = .ok (.goto (-77), 3) := dc_of dtX7_plan_123_2_ok (i := 3) rfl
theorem dX7_plan_131 : decode cX7_plan 131 = .ok (.aload_n 0, 1) := dc_of dtX7_plan_123_2_ok (i := 4) rfl
theorem dX7_plan_132 : decode cX7_plan 132 = .ok (.getfield 81, 3) := dc_of dtX7_plan_123_2_ok (i := 5) rfl
theorem dX7_plan_135 : decode cX7_plan 135 = .ok (.ifCond .le 11, 3) := dc_of dtX7_plan_123_2_ok (i := 6) rfl
theorem dX7_plan_138 : decode cX7_plan 138 = .ok (.bipush (-2), 2) := dc_of dtX7_plan_123_2_ok (i := 7) rfl
theorem dX7_plan_140 : decode cX7_plan 140 = .ok (.aload_n 0, 1) := dc_of dtX7_plan_123_2_ok (i := 8) rfl
theorem dX7_plan_141 : decode cX7_plan 141 = .ok (.getfield 81, 3) := dc_of dtX7_plan_123_2_ok (i := 9) rfl
theorem dX7_plan_144 : decode cX7_plan 144 = .ok (.isub, 1) := dc_of dtX7_plan_123_2_ok (i := 10) rfl
theorem dX7_plan_145 : decode cX7_plan 145 = .ok (.ireturn, 1) := dc_of dtX7_plan_123_2_ok (i := 11) rfl
theorem dX7_plan_146 : decode cX7_plan 146 = .ok (.aload_n 0, 1) := dc_of dtX7_plan_123_2_ok (i := 12) rfl
theorem dX7_plan_147 : decode cX7_plan 147 = .ok (.aload_n 0, 1) := dc_of dtX7_plan_123_2_ok (i := 13) rfl
theorem dX7_plan_148 : decode cX7_plan 148 = .ok (.getfield 184, 3) := dc_of dtX7_plan_123_2_ok (i := 14) rfl
theorem dX7_plan_151 : decode cX7_plan 151 = .ok (.putfield 64, 3) := dc_of dtX7_plan_123_2_ok (i := 15) rfl
theorem dX7_plan_154 : decode cX7_plan 154 = .ok (.iconst 0, 1) := dc_of dtX7_plan_123_2_ok (i := 16) rfl
theorem dX7_plan_155 : decode cX7_plan 155 = .ok (.istore_n 2, 1) := dc_of dtX7_plan_123_2_ok (i := 17) rfl
theorem dX7_plan_156 : decode cX7_plan 156 = .ok (.iload_n 2, 1) := dc_of dtX7_plan_123_2_ok (i := 18) rfl
theorem dX7_plan_157 : decode cX7_plan 157 = .ok (.sipush 640, 3) := dc_of dtX7_plan_123_2_ok (i := 19) rfl
theorem dX7_plan_160 : decode cX7_plan 160 = .ok (.if_icmp .ge 21, 3) := dc_of dtX7_plan_123_2_ok (i := 20) rfl
theorem dX7_plan_163 : decode cX7_plan 163 = .ok (.aload_n 0, 1) := dc_of dtX7_plan_123_2_ok (i := 21) rfl
theorem dX7_plan_164 : decode cX7_plan 164 = .ok (.getfield 7, 3) := dc_of dtX7_plan_123_2_ok (i := 22) rfl
theorem dX7_plan_167 : decode cX7_plan 167 = .ok (.iload_n 2, 1) := dc_of dtX7_plan_123_2_ok (i := 23) rfl
theorem dX7_plan_168 : decode cX7_plan 168 = .ok (.aload_n 0, 1) := dc_of dtX7_plan_123_2_ok (i := 24) rfl
theorem dX7_plan_169 : decode cX7_plan 169 = .ok (.getfield 17, 3) := dc_of dtX7_plan_123_2_ok (i := 25) rfl
theorem dX7_plan_172 : decode cX7_plan 172 = .ok (.iload_n 2, 1) := dc_of dtX7_plan_123_2_ok (i := 26) rfl
theorem dX7_plan_173 : decode cX7_plan 173 = .ok (.iaload, 1) := dc_of dtX7_plan_123_2_ok (i := 27) rfl
theorem dX7_plan_174 : decode cX7_plan 174 = .ok (.iastore, 1) := dc_of dtX7_plan_123_2_ok (i := 28) rfl
theorem dX7_plan_175 : decode cX7_plan 175 = .ok (.iinc 2 1, 3) := dc_of dtX7_plan_123_2_ok (i := 29) rfl
theorem dX7_plan_178 : decode cX7_plan 178 = .ok (.goto (-22), 3) := dc_of dtX7_plan_123_2_ok (i := 30) rfl
theorem dX7_plan_181 : decode cX7_plan 181 = .ok (.iconst 0, 1) := dc_of dtX7_plan_123_2_ok (i := 31) rfl
def dtX7_plan_182_3 : List (Nat × Instr × Nat) := [(182, .istore_n 2, 1), (183, .iload_n 2, 1), (184, .bipush 16, 2), (186, .if_icmp .ge 21, 3), (189, .aload_n 0, 1), (190, .getfield 13, 3), (193, .iload_n 2, 1), (194, .aload_n 0, 1), (195, .getfield 20, 3), (198, .iload_n 2, 1), (199, .laload, 1), (200, .lastore, 1), (201, .iinc 2 1, 3), (204, .goto (-21), 3), (207, .iconst 0, 1), (208, .istore_n 2, 1), (209, .iload_n 2, 1), (210, .sipush 176, 3), (213, .if_icmp .ge 16, 3), (216, .aload_n 0, 1), (217, .getfield 27, 3), (220, .iload_n 2, 1), (221, .iconst 0, 1), (222, .iastore, 1), (223, .iinc 2 1, 3), (226, .goto (-17), 3), (229, .iconst 0, 1), (230, .istore_n 2, 1), (231, .iload_n 2, 1), (232, .bipush 16, 2), (234, .if_icmp .ge 18, 3), (237, .aload_n 0, 1)]
theorem dtX7_plan_182_3_ok : dcAll cX7_plan dtX7_plan_182_3 = true := by decide +kernel
theorem dX7_plan_182 : decode cX7_plan 182 = .ok (.istore_n 2, 1) := dc_of dtX7_plan_182_3_ok (i := 0) rfl
theorem dX7_plan_183 : decode cX7_plan 183 = .ok (.iload_n 2, 1) := dc_of dtX7_plan_182_3_ok (i := 1) rfl
theorem dX7_plan_184 : decode cX7_plan 184 = .ok (.bipush 16, 2) := dc_of dtX7_plan_182_3_ok (i := 2) rfl
theorem dX7_plan_186 : decode cX7_plan 186 = .ok (.if_icmp .ge 21, 3) := dc_of dtX7_plan_182_3_ok (i := 3) rfl
theorem dX7_plan_189 : decode cX7_plan 189 = .ok (.aload_n 0, 1) := dc_of dtX7_plan_182_3_ok (i := 4) rfl
theorem dX7_plan_190 : decode cX7_plan 190 = .ok (.getfield 13, 3) := dc_of dtX7_plan_182_3_ok (i := 5) rfl
theorem dX7_plan_193 : decode cX7_plan 193 = .ok (.iload_n 2, 1) := dc_of dtX7_plan_182_3_ok (i := 6) rfl
theorem dX7_plan_194 : decode cX7_plan 194 = .ok (.aload_n 0, 1) := dc_of dtX7_plan_182_3_ok (i := 7) rfl
theorem dX7_plan_195 : decode cX7_plan 195 = .ok (.getfield 20, 3) := dc_of dtX7_plan_182_3_ok (i := 8) rfl
theorem dX7_plan_198 : decode cX7_plan 198 = .ok (.iload_n 2, 1) := dc_of dtX7_plan_182_3_ok (i := 9) rfl
theorem dX7_plan_199 : decode cX7_plan 199 = .ok (.laload, 1) := dc_of dtX7_plan_182_3_ok (i := 10) rfl
theorem dX7_plan_200 : decode cX7_plan 200 = .ok (.lastore, 1) := dc_of dtX7_plan_182_3_ok (i := 11) rfl
theorem dX7_plan_201 : decode cX7_plan 201 = .ok (.iinc 2 1, 3) := dc_of dtX7_plan_182_3_ok (i := 12) rfl
theorem dX7_plan_204 : decode cX7_plan 204 = .ok (.goto (-21), 3) := dc_of dtX7_plan_182_3_ok (i := 13) rfl
theorem dX7_plan_207 : decode cX7_plan 207 = .ok (.iconst 0, 1) := dc_of dtX7_plan_182_3_ok (i := 14) rfl
theorem dX7_plan_208 : decode cX7_plan 208 = .ok (.istore_n 2, 1) := dc_of dtX7_plan_182_3_ok (i := 15) rfl
theorem dX7_plan_209 : decode cX7_plan 209 = .ok (.iload_n 2, 1) := dc_of dtX7_plan_182_3_ok (i := 16) rfl
theorem dX7_plan_210 : decode cX7_plan 210 = .ok (.sipush 176, 3) := dc_of dtX7_plan_182_3_ok (i := 17) rfl
theorem dX7_plan_213 : decode cX7_plan 213 = .ok (.if_icmp .ge 16, 3) := dc_of dtX7_plan_182_3_ok (i := 18) rfl
theorem dX7_plan_216 : decode cX7_plan 216 = .ok (.aload_n 0, 1) := dc_of dtX7_plan_182_3_ok (i := 19) rfl
theorem dX7_plan_217 : decode cX7_plan 217 = .ok (.getfield 27, 3) := dc_of dtX7_plan_182_3_ok (i := 20) rfl
theorem dX7_plan_220 : decode cX7_plan 220 = .ok (.iload_n 2, 1) := dc_of dtX7_plan_182_3_ok (i := 21) rfl
theorem dX7_plan_221 : decode cX7_plan 221 = .ok (.iconst 0, 1) := dc_of dtX7_plan_182_3_ok (i := 22) rfl
theorem dX7_plan_222 : decode cX7_plan 222 = .ok (.iastore, 1) := dc_of dtX7_plan_182_3_ok (i := 23) rfl
theorem dX7_plan_223 : decode cX7_plan 223 = .ok (.iinc 2 1, 3) := dc_of dtX7_plan_182_3_ok (i := 24) rfl
theorem dX7_plan_226 : decode cX7_plan 226 = .ok (.goto (-17), 3) := dc_of dtX7_plan_182_3_ok (i := 25) rfl
theorem dX7_plan_229 : decode cX7_plan 229 = .ok (.iconst 0, 1) := dc_of dtX7_plan_182_3_ok (i := 26) rfl
theorem dX7_plan_230 : decode cX7_plan 230 = .ok (.istore_n 2, 1) := dc_of dtX7_plan_182_3_ok (i := 27) rfl
theorem dX7_plan_231 : decode cX7_plan 231 = .ok (.iload_n 2, 1) := dc_of dtX7_plan_182_3_ok (i := 28) rfl
theorem dX7_plan_232 : decode cX7_plan 232 = .ok (.bipush 16, 2) := dc_of dtX7_plan_182_3_ok (i := 29) rfl
theorem dX7_plan_234 : decode cX7_plan 234 = .ok (.if_icmp .ge 18, 3) := dc_of dtX7_plan_182_3_ok (i := 30) rfl
theorem dX7_plan_237 : decode cX7_plan 237 = .ok (.aload_n 0, 1) := dc_of dtX7_plan_182_3_ok (i := 31) rfl
def dtX7_plan_238_4 : List (Nat × Instr × Nat) := [(238, .getfield 51, 3), (241, .iconst 0, 1), (242, .iload_n 2, 1), (243, .iadd, 1), (244, .iconst 0, 1), (245, .iastore, 1), (246, .iinc 2 1, 3), (249, .goto (-18), 3), (252, .aload_n 0, 1), (253, .iconst 0, 1), (254, .putfield 257, 3), (257, .aload_n 0, 1), (258, .iconst 0, 1), (259, .putfield 260, 3), (262, .aload_n 0, 1), (263, .iconst 0, 1), (264, .putfield 263, 3), (267, .aload_n 0, 1), (268, .iconst 0, 1), (269, .putfield 266, 3), (272, .aload_n 0, 1), (273, .getfield 64, 3), (276, .ireturn, 1)]
theorem dtX7_plan_238_4_ok : dcAll cX7_plan dtX7_plan_238_4 = true := by decide +kernel
theorem dX7_plan_238 : decode cX7_plan 238 = .ok (.getfield 51, 3) := dc_of dtX7_plan_238_4_ok (i := 0) rfl
theorem dX7_plan_241 : decode cX7_plan 241 = .ok (.iconst 0, 1) := dc_of dtX7_plan_238_4_ok (i := 1) rfl
theorem dX7_plan_242 : decode cX7_plan 242 = .ok (.iload_n 2, 1) := dc_of dtX7_plan_238_4_ok (i := 2) rfl
theorem dX7_plan_243 : decode cX7_plan 243 = .ok (.iadd, 1) := dc_of dtX7_plan_238_4_ok (i := 3) rfl
theorem dX7_plan_244 : decode cX7_plan 244 = .ok (.iconst 0, 1) := dc_of dtX7_plan_238_4_ok (i := 4) rfl
theorem dX7_plan_245 : decode cX7_plan 245 = .ok (.iastore, 1) := dc_of dtX7_plan_238_4_ok (i := 5) rfl
theorem dX7_plan_246 : decode cX7_plan 246 = .ok (.iinc 2 1, 3) := dc_of dtX7_plan_238_4_ok (i := 6) rfl
theorem dX7_plan_249 : decode cX7_plan 249 = .ok (.goto (-18), 3) := dc_of dtX7_plan_238_4_ok (i := 7) rfl
theorem dX7_plan_252 : decode cX7_plan 252 = .ok (.aload_n 0, 1) := dc_of dtX7_plan_238_4_ok (i := 8) rfl
theorem dX7_plan_253 : decode cX7_plan 253 = .ok (.iconst 0, 1) := dc_of dtX7_plan_238_4_ok (i := 9) rfl
theorem dX7_plan_254 : decode cX7_plan 254 = .ok (.putfield 257, 3) := dc_of dtX7_plan_238_4_ok (i := 10) rfl
theorem dX7_plan_257 : decode cX7_plan 257 = .ok (.aload_n 0, 1) := dc_of dtX7_plan_238_4_ok (i := 11) rfl
theorem dX7_plan_258 : decode cX7_plan 258 = .ok (.iconst 0, 1) := dc_of dtX7_plan_238_4_ok (i := 12) rfl
theorem dX7_plan_259 : decode cX7_plan 259 = .ok (.putfield 260, 3) := dc_of dtX7_plan_238_4_ok (i := 13) rfl
theorem dX7_plan_262 : decode cX7_plan 262 = .ok (.aload_n 0, 1) := dc_of dtX7_plan_238_4_ok (i := 14) rfl
theorem dX7_plan_263 : decode cX7_plan 263 = .ok (.iconst 0, 1) := dc_of dtX7_plan_238_4_ok (i := 15) rfl
theorem dX7_plan_264 : decode cX7_plan 264 = .ok (.putfield 263, 3) := dc_of dtX7_plan_238_4_ok (i := 16) rfl
theorem dX7_plan_267 : decode cX7_plan 267 = .ok (.aload_n 0, 1) := dc_of dtX7_plan_238_4_ok (i := 17) rfl
theorem dX7_plan_268 : decode cX7_plan 268 = .ok (.iconst 0, 1) := dc_of dtX7_plan_238_4_ok (i := 18) rfl
theorem dX7_plan_269 : decode cX7_plan 269 = .ok (.putfield 266, 3) := dc_of dtX7_plan_238_4_ok (i := 19) rfl
theorem dX7_plan_272 : decode cX7_plan 272 = .ok (.aload_n 0, 1) := dc_of dtX7_plan_238_4_ok (i := 20) rfl
theorem dX7_plan_273 : decode cX7_plan 273 = .ok (.getfield 64, 3) := dc_of dtX7_plan_238_4_ok (i := 21) rfl
theorem dX7_plan_276 : decode cX7_plan 276 = .ok (.ireturn, 1) := dc_of dtX7_plan_238_4_ok (i := 22) rfl
def dtX7_compare_0_0 : List (Nat × Instr × Nat) := [(0, .iconst 0, 1), (1, .istore 4, 2), (3, .iload 4, 2), (5, .iconst 4, 1), (6, .if_icmp .ge 45, 3), (9, .aload_n 0, 1), (10, .iload_n 1, 1), (11, .iload 4, 2), (13, .iadd, 1), (14, .iaload, 1), (15, .aload_n 2, 1), (16, .iload_n 3, 1), (17, .iload 4, 2), (19, .iadd, 1), (20, .iaload, 1), (21, .if_icmp .eq 24, 3), (24, .aload_n 0, 1), (25, .iload_n 1, 1), (26, .iload 4, 2), (28, .iadd, 1), (29, .iaload, 1), (30, .aload_n 2, 1), (31, .iload_n 3, 1), (32, .iload 4, 2), (34, .iadd, 1), (35, .iaload, 1), (36, .if_icmp .ge 7, 3), (39, .iconst (-1), 1), (40, .goto 4, 3), (43, .iconst 1, 1), (44, .ireturn, 1), (45, .iinc 4 1, 3)]
theorem dtX7_compare_0_0_ok : dcAll cX7_compare dtX7_compare_0_0 = true := by decide +kernel
theorem dX7_compare_0 : decode cX7_compare 0 = .ok (.iconst 0, 1) := dc_of dtX7_compare_0_0_ok (i := 0) rfl
theorem dX7_compare_1 : decode cX7_compare 1 = .ok (.istore 4, 2) := dc_of dtX7_compare_0_0_ok (i := 1) rfl
theorem dX7_compare_3 : decode cX7_compare 3 = .ok (.iload 4, 2) := dc_of dtX7_compare_0_0_ok (i := 2) rfl
theorem dX7_compare_5 : decode cX7_compare 5 = .ok (.iconst 4, 1) := dc_of dtX7_compare_0_0_ok (i := 3) rfl
theorem dX7_compare_6 : decode cX7_compare 6 = .ok (.if_icmp .ge 45, 3) := dc_of dtX7_compare_0_0_ok (i := 4) rfl
theorem dX7_compare_9 : decode cX7_compare 9 = .ok (.aload_n 0, 1) := dc_of dtX7_compare_0_0_ok (i := 5) rfl
theorem dX7_compare_10 : decode cX7_compare 10 = .ok (.iload_n 1, 1) := dc_of dtX7_compare_0_0_ok (i := 6) rfl
theorem dX7_compare_11 : decode cX7_compare 11 = .ok (.iload 4, 2) := dc_of dtX7_compare_0_0_ok (i := 7) rfl
theorem dX7_compare_13 : decode cX7_compare 13 = .ok (.iadd, 1) := dc_of dtX7_compare_0_0_ok (i := 8) rfl
theorem dX7_compare_14 : decode cX7_compare 14 = .ok (.iaload, 1) := dc_of dtX7_compare_0_0_ok (i := 9) rfl
theorem dX7_compare_15 : decode cX7_compare 15 = .ok (.aload_n 2, 1) := dc_of dtX7_compare_0_0_ok (i := 10) rfl
theorem dX7_compare_16 : decode cX7_compare 16 = .ok (.iload_n 3, 1) := dc_of dtX7_compare_0_0_ok (i := 11) rfl
theorem dX7_compare_17 : decode cX7_compare 17 = .ok (.iload 4, 2) := dc_of dtX7_compare_0_0_ok (i := 12) rfl
theorem dX7_compare_19 : decode cX7_compare 19 = .ok (.iadd, 1) := dc_of dtX7_compare_0_0_ok (i := 13) rfl
theorem dX7_compare_20 : decode cX7_compare 20 = .ok (.iaload, 1) := dc_of dtX7_compare_0_0_ok (i := 14) rfl
theorem dX7_compare_21 : decode cX7_compare 21 = .ok (.if_icmp .eq 24, 3) := dc_of dtX7_compare_0_0_ok (i := 15) rfl
theorem dX7_compare_24 : decode cX7_compare 24 = .ok (.aload_n 0, 1) := dc_of dtX7_compare_0_0_ok (i := 16) rfl
theorem dX7_compare_25 : decode cX7_compare 25 = .ok (.iload_n 1, 1) := dc_of dtX7_compare_0_0_ok (i := 17) rfl
theorem dX7_compare_26 : decode cX7_compare 26 = .ok (.iload 4, 2) := dc_of dtX7_compare_0_0_ok (i := 18) rfl
theorem dX7_compare_28 : decode cX7_compare 28 = .ok (.iadd, 1) := dc_of dtX7_compare_0_0_ok (i := 19) rfl
theorem dX7_compare_29 : decode cX7_compare 29 = .ok (.iaload, 1) := dc_of dtX7_compare_0_0_ok (i := 20) rfl
theorem dX7_compare_30 : decode cX7_compare 30 = .ok (.aload_n 2, 1) := dc_of dtX7_compare_0_0_ok (i := 21) rfl
theorem dX7_compare_31 : decode cX7_compare 31 = .ok (.iload_n 3, 1) := dc_of dtX7_compare_0_0_ok (i := 22) rfl
theorem dX7_compare_32 : decode cX7_compare 32 = .ok (.iload 4, 2) := dc_of dtX7_compare_0_0_ok (i := 23) rfl
theorem dX7_compare_34 : decode cX7_compare 34 = .ok (.iadd, 1) := dc_of dtX7_compare_0_0_ok (i := 24) rfl
theorem dX7_compare_35 : decode cX7_compare 35 = .ok (.iaload, 1) := dc_of dtX7_compare_0_0_ok (i := 25) rfl
theorem dX7_compare_36 : decode cX7_compare 36 = .ok (.if_icmp .ge 7, 3) := dc_of dtX7_compare_0_0_ok (i := 26) rfl
theorem dX7_compare_39 : decode cX7_compare 39 = .ok (.iconst (-1), 1) := dc_of dtX7_compare_0_0_ok (i := 27) rfl
theorem dX7_compare_40 : decode cX7_compare 40 = .ok (.goto 4, 3) := dc_of dtX7_compare_0_0_ok (i := 28) rfl
theorem dX7_compare_43 : decode cX7_compare 43 = .ok (.iconst 1, 1) := dc_of dtX7_compare_0_0_ok (i := 29) rfl
theorem dX7_compare_44 : decode cX7_compare 44 = .ok (.ireturn, 1) := dc_of dtX7_compare_0_0_ok (i := 30) rfl
theorem dX7_compare_45 : decode cX7_compare 45 = .ok (.iinc 4 1, 3) := dc_of dtX7_compare_0_0_ok (i := 31) rfl
def dtX7_compare_48_1 : List (Nat × Instr × Nat) := [(48, .goto (-45), 3), (51, .iconst 0, 1), (52, .ireturn, 1)]
theorem dtX7_compare_48_1_ok : dcAll cX7_compare dtX7_compare_48_1 = true := by decide +kernel
theorem dX7_compare_48 : decode cX7_compare 48 = .ok (.goto (-45), 3) := dc_of dtX7_compare_48_1_ok (i := 0) rfl
theorem dX7_compare_51 : decode cX7_compare 51 = .ok (.iconst 0, 1) := dc_of dtX7_compare_48_1_ok (i := 1) rfl
theorem dX7_compare_52 : decode cX7_compare 52 = .ok (.ireturn, 1) := dc_of dtX7_compare_48_1_ok (i := 2) rfl
def dtX7_placeOf_0_0 : List (Nat × Instr × Nat) := [(0, .iconst 0, 1), (1, .istore_n 1, 1), (2, .aload_n 0, 1), (3, .getfield 269, 3), (6, .istore_n 2, 1), (7, .iload_n 1, 1), (8, .iload_n 2, 1), (9, .if_icmp .ge 40, 3), (12, .iload_n 1, 1), (13, .iload_n 2, 1), (14, .iadd, 1), (15, .iconst 2, 1), (16, .idiv, 1), (17, .istore_n 3, 1), (18, .aload_n 0, 1), (19, .getfield 42, 3), (22, .bipush 6, 2), (24, .iload_n 3, 1), (25, .imul, 1), (26, .aload_n 0, 1), (27, .getfield 45, 3), (30, .iconst 0, 1), (31, .invokestatic 272, 3), (34, .ifCond .ge 10, 3), (37, .iload_n 3, 1), (38, .iconst 1, 1), (39, .iadd, 1), (40, .istore_n 1, 1), (41, .goto 5, 3), (44, .iload_n 3, 1), (45, .istore_n 2, 1), (46, .goto (-39), 3)]
theorem dtX7_placeOf_0_0_ok : dcAll cX7_placeOf dtX7_placeOf_0_0 = true := by decide +kernel
theorem dX7_placeOf_0 : decode cX7_placeOf 0 = .ok (.iconst 0, 1) := dc_of dtX7_placeOf_0_0_ok (i := 0) rfl
theorem dX7_placeOf_1 : decode cX7_placeOf 1 = .ok (.istore_n 1, 1) := dc_of dtX7_placeOf_0_0_ok (i := 1) rfl
theorem dX7_placeOf_2 : decode cX7_placeOf 2 = .ok (.aload_n 0, 1) := dc_of dtX7_placeOf_0_0_ok (i := 2) rfl
theorem dX7_placeOf_3 : decode cX7_placeOf 3 = .ok (.getfield 269, 3) := dc_of dtX7_placeOf_0_0_ok (i := 3) rfl
theorem dX7_placeOf_6 : decode cX7_placeOf 6 = .ok (.istore_n 2, 1) := dc_of dtX7_placeOf_0_0_ok (i := 4) rfl
theorem dX7_placeOf_7 : decode cX7_placeOf 7 = .ok (.iload_n 1, 1) := dc_of dtX7_placeOf_0_0_ok (i := 5) rfl
theorem dX7_placeOf_8 : decode cX7_placeOf 8 = .ok (.iload_n 2, 1) := dc_of dtX7_placeOf_0_0_ok (i := 6) rfl
theorem dX7_placeOf_9 : decode cX7_placeOf 9 = .ok (.if_icmp .ge 40, 3) := dc_of dtX7_placeOf_0_0_ok (i := 7) rfl
theorem dX7_placeOf_12 : decode cX7_placeOf 12 = .ok (.iload_n 1, 1) := dc_of dtX7_placeOf_0_0_ok (i := 8) rfl
theorem dX7_placeOf_13 : decode cX7_placeOf 13 = .ok (.iload_n 2, 1) := dc_of dtX7_placeOf_0_0_ok (i := 9) rfl
theorem dX7_placeOf_14 : decode cX7_placeOf 14 = .ok (.iadd, 1) := dc_of dtX7_placeOf_0_0_ok (i := 10) rfl
theorem dX7_placeOf_15 : decode cX7_placeOf 15 = .ok (.iconst 2, 1) := dc_of dtX7_placeOf_0_0_ok (i := 11) rfl
theorem dX7_placeOf_16 : decode cX7_placeOf 16 = .ok (.idiv, 1) := dc_of dtX7_placeOf_0_0_ok (i := 12) rfl
theorem dX7_placeOf_17 : decode cX7_placeOf 17 = .ok (.istore_n 3, 1) := dc_of dtX7_placeOf_0_0_ok (i := 13) rfl
theorem dX7_placeOf_18 : decode cX7_placeOf 18 = .ok (.aload_n 0, 1) := dc_of dtX7_placeOf_0_0_ok (i := 14) rfl
theorem dX7_placeOf_19 : decode cX7_placeOf 19 = .ok (.getfield 42, 3) := dc_of dtX7_placeOf_0_0_ok (i := 15) rfl
theorem dX7_placeOf_22 : decode cX7_placeOf 22 = .ok (.bipush 6, 2) := dc_of dtX7_placeOf_0_0_ok (i := 16) rfl
theorem dX7_placeOf_24 : decode cX7_placeOf 24 = .ok (.iload_n 3, 1) := dc_of dtX7_placeOf_0_0_ok (i := 17) rfl
theorem dX7_placeOf_25 : decode cX7_placeOf 25 = .ok (.imul, 1) := dc_of dtX7_placeOf_0_0_ok (i := 18) rfl
theorem dX7_placeOf_26 : decode cX7_placeOf 26 = .ok (.aload_n 0, 1) := dc_of dtX7_placeOf_0_0_ok (i := 19) rfl
theorem dX7_placeOf_27 : decode cX7_placeOf 27 = .ok (.getfield 45, 3) := dc_of dtX7_placeOf_0_0_ok (i := 20) rfl
theorem dX7_placeOf_30 : decode cX7_placeOf 30 = .ok (.iconst 0, 1) := dc_of dtX7_placeOf_0_0_ok (i := 21) rfl
theorem dX7_placeOf_31 : decode cX7_placeOf 31 = .ok (.invokestatic 272, 3) := dc_of dtX7_placeOf_0_0_ok (i := 22) rfl
theorem dX7_placeOf_34 : decode cX7_placeOf 34 = .ok (.ifCond .ge 10, 3) := dc_of dtX7_placeOf_0_0_ok (i := 23) rfl
theorem dX7_placeOf_37 : decode cX7_placeOf 37 = .ok (.iload_n 3, 1) := dc_of dtX7_placeOf_0_0_ok (i := 24) rfl
theorem dX7_placeOf_38 : decode cX7_placeOf 38 = .ok (.iconst 1, 1) := dc_of dtX7_placeOf_0_0_ok (i := 25) rfl
theorem dX7_placeOf_39 : decode cX7_placeOf 39 = .ok (.iadd, 1) := dc_of dtX7_placeOf_0_0_ok (i := 26) rfl
theorem dX7_placeOf_40 : decode cX7_placeOf 40 = .ok (.istore_n 1, 1) := dc_of dtX7_placeOf_0_0_ok (i := 27) rfl
theorem dX7_placeOf_41 : decode cX7_placeOf 41 = .ok (.goto 5, 3) := dc_of dtX7_placeOf_0_0_ok (i := 28) rfl
theorem dX7_placeOf_44 : decode cX7_placeOf 44 = .ok (.iload_n 3, 1) := dc_of dtX7_placeOf_0_0_ok (i := 29) rfl
theorem dX7_placeOf_45 : decode cX7_placeOf 45 = .ok (.istore_n 2, 1) := dc_of dtX7_placeOf_0_0_ok (i := 30) rfl
theorem dX7_placeOf_46 : decode cX7_placeOf 46 = .ok (.goto (-39), 3) := dc_of dtX7_placeOf_0_0_ok (i := 31) rfl
def dtX7_placeOf_49_1 : List (Nat × Instr × Nat) := [(49, .iload_n 1, 1), (50, .ireturn, 1)]
theorem dtX7_placeOf_49_1_ok : dcAll cX7_placeOf dtX7_placeOf_49_1 = true := by decide +kernel
theorem dX7_placeOf_49 : decode cX7_placeOf 49 = .ok (.iload_n 1, 1) := dc_of dtX7_placeOf_49_1_ok (i := 0) rfl
theorem dX7_placeOf_50 : decode cX7_placeOf 50 = .ok (.ireturn, 1) := dc_of dtX7_placeOf_49_1_ok (i := 1) rfl
def dtX7_gathers_0_0 : List (Nat × Instr × Nat) := [(0, .aload_n 0, 1), (1, .invokevirtual 276, 3), (4, .istore_n 3, 1), (5, .iload_n 3, 1), (6, .aload_n 0, 1), (7, .getfield 269, 3), (10, .if_icmp .ge 39, 3), (13, .aload_n 0, 1), (14, .getfield 42, 3), (17, .bipush 6, 2), (19, .iload_n 3, 1), (20, .imul, 1), (21, .aload_n 0, 1), (22, .getfield 45, 3), (25, .iconst 0, 1), (26, .invokestatic 272, 3), (29, .ifCond .ne 20, 3), (32, .aload_n 0, 1), (33, .getfield 42, 3), (36, .bipush 6, 2), (38, .iload_n 3, 1), (39, .imul, 1), (40, .iconst 4, 1), (41, .iadd, 1), (42, .dup2, 1), (43, .iaload, 1), (44, .iload_n 1, 1), (45, .iadd, 1), (46, .iastore, 1), (47, .iconst 0, 1), (48, .ireturn, 1), (49, .bipush 6, 2)]
theorem dtX7_gathers_0_0_ok : dcAll cX7_gathers dtX7_gathers_0_0 = true := by decide +kernel
theorem dX7_gathers_0 : decode cX7_gathers 0 = .ok (.aload_n 0, 1) := dc_of dtX7_gathers_0_0_ok (i := 0) rfl
theorem dX7_gathers_1 : decode cX7_gathers 1 = .ok (.invokevirtual 276, 3) := dc_of dtX7_gathers_0_0_ok (i := 1) rfl
theorem dX7_gathers_4 : decode cX7_gathers 4 = .ok (.istore_n 3, 1) := dc_of dtX7_gathers_0_0_ok (i := 2) rfl
theorem dX7_gathers_5 : decode cX7_gathers 5 = .ok (.iload_n 3, 1) := dc_of dtX7_gathers_0_0_ok (i := 3) rfl
theorem dX7_gathers_6 : decode cX7_gathers 6 = .ok (.aload_n 0, 1) := dc_of dtX7_gathers_0_0_ok (i := 4) rfl
theorem dX7_gathers_7 : decode cX7_gathers 7 = .ok (.getfield 269, 3) := dc_of dtX7_gathers_0_0_ok (i := 5) rfl
theorem dX7_gathers_10 : decode cX7_gathers 10 = .ok (.if_icmp .ge 39, 3) := dc_of dtX7_gathers_0_0_ok (i := 6) rfl
theorem dX7_gathers_13 : decode cX7_gathers 13 = .ok (.aload_n 0, 1) := dc_of dtX7_gathers_0_0_ok (i := 7) rfl
theorem dX7_gathers_14 : decode cX7_gathers 14 = .ok (.getfield 42, 3) := dc_of dtX7_gathers_0_0_ok (i := 8) rfl
theorem dX7_gathers_17 : decode cX7_gathers 17 = .ok (.bipush 6, 2) := dc_of dtX7_gathers_0_0_ok (i := 9) rfl
theorem dX7_gathers_19 : decode cX7_gathers 19 = .ok (.iload_n 3, 1) := dc_of dtX7_gathers_0_0_ok (i := 10) rfl
theorem dX7_gathers_20 : decode cX7_gathers 20 = .ok (.imul, 1) := dc_of dtX7_gathers_0_0_ok (i := 11) rfl
theorem dX7_gathers_21 : decode cX7_gathers 21 = .ok (.aload_n 0, 1) := dc_of dtX7_gathers_0_0_ok (i := 12) rfl
theorem dX7_gathers_22 : decode cX7_gathers 22 = .ok (.getfield 45, 3) := dc_of dtX7_gathers_0_0_ok (i := 13) rfl
theorem dX7_gathers_25 : decode cX7_gathers 25 = .ok (.iconst 0, 1) := dc_of dtX7_gathers_0_0_ok (i := 14) rfl
theorem dX7_gathers_26 : decode cX7_gathers 26 = .ok (.invokestatic 272, 3) := dc_of dtX7_gathers_0_0_ok (i := 15) rfl
theorem dX7_gathers_29 : decode cX7_gathers 29 = .ok (.ifCond .ne 20, 3) := dc_of dtX7_gathers_0_0_ok (i := 16) rfl
theorem dX7_gathers_32 : decode cX7_gathers 32 = .ok (.aload_n 0, 1) := dc_of dtX7_gathers_0_0_ok (i := 17) rfl
theorem dX7_gathers_33 : decode cX7_gathers 33 = .ok (.getfield 42, 3) := dc_of dtX7_gathers_0_0_ok (i := 18) rfl
theorem dX7_gathers_36 : decode cX7_gathers 36 = .ok (.bipush 6, 2) := dc_of dtX7_gathers_0_0_ok (i := 19) rfl
theorem dX7_gathers_38 : decode cX7_gathers 38 = .ok (.iload_n 3, 1) := dc_of dtX7_gathers_0_0_ok (i := 20) rfl
theorem dX7_gathers_39 : decode cX7_gathers 39 = .ok (.imul, 1) := dc_of dtX7_gathers_0_0_ok (i := 21) rfl
theorem dX7_gathers_40 : decode cX7_gathers 40 = .ok (.iconst 4, 1) := dc_of dtX7_gathers_0_0_ok (i := 22) rfl
theorem dX7_gathers_41 : decode cX7_gathers 41 = .ok (.iadd, 1) := dc_of dtX7_gathers_0_0_ok (i := 23) rfl
theorem dX7_gathers_42 : decode cX7_gathers 42 = .ok (.dup2, 1) := dc_of dtX7_gathers_0_0_ok (i := 24) rfl
theorem dX7_gathers_43 : decode cX7_gathers 43 = .ok (.iaload, 1) := dc_of dtX7_gathers_0_0_ok (i := 25) rfl
theorem dX7_gathers_44 : decode cX7_gathers 44 = .ok (.iload_n 1, 1) := dc_of dtX7_gathers_0_0_ok (i := 26) rfl
theorem dX7_gathers_45 : decode cX7_gathers 45 = .ok (.iadd, 1) := dc_of dtX7_gathers_0_0_ok (i := 27) rfl
theorem dX7_gathers_46 : decode cX7_gathers 46 = .ok (.iastore, 1) := dc_of dtX7_gathers_0_0_ok (i := 28) rfl
theorem dX7_gathers_47 : decode cX7_gathers 47 = .ok (.iconst 0, 1) := dc_of dtX7_gathers_0_0_ok (i := 29) rfl
theorem dX7_gathers_48 : decode cX7_gathers 48 = .ok (.ireturn, 1) := dc_of dtX7_gathers_0_0_ok (i := 30) rfl
theorem dX7_gathers_49 : decode cX7_gathers 49 = .ok (.bipush 6, 2) := dc_of dtX7_gathers_0_0_ok (i := 31) rfl
def dtX7_gathers_51_1 : List (Nat × Instr × Nat) := [(51, .aload_n 0, 1), (52, .getfield 269, 3), (55, .imul, 1), (56, .iconst 1, 1), (57, .isub, 1), (58, .istore 4, 2), (60, .iload 4, 2), (62, .bipush 6, 2), (64, .iload_n 3, 1), (65, .imul, 1), (66, .if_icmp .lt 26, 3), (69, .aload_n 0, 1), (70, .getfield 42, 3), (73, .iload 4, 2), (75, .bipush 6, 2), (77, .iadd, 1), (78, .aload_n 0, 1), (79, .getfield 42, 3), (82, .iload 4, 2), (84, .iaload, 1), (85, .iastore, 1), (86, .iinc 4 (-1), 3), (89, .goto (-29), 3), (92, .iconst 0, 1), (93, .istore 4, 2), (95, .iload 4, 2), (97, .iconst 4, 1), (98, .if_icmp .ge 28, 3), (101, .aload_n 0, 1), (102, .getfield 42, 3), (105, .bipush 6, 2), (107, .iload_n 3, 1)]
theorem dtX7_gathers_51_1_ok : dcAll cX7_gathers dtX7_gathers_51_1 = true := by decide +kernel
theorem dX7_gathers_51 : decode cX7_gathers 51 = .ok (.aload_n 0, 1) := dc_of dtX7_gathers_51_1_ok (i := 0) rfl
theorem dX7_gathers_52 : decode cX7_gathers 52 = .ok (.getfield 269, 3) := dc_of dtX7_gathers_51_1_ok (i := 1) rfl
theorem dX7_gathers_55 : decode cX7_gathers 55 = .ok (.imul, 1) := dc_of dtX7_gathers_51_1_ok (i := 2) rfl
theorem dX7_gathers_56 : decode cX7_gathers 56 = .ok (.iconst 1, 1) := dc_of dtX7_gathers_51_1_ok (i := 3) rfl
theorem dX7_gathers_57 : decode cX7_gathers 57 = .ok (.isub, 1) := dc_of dtX7_gathers_51_1_ok (i := 4) rfl
theorem dX7_gathers_58 : decode cX7_gathers 58 = .ok (.istore 4, 2) := dc_of dtX7_gathers_51_1_ok (i := 5) rfl
theorem dX7_gathers_60 : decode cX7_gathers 60 = .ok (.iload 4, 2) := dc_of dtX7_gathers_51_1_ok (i := 6) rfl
theorem dX7_gathers_62 : decode cX7_gathers 62 = .ok (.bipush 6, 2) := dc_of dtX7_gathers_51_1_ok (i := 7) rfl
theorem dX7_gathers_64 : decode cX7_gathers 64 = .ok (.iload_n 3, 1) := dc_of dtX7_gathers_51_1_ok (i := 8) rfl
theorem dX7_gathers_65 : decode cX7_gathers 65 = .ok (.imul, 1) := dc_of dtX7_gathers_51_1_ok (i := 9) rfl
theorem dX7_gathers_66 : decode cX7_gathers 66 = .ok (.if_icmp .lt 26, 3) := dc_of dtX7_gathers_51_1_ok (i := 10) rfl
theorem dX7_gathers_69 : decode cX7_gathers 69 = .ok (.aload_n 0, 1) := dc_of dtX7_gathers_51_1_ok (i := 11) rfl
theorem dX7_gathers_70 : decode cX7_gathers 70 = .ok (.getfield 42, 3) := dc_of dtX7_gathers_51_1_ok (i := 12) rfl
theorem dX7_gathers_73 : decode cX7_gathers 73 = .ok (.iload 4, 2) := dc_of dtX7_gathers_51_1_ok (i := 13) rfl
theorem dX7_gathers_75 : decode cX7_gathers 75 = .ok (.bipush 6, 2) := dc_of dtX7_gathers_51_1_ok (i := 14) rfl
theorem dX7_gathers_77 : decode cX7_gathers 77 = .ok (.iadd, 1) := dc_of dtX7_gathers_51_1_ok (i := 15) rfl
theorem dX7_gathers_78 : decode cX7_gathers 78 = .ok (.aload_n 0, 1) := dc_of dtX7_gathers_51_1_ok (i := 16) rfl
theorem dX7_gathers_79 : decode cX7_gathers 79 = .ok (.getfield 42, 3) := dc_of dtX7_gathers_51_1_ok (i := 17) rfl
theorem dX7_gathers_82 : decode cX7_gathers 82 = .ok (.iload 4, 2) := dc_of dtX7_gathers_51_1_ok (i := 18) rfl
theorem dX7_gathers_84 : decode cX7_gathers 84 = .ok (.iaload, 1) := dc_of dtX7_gathers_51_1_ok (i := 19) rfl
theorem dX7_gathers_85 : decode cX7_gathers 85 = .ok (.iastore, 1) := dc_of dtX7_gathers_51_1_ok (i := 20) rfl
theorem dX7_gathers_86 : decode cX7_gathers 86 = .ok (.iinc 4 (-1), 3) := dc_of dtX7_gathers_51_1_ok (i := 21) rfl
theorem dX7_gathers_89 : decode cX7_gathers 89 = .ok (.goto (-29), 3) := dc_of dtX7_gathers_51_1_ok (i := 22) rfl
theorem dX7_gathers_92 : decode cX7_gathers 92 = .ok (.iconst 0, 1) := dc_of dtX7_gathers_51_1_ok (i := 23) rfl
theorem dX7_gathers_93 : decode cX7_gathers 93 = .ok (.istore 4, 2) := dc_of dtX7_gathers_51_1_ok (i := 24) rfl
theorem dX7_gathers_95 : decode cX7_gathers 95 = .ok (.iload 4, 2) := dc_of dtX7_gathers_51_1_ok (i := 25) rfl
theorem dX7_gathers_97 : decode cX7_gathers 97 = .ok (.iconst 4, 1) := dc_of dtX7_gathers_51_1_ok (i := 26) rfl
theorem dX7_gathers_98 : decode cX7_gathers 98 = .ok (.if_icmp .ge 28, 3) := dc_of dtX7_gathers_51_1_ok (i := 27) rfl
theorem dX7_gathers_101 : decode cX7_gathers 101 = .ok (.aload_n 0, 1) := dc_of dtX7_gathers_51_1_ok (i := 28) rfl
theorem dX7_gathers_102 : decode cX7_gathers 102 = .ok (.getfield 42, 3) := dc_of dtX7_gathers_51_1_ok (i := 29) rfl
theorem dX7_gathers_105 : decode cX7_gathers 105 = .ok (.bipush 6, 2) := dc_of dtX7_gathers_51_1_ok (i := 30) rfl
theorem dX7_gathers_107 : decode cX7_gathers 107 = .ok (.iload_n 3, 1) := dc_of dtX7_gathers_51_1_ok (i := 31) rfl
def dtX7_gathers_108_2 : List (Nat × Instr × Nat) := [(108, .imul, 1), (109, .iload 4, 2), (111, .iadd, 1), (112, .aload_n 0, 1), (113, .getfield 45, 3), (116, .iload 4, 2), (118, .iaload, 1), (119, .iastore, 1), (120, .iinc 4 1, 3), (123, .goto (-28), 3), (126, .aload_n 0, 1), (127, .getfield 42, 3), (130, .bipush 6, 2), (132, .iload_n 3, 1), (133, .imul, 1), (134, .iconst 4, 1), (135, .iadd, 1), (136, .iload_n 1, 1), (137, .iastore, 1), (138, .aload_n 0, 1), (139, .getfield 42, 3), (142, .bipush 6, 2), (144, .iload_n 3, 1), (145, .imul, 1), (146, .iconst 5, 1), (147, .iadd, 1), (148, .iload_n 2, 1), (149, .iastore, 1), (150, .aload_n 0, 1), (151, .dup, 1), (152, .getfield 269, 3), (155, .iconst 1, 1)]
theorem dtX7_gathers_108_2_ok : dcAll cX7_gathers dtX7_gathers_108_2 = true := by decide +kernel
theorem dX7_gathers_108 : decode cX7_gathers 108 = .ok (.imul, 1) := dc_of dtX7_gathers_108_2_ok (i := 0) rfl
theorem dX7_gathers_109 : decode cX7_gathers 109 = .ok (.iload 4, 2) := dc_of dtX7_gathers_108_2_ok (i := 1) rfl
theorem dX7_gathers_111 : decode cX7_gathers 111 = .ok (.iadd, 1) := dc_of dtX7_gathers_108_2_ok (i := 2) rfl
theorem dX7_gathers_112 : decode cX7_gathers 112 = .ok (.aload_n 0, 1) := dc_of dtX7_gathers_108_2_ok (i := 3) rfl
theorem dX7_gathers_113 : decode cX7_gathers 113 = .ok (.getfield 45, 3) := dc_of dtX7_gathers_108_2_ok (i := 4) rfl
theorem dX7_gathers_116 : decode cX7_gathers 116 = .ok (.iload 4, 2) := dc_of dtX7_gathers_108_2_ok (i := 5) rfl
theorem dX7_gathers_118 : decode cX7_gathers 118 = .ok (.iaload, 1) := dc_of dtX7_gathers_108_2_ok (i := 6) rfl
theorem dX7_gathers_119 : decode cX7_gathers 119 = .ok (.iastore, 1) := dc_of dtX7_gathers_108_2_ok (i := 7) rfl
theorem dX7_gathers_120 : decode cX7_gathers 120 = .ok (.iinc 4 1, 3) := dc_of dtX7_gathers_108_2_ok (i := 8) rfl
theorem dX7_gathers_123 : decode cX7_gathers 123 = .ok (.goto (-28), 3) := dc_of dtX7_gathers_108_2_ok (i := 9) rfl
theorem dX7_gathers_126 : decode cX7_gathers 126 = .ok (.aload_n 0, 1) := dc_of dtX7_gathers_108_2_ok (i := 10) rfl
theorem dX7_gathers_127 : decode cX7_gathers 127 = .ok (.getfield 42, 3) := dc_of dtX7_gathers_108_2_ok (i := 11) rfl
theorem dX7_gathers_130 : decode cX7_gathers 130 = .ok (.bipush 6, 2) := dc_of dtX7_gathers_108_2_ok (i := 12) rfl
theorem dX7_gathers_132 : decode cX7_gathers 132 = .ok (.iload_n 3, 1) := dc_of dtX7_gathers_108_2_ok (i := 13) rfl
theorem dX7_gathers_133 : decode cX7_gathers 133 = .ok (.imul, 1) := dc_of dtX7_gathers_108_2_ok (i := 14) rfl
theorem dX7_gathers_134 : decode cX7_gathers 134 = .ok (.iconst 4, 1) := dc_of dtX7_gathers_108_2_ok (i := 15) rfl
theorem dX7_gathers_135 : decode cX7_gathers 135 = .ok (.iadd, 1) := dc_of dtX7_gathers_108_2_ok (i := 16) rfl
theorem dX7_gathers_136 : decode cX7_gathers 136 = .ok (.iload_n 1, 1) := dc_of dtX7_gathers_108_2_ok (i := 17) rfl
theorem dX7_gathers_137 : decode cX7_gathers 137 = .ok (.iastore, 1) := dc_of dtX7_gathers_108_2_ok (i := 18) rfl
theorem dX7_gathers_138 : decode cX7_gathers 138 = .ok (.aload_n 0, 1) := dc_of dtX7_gathers_108_2_ok (i := 19) rfl
theorem dX7_gathers_139 : decode cX7_gathers 139 = .ok (.getfield 42, 3) := dc_of dtX7_gathers_108_2_ok (i := 20) rfl
theorem dX7_gathers_142 : decode cX7_gathers 142 = .ok (.bipush 6, 2) := dc_of dtX7_gathers_108_2_ok (i := 21) rfl
theorem dX7_gathers_144 : decode cX7_gathers 144 = .ok (.iload_n 3, 1) := dc_of dtX7_gathers_108_2_ok (i := 22) rfl
theorem dX7_gathers_145 : decode cX7_gathers 145 = .ok (.imul, 1) := dc_of dtX7_gathers_108_2_ok (i := 23) rfl
theorem dX7_gathers_146 : decode cX7_gathers 146 = .ok (.iconst 5, 1) := dc_of dtX7_gathers_108_2_ok (i := 24) rfl
theorem dX7_gathers_147 : decode cX7_gathers 147 = .ok (.iadd, 1) := dc_of dtX7_gathers_108_2_ok (i := 25) rfl
theorem dX7_gathers_148 : decode cX7_gathers 148 = .ok (.iload_n 2, 1) := dc_of dtX7_gathers_108_2_ok (i := 26) rfl
theorem dX7_gathers_149 : decode cX7_gathers 149 = .ok (.iastore, 1) := dc_of dtX7_gathers_108_2_ok (i := 27) rfl
theorem dX7_gathers_150 : decode cX7_gathers 150 = .ok (.aload_n 0, 1) := dc_of dtX7_gathers_108_2_ok (i := 28) rfl
theorem dX7_gathers_151 : decode cX7_gathers 151 = .ok (.dup, 1) := dc_of dtX7_gathers_108_2_ok (i := 29) rfl
theorem dX7_gathers_152 : decode cX7_gathers 152 = .ok (.getfield 269, 3) := dc_of dtX7_gathers_108_2_ok (i := 30) rfl
theorem dX7_gathers_155 : decode cX7_gathers 155 = .ok (.iconst 1, 1) := dc_of dtX7_gathers_108_2_ok (i := 31) rfl
def dtX7_gathers_156_3 : List (Nat × Instr × Nat) := [(156, .iadd, 1), (157, .putfield 269, 3), (160, .iconst 1, 1), (161, .ireturn, 1)]
theorem dtX7_gathers_156_3_ok : dcAll cX7_gathers dtX7_gathers_156_3 = true := by decide +kernel
theorem dX7_gathers_156 : decode cX7_gathers 156 = .ok (.iadd, 1) := dc_of dtX7_gathers_156_3_ok (i := 0) rfl
theorem dX7_gathers_157 : decode cX7_gathers 157 = .ok (.putfield 269, 3) := dc_of dtX7_gathers_156_3_ok (i := 1) rfl
theorem dX7_gathers_160 : decode cX7_gathers 160 = .ok (.iconst 1, 1) := dc_of dtX7_gathers_156_3_ok (i := 2) rfl
theorem dX7_gathers_161 : decode cX7_gathers 161 = .ok (.ireturn, 1) := dc_of dtX7_gathers_156_3_ok (i := 3) rfl
def dtX7_lays_0_0 : List (Nat × Instr × Nat) := [(0, .iconst 0, 1), (1, .istore_n 3, 1), (2, .iconst 0, 1), (3, .istore 4, 2), (5, .iload 4, 2), (7, .aload_n 0, 1), (8, .getfield 269, 3), (11, .if_icmp .ge 27, 3), (14, .aload_n 0, 1), (15, .getfield 42, 3), (18, .bipush 6, 2), (20, .iload 4, 2), (22, .imul, 1), (23, .iconst 4, 1), (24, .iadd, 1), (25, .iaload, 1), (26, .ifCond .eq 6, 3), (29, .iinc 3 1, 3), (32, .iinc 4 1, 3), (35, .goto (-30), 3), (38, .iload_n 3, 1), (39, .bipush 120, 2), (41, .if_icmp .le 6, 3), (44, .bipush (-3), 2), (46, .ireturn, 1), (47, .iload_n 1, 1), (48, .iload_n 2, 1), (49, .iconst 0, 1), (50, .invokestatic 279, 3), (53, .istore 4, 2), (55, .iconst 0, 1), (56, .istore 5, 2)]
theorem dtX7_lays_0_0_ok : dcAll cX7_lays dtX7_lays_0_0 = true := by decide +kernel
theorem dX7_lays_0 : decode cX7_lays 0 = .ok (.iconst 0, 1) := dc_of dtX7_lays_0_0_ok (i := 0) rfl
theorem dX7_lays_1 : decode cX7_lays 1 = .ok (.istore_n 3, 1) := dc_of dtX7_lays_0_0_ok (i := 1) rfl
theorem dX7_lays_2 : decode cX7_lays 2 = .ok (.iconst 0, 1) := dc_of dtX7_lays_0_0_ok (i := 2) rfl
theorem dX7_lays_3 : decode cX7_lays 3 = .ok (.istore 4, 2) := dc_of dtX7_lays_0_0_ok (i := 3) rfl
theorem dX7_lays_5 : decode cX7_lays 5 = .ok (.iload 4, 2) := dc_of dtX7_lays_0_0_ok (i := 4) rfl
theorem dX7_lays_7 : decode cX7_lays 7 = .ok (.aload_n 0, 1) := dc_of dtX7_lays_0_0_ok (i := 5) rfl
theorem dX7_lays_8 : decode cX7_lays 8 = .ok (.getfield 269, 3) := dc_of dtX7_lays_0_0_ok (i := 6) rfl
theorem dX7_lays_11 : decode cX7_lays 11 = .ok (.if_icmp .ge 27, 3) := dc_of dtX7_lays_0_0_ok (i := 7) rfl
theorem dX7_lays_14 : decode cX7_lays 14 = .ok (.aload_n 0, 1) := dc_of dtX7_lays_0_0_ok (i := 8) rfl
theorem dX7_lays_15 : decode cX7_lays 15 = .ok (.getfield 42, 3) := dc_of dtX7_lays_0_0_ok (i := 9) rfl
theorem dX7_lays_18 : decode cX7_lays 18 = .ok (.bipush 6, 2) := dc_of dtX7_lays_0_0_ok (i := 10) rfl
theorem dX7_lays_20 : decode cX7_lays 20 = .ok (.iload 4, 2) := dc_of dtX7_lays_0_0_ok (i := 11) rfl
theorem dX7_lays_22 : decode cX7_lays 22 = .ok (.imul, 1) := dc_of dtX7_lays_0_0_ok (i := 12) rfl
theorem dX7_lays_23 : decode cX7_lays 23 = .ok (.iconst 4, 1) := dc_of dtX7_lays_0_0_ok (i := 13) rfl
theorem dX7_lays_24 : decode cX7_lays 24 = .ok (.iadd, 1) := dc_of dtX7_lays_0_0_ok (i := 14) rfl
theorem dX7_lays_25 : decode cX7_lays 25 = .ok (.iaload, 1) := dc_of dtX7_lays_0_0_ok (i := 15) rfl
theorem dX7_lays_26 : decode cX7_lays 26 = .ok (.ifCond .eq 6, 3) := dc_of dtX7_lays_0_0_ok (i := 16) rfl
theorem dX7_lays_29 : decode cX7_lays 29 = .ok (.iinc 3 1, 3) := dc_of dtX7_lays_0_0_ok (i := 17) rfl
theorem dX7_lays_32 : decode cX7_lays 32 = .ok (.iinc 4 1, 3) := dc_of dtX7_lays_0_0_ok (i := 18) rfl
theorem dX7_lays_35 : decode cX7_lays 35 = .ok (.goto (-30), 3) := dc_of dtX7_lays_0_0_ok (i := 19) rfl
theorem dX7_lays_38 : decode cX7_lays 38 = .ok (.iload_n 3, 1) := dc_of dtX7_lays_0_0_ok (i := 20) rfl
theorem dX7_lays_39 : decode cX7_lays 39 = .ok (.bipush 120, 2) := dc_of dtX7_lays_0_0_ok (i := 21) rfl
theorem dX7_lays_41 : decode cX7_lays 41 = .ok (.if_icmp .le 6, 3) := dc_of dtX7_lays_0_0_ok (i := 22) rfl
theorem dX7_lays_44 : decode cX7_lays 44 = .ok (.bipush (-3), 2) := dc_of dtX7_lays_0_0_ok (i := 23) rfl
theorem dX7_lays_46 : decode cX7_lays 46 = .ok (.ireturn, 1) := dc_of dtX7_lays_0_0_ok (i := 24) rfl
theorem dX7_lays_47 : decode cX7_lays 47 = .ok (.iload_n 1, 1) := dc_of dtX7_lays_0_0_ok (i := 25) rfl
theorem dX7_lays_48 : decode cX7_lays 48 = .ok (.iload_n 2, 1) := dc_of dtX7_lays_0_0_ok (i := 26) rfl
theorem dX7_lays_49 : decode cX7_lays 49 = .ok (.iconst 0, 1) := dc_of dtX7_lays_0_0_ok (i := 27) rfl
theorem dX7_lays_50 : decode cX7_lays 50 = .ok (.invokestatic 279, 3) := dc_of dtX7_lays_0_0_ok (i := 28) rfl
theorem dX7_lays_53 : decode cX7_lays 53 = .ok (.istore 4, 2) := dc_of dtX7_lays_0_0_ok (i := 29) rfl
theorem dX7_lays_55 : decode cX7_lays 55 = .ok (.iconst 0, 1) := dc_of dtX7_lays_0_0_ok (i := 30) rfl
theorem dX7_lays_56 : decode cX7_lays 56 = .ok (.istore 5, 2) := dc_of dtX7_lays_0_0_ok (i := 31) rfl
def dtX7_lays_58_1 : List (Nat × Instr × Nat) := [(58, .iload 5, 2), (60, .aload_n 0, 1), (61, .getfield 269, 3), (64, .if_icmp .ge 69, 3), (67, .aload_n 0, 1), (68, .getfield 42, 3), (71, .bipush 6, 2), (73, .iload 5, 2), (75, .imul, 1), (76, .iconst 4, 1), (77, .iadd, 1), (78, .iaload, 1), (79, .ifCond .ne 6, 3), (82, .goto 45, 3), (85, .iconst 0, 1), (86, .istore 6, 2), (88, .iload 6, 2), (90, .bipush 6, 2), (92, .if_icmp .ge 32, 3), (95, .aload_n 0, 1), (96, .getfield 24, 3), (99, .iload 4, 2), (101, .iload 6, 2), (103, .iadd, 1), (104, .aload_n 0, 1), (105, .getfield 42, 3), (108, .bipush 6, 2), (110, .iload 5, 2), (112, .imul, 1), (113, .iload 6, 2), (115, .iadd, 1), (116, .iaload, 1)]
theorem dtX7_lays_58_1_ok : dcAll cX7_lays dtX7_lays_58_1 = true := by decide +kernel
theorem dX7_lays_58 : decode cX7_lays 58 = .ok (.iload 5, 2) := dc_of dtX7_lays_58_1_ok (i := 0) rfl
theorem dX7_lays_60 : decode cX7_lays 60 = .ok (.aload_n 0, 1) := dc_of dtX7_lays_58_1_ok (i := 1) rfl
theorem dX7_lays_61 : decode cX7_lays 61 = .ok (.getfield 269, 3) := dc_of dtX7_lays_58_1_ok (i := 2) rfl
theorem dX7_lays_64 : decode cX7_lays 64 = .ok (.if_icmp .ge 69, 3) := dc_of dtX7_lays_58_1_ok (i := 3) rfl
theorem dX7_lays_67 : decode cX7_lays 67 = .ok (.aload_n 0, 1) := dc_of dtX7_lays_58_1_ok (i := 4) rfl
theorem dX7_lays_68 : decode cX7_lays 68 = .ok (.getfield 42, 3) := dc_of dtX7_lays_58_1_ok (i := 5) rfl
theorem dX7_lays_71 : decode cX7_lays 71 = .ok (.bipush 6, 2) := dc_of dtX7_lays_58_1_ok (i := 6) rfl
theorem dX7_lays_73 : decode cX7_lays 73 = .ok (.iload 5, 2) := dc_of dtX7_lays_58_1_ok (i := 7) rfl
theorem dX7_lays_75 : decode cX7_lays 75 = .ok (.imul, 1) := dc_of dtX7_lays_58_1_ok (i := 8) rfl
theorem dX7_lays_76 : decode cX7_lays 76 = .ok (.iconst 4, 1) := dc_of dtX7_lays_58_1_ok (i := 9) rfl
theorem dX7_lays_77 : decode cX7_lays 77 = .ok (.iadd, 1) := dc_of dtX7_lays_58_1_ok (i := 10) rfl
theorem dX7_lays_78 : decode cX7_lays 78 = .ok (.iaload, 1) := dc_of dtX7_lays_58_1_ok (i := 11) rfl
theorem dX7_lays_79 : decode cX7_lays 79 = .ok (.ifCond .ne 6, 3) := dc_of dtX7_lays_58_1_ok (i := 12) rfl
theorem dX7_lays_82 : decode cX7_lays 82 = .ok (.goto 45, 3) := dc_of dtX7_lays_58_1_ok (i := 13) rfl
theorem dX7_lays_85 : decode cX7_lays 85 = .ok (.iconst 0, 1) := dc_of dtX7_lays_58_1_ok (i := 14) rfl
theorem dX7_lays_86 : decode cX7_lays 86 = .ok (.istore 6, 2) := dc_of dtX7_lays_58_1_ok (i := 15) rfl
theorem dX7_lays_88 : decode cX7_lays 88 = .ok (.iload 6, 2) := dc_of dtX7_lays_58_1_ok (i := 16) rfl
theorem dX7_lays_90 : decode cX7_lays 90 = .ok (.bipush 6, 2) := dc_of dtX7_lays_58_1_ok (i := 17) rfl
theorem dX7_lays_92 : decode cX7_lays 92 = .ok (.if_icmp .ge 32, 3) := dc_of dtX7_lays_58_1_ok (i := 18) rfl
theorem dX7_lays_95 : decode cX7_lays 95 = .ok (.aload_n 0, 1) := dc_of dtX7_lays_58_1_ok (i := 19) rfl
theorem dX7_lays_96 : decode cX7_lays 96 = .ok (.getfield 24, 3) := dc_of dtX7_lays_58_1_ok (i := 20) rfl
theorem dX7_lays_99 : decode cX7_lays 99 = .ok (.iload 4, 2) := dc_of dtX7_lays_58_1_ok (i := 21) rfl
theorem dX7_lays_101 : decode cX7_lays 101 = .ok (.iload 6, 2) := dc_of dtX7_lays_58_1_ok (i := 22) rfl
theorem dX7_lays_103 : decode cX7_lays 103 = .ok (.iadd, 1) := dc_of dtX7_lays_58_1_ok (i := 23) rfl
theorem dX7_lays_104 : decode cX7_lays 104 = .ok (.aload_n 0, 1) := dc_of dtX7_lays_58_1_ok (i := 24) rfl
theorem dX7_lays_105 : decode cX7_lays 105 = .ok (.getfield 42, 3) := dc_of dtX7_lays_58_1_ok (i := 25) rfl
theorem dX7_lays_108 : decode cX7_lays 108 = .ok (.bipush 6, 2) := dc_of dtX7_lays_58_1_ok (i := 26) rfl
theorem dX7_lays_110 : decode cX7_lays 110 = .ok (.iload 5, 2) := dc_of dtX7_lays_58_1_ok (i := 27) rfl
theorem dX7_lays_112 : decode cX7_lays 112 = .ok (.imul, 1) := dc_of dtX7_lays_58_1_ok (i := 28) rfl
theorem dX7_lays_113 : decode cX7_lays 113 = .ok (.iload 6, 2) := dc_of dtX7_lays_58_1_ok (i := 29) rfl
theorem dX7_lays_115 : decode cX7_lays 115 = .ok (.iadd, 1) := dc_of dtX7_lays_58_1_ok (i := 30) rfl
theorem dX7_lays_116 : decode cX7_lays 116 = .ok (.iaload, 1) := dc_of dtX7_lays_58_1_ok (i := 31) rfl
def dtX7_lays_117_2 : List (Nat × Instr × Nat) := [(117, .iastore, 1), (118, .iinc 6 1, 3), (121, .goto (-33), 3), (124, .iinc 4 6, 3), (127, .iinc 5 1, 3), (130, .goto (-72), 3), (133, .aload_n 0, 1), (134, .getfield 27, 3), (137, .bipush 16, 2), (139, .iload_n 1, 1), (140, .imul, 1), (141, .iload_n 2, 1), (142, .iadd, 1), (143, .iload_n 3, 1), (144, .iastore, 1), (145, .iconst 0, 1), (146, .ireturn, 1)]
theorem dtX7_lays_117_2_ok : dcAll cX7_lays dtX7_lays_117_2 = true := by decide +kernel
theorem dX7_lays_117 : decode cX7_lays 117 = .ok (.iastore, 1) := dc_of dtX7_lays_117_2_ok (i := 0) rfl
theorem dX7_lays_118 : decode cX7_lays 118 = .ok (.iinc 6 1, 3) := dc_of dtX7_lays_117_2_ok (i := 1) rfl
theorem dX7_lays_121 : decode cX7_lays 121 = .ok (.goto (-33), 3) := dc_of dtX7_lays_117_2_ok (i := 2) rfl
theorem dX7_lays_124 : decode cX7_lays 124 = .ok (.iinc 4 6, 3) := dc_of dtX7_lays_117_2_ok (i := 3) rfl
theorem dX7_lays_127 : decode cX7_lays 127 = .ok (.iinc 5 1, 3) := dc_of dtX7_lays_117_2_ok (i := 4) rfl
theorem dX7_lays_130 : decode cX7_lays 130 = .ok (.goto (-72), 3) := dc_of dtX7_lays_117_2_ok (i := 5) rfl
theorem dX7_lays_133 : decode cX7_lays 133 = .ok (.aload_n 0, 1) := dc_of dtX7_lays_117_2_ok (i := 6) rfl
theorem dX7_lays_134 : decode cX7_lays 134 = .ok (.getfield 27, 3) := dc_of dtX7_lays_117_2_ok (i := 7) rfl
theorem dX7_lays_137 : decode cX7_lays 137 = .ok (.bipush 16, 2) := dc_of dtX7_lays_117_2_ok (i := 8) rfl
theorem dX7_lays_139 : decode cX7_lays 139 = .ok (.iload_n 1, 1) := dc_of dtX7_lays_117_2_ok (i := 9) rfl
theorem dX7_lays_140 : decode cX7_lays 140 = .ok (.imul, 1) := dc_of dtX7_lays_117_2_ok (i := 10) rfl
theorem dX7_lays_141 : decode cX7_lays 141 = .ok (.iload_n 2, 1) := dc_of dtX7_lays_117_2_ok (i := 11) rfl
theorem dX7_lays_142 : decode cX7_lays 142 = .ok (.iadd, 1) := dc_of dtX7_lays_117_2_ok (i := 12) rfl
theorem dX7_lays_143 : decode cX7_lays 143 = .ok (.iload_n 3, 1) := dc_of dtX7_lays_117_2_ok (i := 13) rfl
theorem dX7_lays_144 : decode cX7_lays 144 = .ok (.iastore, 1) := dc_of dtX7_lays_117_2_ok (i := 14) rfl
theorem dX7_lays_145 : decode cX7_lays 145 = .ok (.iconst 0, 1) := dc_of dtX7_lays_117_2_ok (i := 15) rfl
theorem dX7_lays_146 : decode cX7_lays 146 = .ok (.ireturn, 1) := dc_of dtX7_lays_117_2_ok (i := 16) rfl
def dtX7_takes_0_0 : List (Nat × Instr × Nat) := [(0, .iconst 0, 1), (1, .istore_n 2, 1), (2, .iload_n 2, 1), (3, .iconst 4, 1), (4, .if_icmp .ge 23, 3), (7, .aload_n 0, 1), (8, .getfield 45, 3), (11, .iload_n 2, 1), (12, .aload_n 0, 1), (13, .getfield 24, 3), (16, .iload_n 1, 1), (17, .iload_n 2, 1), (18, .iadd, 1), (19, .iaload, 1), (20, .iastore, 1), (21, .iinc 2 1, 3), (24, .goto (-22), 3), (27, .return_, 1)]
theorem dtX7_takes_0_0_ok : dcAll cX7_takes dtX7_takes_0_0 = true := by decide +kernel
theorem dX7_takes_0 : decode cX7_takes 0 = .ok (.iconst 0, 1) := dc_of dtX7_takes_0_0_ok (i := 0) rfl
theorem dX7_takes_1 : decode cX7_takes 1 = .ok (.istore_n 2, 1) := dc_of dtX7_takes_0_0_ok (i := 1) rfl
theorem dX7_takes_2 : decode cX7_takes 2 = .ok (.iload_n 2, 1) := dc_of dtX7_takes_0_0_ok (i := 2) rfl
theorem dX7_takes_3 : decode cX7_takes 3 = .ok (.iconst 4, 1) := dc_of dtX7_takes_0_0_ok (i := 3) rfl
theorem dX7_takes_4 : decode cX7_takes 4 = .ok (.if_icmp .ge 23, 3) := dc_of dtX7_takes_0_0_ok (i := 4) rfl
theorem dX7_takes_7 : decode cX7_takes 7 = .ok (.aload_n 0, 1) := dc_of dtX7_takes_0_0_ok (i := 5) rfl
theorem dX7_takes_8 : decode cX7_takes 8 = .ok (.getfield 45, 3) := dc_of dtX7_takes_0_0_ok (i := 6) rfl
theorem dX7_takes_11 : decode cX7_takes 11 = .ok (.iload_n 2, 1) := dc_of dtX7_takes_0_0_ok (i := 7) rfl
theorem dX7_takes_12 : decode cX7_takes 12 = .ok (.aload_n 0, 1) := dc_of dtX7_takes_0_0_ok (i := 8) rfl
theorem dX7_takes_13 : decode cX7_takes 13 = .ok (.getfield 24, 3) := dc_of dtX7_takes_0_0_ok (i := 9) rfl
theorem dX7_takes_16 : decode cX7_takes 16 = .ok (.iload_n 1, 1) := dc_of dtX7_takes_0_0_ok (i := 10) rfl
theorem dX7_takes_17 : decode cX7_takes 17 = .ok (.iload_n 2, 1) := dc_of dtX7_takes_0_0_ok (i := 11) rfl
theorem dX7_takes_18 : decode cX7_takes 18 = .ok (.iadd, 1) := dc_of dtX7_takes_0_0_ok (i := 12) rfl
theorem dX7_takes_19 : decode cX7_takes 19 = .ok (.iaload, 1) := dc_of dtX7_takes_0_0_ok (i := 13) rfl
theorem dX7_takes_20 : decode cX7_takes 20 = .ok (.iastore, 1) := dc_of dtX7_takes_0_0_ok (i := 14) rfl
theorem dX7_takes_21 : decode cX7_takes 21 = .ok (.iinc 2 1, 3) := dc_of dtX7_takes_0_0_ok (i := 15) rfl
theorem dX7_takes_24 : decode cX7_takes 24 = .ok (.goto (-22), 3) := dc_of dtX7_takes_0_0_ok (i := 16) rfl
theorem dX7_takes_27 : decode cX7_takes 27 = .ok (.return_, 1) := dc_of dtX7_takes_0_0_ok (i := 17) rfl
def dtX7_holds_0_0 : List (Nat × Instr × Nat) := [(0, .iconst 0, 1), (1, .istore_n 3, 1), (2, .iload_n 3, 1), (3, .aload_n 0, 1), (4, .iload_n 1, 1), (5, .invokevirtual 283, 3), (8, .if_icmp .ge 111, 3), (11, .aload_n 0, 1), (12, .getfield 24, 3), (15, .iload_n 2, 1), (16, .aload_n 0, 1), (17, .iload_n 1, 1), (18, .iload_n 3, 1), (19, .iconst 0, 1), (20, .invokevirtual 286, 3), (23, .iadd, 1), (24, .iaload, 1), (25, .istore 4, 2), (27, .aload_n 0, 1), (28, .iload_n 1, 1), (29, .iload_n 3, 1), (30, .iconst 2, 1), (31, .invokevirtual 286, 3), (34, .iconst 1, 1), (35, .if_icmp .ne 20, 3), (38, .aload_n 0, 1), (39, .getfield 24, 3), (42, .iload_n 2, 1), (43, .aload_n 0, 1), (44, .iload_n 1, 1), (45, .iload_n 3, 1), (46, .iconst 3, 1)]
theorem dtX7_holds_0_0_ok : dcAll cX7_holds dtX7_holds_0_0 = true := by decide +kernel
theorem dX7_holds_0 : decode cX7_holds 0 = .ok (.iconst 0, 1) := dc_of dtX7_holds_0_0_ok (i := 0) rfl
theorem dX7_holds_1 : decode cX7_holds 1 = .ok (.istore_n 3, 1) := dc_of dtX7_holds_0_0_ok (i := 1) rfl
theorem dX7_holds_2 : decode cX7_holds 2 = .ok (.iload_n 3, 1) := dc_of dtX7_holds_0_0_ok (i := 2) rfl
theorem dX7_holds_3 : decode cX7_holds 3 = .ok (.aload_n 0, 1) := dc_of dtX7_holds_0_0_ok (i := 3) rfl
theorem dX7_holds_4 : decode cX7_holds 4 = .ok (.iload_n 1, 1) := dc_of dtX7_holds_0_0_ok (i := 4) rfl
theorem dX7_holds_5 : decode cX7_holds 5 = .ok (.invokevirtual 283, 3) := dc_of dtX7_holds_0_0_ok (i := 5) rfl
theorem dX7_holds_8 : decode cX7_holds 8 = .ok (.if_icmp .ge 111, 3) := dc_of dtX7_holds_0_0_ok (i := 6) rfl
theorem dX7_holds_11 : decode cX7_holds 11 = .ok (.aload_n 0, 1) := dc_of dtX7_holds_0_0_ok (i := 7) rfl
theorem dX7_holds_12 : decode cX7_holds 12 = .ok (.getfield 24, 3) := dc_of dtX7_holds_0_0_ok (i := 8) rfl
theorem dX7_holds_15 : decode cX7_holds 15 = .ok (.iload_n 2, 1) := dc_of dtX7_holds_0_0_ok (i := 9) rfl
theorem dX7_holds_16 : decode cX7_holds 16 = .ok (.aload_n 0, 1) := dc_of dtX7_holds_0_0_ok (i := 10) rfl
theorem dX7_holds_17 : decode cX7_holds 17 = .ok (.iload_n 1, 1) := dc_of dtX7_holds_0_0_ok (i := 11) rfl
theorem dX7_holds_18 : decode cX7_holds 18 = .ok (.iload_n 3, 1) := dc_of dtX7_holds_0_0_ok (i := 12) rfl
theorem dX7_holds_19 : decode cX7_holds 19 = .ok (.iconst 0, 1) := dc_of dtX7_holds_0_0_ok (i := 13) rfl
theorem dX7_holds_20 : decode cX7_holds 20 = .ok (.invokevirtual 286, 3) := dc_of dtX7_holds_0_0_ok (i := 14) rfl
theorem dX7_holds_23 : decode cX7_holds 23 = .ok (.iadd, 1) := dc_of dtX7_holds_0_0_ok (i := 15) rfl
theorem dX7_holds_24 : decode cX7_holds 24 = .ok (.iaload, 1) := dc_of dtX7_holds_0_0_ok (i := 16) rfl
theorem dX7_holds_25 : decode cX7_holds 25 = .ok (.istore 4, 2) := dc_of dtX7_holds_0_0_ok (i := 17) rfl
theorem dX7_holds_27 : decode cX7_holds 27 = .ok (.aload_n 0, 1) := dc_of dtX7_holds_0_0_ok (i := 18) rfl
theorem dX7_holds_28 : decode cX7_holds 28 = .ok (.iload_n 1, 1) := dc_of dtX7_holds_0_0_ok (i := 19) rfl
theorem dX7_holds_29 : decode cX7_holds 29 = .ok (.iload_n 3, 1) := dc_of dtX7_holds_0_0_ok (i := 20) rfl
theorem dX7_holds_30 : decode cX7_holds 30 = .ok (.iconst 2, 1) := dc_of dtX7_holds_0_0_ok (i := 21) rfl
theorem dX7_holds_31 : decode cX7_holds 31 = .ok (.invokevirtual 286, 3) := dc_of dtX7_holds_0_0_ok (i := 22) rfl
theorem dX7_holds_34 : decode cX7_holds 34 = .ok (.iconst 1, 1) := dc_of dtX7_holds_0_0_ok (i := 23) rfl
theorem dX7_holds_35 : decode cX7_holds 35 = .ok (.if_icmp .ne 20, 3) := dc_of dtX7_holds_0_0_ok (i := 24) rfl
theorem dX7_holds_38 : decode cX7_holds 38 = .ok (.aload_n 0, 1) := dc_of dtX7_holds_0_0_ok (i := 25) rfl
theorem dX7_holds_39 : decode cX7_holds 39 = .ok (.getfield 24, 3) := dc_of dtX7_holds_0_0_ok (i := 26) rfl
theorem dX7_holds_42 : decode cX7_holds 42 = .ok (.iload_n 2, 1) := dc_of dtX7_holds_0_0_ok (i := 27) rfl
theorem dX7_holds_43 : decode cX7_holds 43 = .ok (.aload_n 0, 1) := dc_of dtX7_holds_0_0_ok (i := 28) rfl
theorem dX7_holds_44 : decode cX7_holds 44 = .ok (.iload_n 1, 1) := dc_of dtX7_holds_0_0_ok (i := 29) rfl
theorem dX7_holds_45 : decode cX7_holds 45 = .ok (.iload_n 3, 1) := dc_of dtX7_holds_0_0_ok (i := 30) rfl
theorem dX7_holds_46 : decode cX7_holds 46 = .ok (.iconst 3, 1) := dc_of dtX7_holds_0_0_ok (i := 31) rfl
def dtX7_holds_47_1 : List (Nat × Instr × Nat) := [(47, .invokevirtual 286, 3), (50, .iadd, 1), (51, .iaload, 1), (52, .goto 10, 3), (55, .aload_n 0, 1), (56, .iload_n 1, 1), (57, .iload_n 3, 1), (58, .iconst 3, 1), (59, .invokevirtual 286, 3), (62, .istore 5, 2), (64, .aload_n 0, 1), (65, .iload_n 1, 1), (66, .iload_n 3, 1), (67, .iconst 1, 1), (68, .invokevirtual 286, 3), (71, .istore 6, 2), (73, .iload 6, 2), (75, .ifCond .ne 13, 3), (78, .iload 4, 2), (80, .iload 5, 2), (82, .if_icmp .eq 31, 3), (85, .goto 26, 3), (88, .iload 6, 2), (90, .iconst 1, 1), (91, .if_icmp .ne 13, 3), (94, .iload 4, 2), (96, .iload 5, 2), (98, .if_icmp .lt 15, 3), (101, .goto 10, 3), (104, .iload 4, 2), (106, .iload 5, 2), (108, .if_icmp .gt 5, 3)]
theorem dtX7_holds_47_1_ok : dcAll cX7_holds dtX7_holds_47_1 = true := by decide +kernel
theorem dX7_holds_47 : decode cX7_holds 47 = .ok (.invokevirtual 286, 3) := dc_of dtX7_holds_47_1_ok (i := 0) rfl
theorem dX7_holds_50 : decode cX7_holds 50 = .ok (.iadd, 1) := dc_of dtX7_holds_47_1_ok (i := 1) rfl
theorem dX7_holds_51 : decode cX7_holds 51 = .ok (.iaload, 1) := dc_of dtX7_holds_47_1_ok (i := 2) rfl
theorem dX7_holds_52 : decode cX7_holds 52 = .ok (.goto 10, 3) := dc_of dtX7_holds_47_1_ok (i := 3) rfl
theorem dX7_holds_55 : decode cX7_holds 55 = .ok (.aload_n 0, 1) := dc_of dtX7_holds_47_1_ok (i := 4) rfl
theorem dX7_holds_56 : decode cX7_holds 56 = .ok (.iload_n 1, 1) := dc_of dtX7_holds_47_1_ok (i := 5) rfl
theorem dX7_holds_57 : decode cX7_holds 57 = .ok (.iload_n 3, 1) := dc_of dtX7_holds_47_1_ok (i := 6) rfl
theorem dX7_holds_58 : decode cX7_holds 58 = .ok (.iconst 3, 1) := dc_of dtX7_holds_47_1_ok (i := 7) rfl
theorem dX7_holds_59 : decode cX7_holds 59 = .ok (.invokevirtual 286, 3) := dc_of dtX7_holds_47_1_ok (i := 8) rfl
theorem dX7_holds_62 : decode cX7_holds 62 = .ok (.istore 5, 2) := dc_of dtX7_holds_47_1_ok (i := 9) rfl
theorem dX7_holds_64 : decode cX7_holds 64 = .ok (.aload_n 0, 1) := dc_of dtX7_holds_47_1_ok (i := 10) rfl
theorem dX7_holds_65 : decode cX7_holds 65 = .ok (.iload_n 1, 1) := dc_of dtX7_holds_47_1_ok (i := 11) rfl
theorem dX7_holds_66 : decode cX7_holds 66 = .ok (.iload_n 3, 1) := dc_of dtX7_holds_47_1_ok (i := 12) rfl
theorem dX7_holds_67 : decode cX7_holds 67 = .ok (.iconst 1, 1) := dc_of dtX7_holds_47_1_ok (i := 13) rfl
theorem dX7_holds_68 : decode cX7_holds 68 = .ok (.invokevirtual 286, 3) := dc_of dtX7_holds_47_1_ok (i := 14) rfl
theorem dX7_holds_71 : decode cX7_holds 71 = .ok (.istore 6, 2) := dc_of dtX7_holds_47_1_ok (i := 15) rfl
theorem dX7_holds_73 : decode cX7_holds 73 = .ok (.iload 6, 2) := dc_of dtX7_holds_47_1_ok (i := 16) rfl
theorem dX7_holds_75 : decode cX7_holds 75 = .ok (.ifCond .ne 13, 3) := dc_of dtX7_holds_47_1_ok (i := 17) rfl
theorem dX7_holds_78 : decode cX7_holds 78 = .ok (.iload 4, 2) := dc_of dtX7_holds_47_1_ok (i := 18) rfl
theorem dX7_holds_80 : decode cX7_holds 80 = .ok (.iload 5, 2) := dc_of dtX7_holds_47_1_ok (i := 19) rfl
theorem dX7_holds_82 : decode cX7_holds 82 = .ok (.if_icmp .eq 31, 3) := dc_of dtX7_holds_47_1_ok (i := 20) rfl
theorem dX7_holds_85 : decode cX7_holds 85 = .ok (.goto 26, 3) := dc_of dtX7_holds_47_1_ok (i := 21) rfl
theorem dX7_holds_88 : decode cX7_holds 88 = .ok (.iload 6, 2) := dc_of dtX7_holds_47_1_ok (i := 22) rfl
theorem dX7_holds_90 : decode cX7_holds 90 = .ok (.iconst 1, 1) := dc_of dtX7_holds_47_1_ok (i := 23) rfl
theorem dX7_holds_91 : decode cX7_holds 91 = .ok (.if_icmp .ne 13, 3) := dc_of dtX7_holds_47_1_ok (i := 24) rfl
theorem dX7_holds_94 : decode cX7_holds 94 = .ok (.iload 4, 2) := dc_of dtX7_holds_47_1_ok (i := 25) rfl
theorem dX7_holds_96 : decode cX7_holds 96 = .ok (.iload 5, 2) := dc_of dtX7_holds_47_1_ok (i := 26) rfl
theorem dX7_holds_98 : decode cX7_holds 98 = .ok (.if_icmp .lt 15, 3) := dc_of dtX7_holds_47_1_ok (i := 27) rfl
theorem dX7_holds_101 : decode cX7_holds 101 = .ok (.goto 10, 3) := dc_of dtX7_holds_47_1_ok (i := 28) rfl
theorem dX7_holds_104 : decode cX7_holds 104 = .ok (.iload 4, 2) := dc_of dtX7_holds_47_1_ok (i := 29) rfl
theorem dX7_holds_106 : decode cX7_holds 106 = .ok (.iload 5, 2) := dc_of dtX7_holds_47_1_ok (i := 30) rfl
theorem dX7_holds_108 : decode cX7_holds 108 = .ok (.if_icmp .gt 5, 3) := dc_of dtX7_holds_47_1_ok (i := 31) rfl
def dtX7_holds_111_2 : List (Nat × Instr × Nat) := [(111, .iconst 0, 1), (112, .ireturn, 1), (113, .iinc 3 1, 3), (116, .goto (-114), 3), (119, .iconst 1, 1), (120, .ireturn, 1)]
theorem dtX7_holds_111_2_ok : dcAll cX7_holds dtX7_holds_111_2 = true := by decide +kernel
theorem dX7_holds_111 : decode cX7_holds 111 = .ok (.iconst 0, 1) := dc_of dtX7_holds_111_2_ok (i := 0) rfl
theorem dX7_holds_112 : decode cX7_holds 112 = .ok (.ireturn, 1) := dc_of dtX7_holds_111_2_ok (i := 1) rfl
theorem dX7_holds_113 : decode cX7_holds 113 = .ok (.iinc 3 1, 3) := dc_of dtX7_holds_111_2_ok (i := 2) rfl
theorem dX7_holds_116 : decode cX7_holds 116 = .ok (.goto (-114), 3) := dc_of dtX7_holds_111_2_ok (i := 3) rfl
theorem dX7_holds_119 : decode cX7_holds 119 = .ok (.iconst 1, 1) := dc_of dtX7_holds_111_2_ok (i := 4) rfl
theorem dX7_holds_120 : decode cX7_holds 120 = .ok (.ireturn, 1) := dc_of dtX7_holds_111_2_ok (i := 5) rfl
def dtX7_terms_0_0 : List (Nat × Instr × Nat) := [(0, .iconst 0, 1), (1, .istore 4, 2), (3, .iload 4, 2), (5, .iconst 4, 1), (6, .if_icmp .ge 85, 3), (9, .iload 4, 2), (11, .iload_n 3, 1), (12, .if_icmp .lt 14, 3), (15, .aload_n 0, 1), (16, .getfield 45, 3), (19, .iload 4, 2), (21, .iconst 0, 1), (22, .iastore, 1), (23, .goto 62, 3), (26, .aload_n 0, 1), (27, .getfield 45, 3), (30, .iload 4, 2), (32, .aload_n 0, 1), (33, .iload_n 1, 1), (34, .iload_n 2, 1), (35, .iload 4, 2), (37, .iadd, 1), (38, .iconst 0, 1), (39, .invokevirtual 286, 3), (42, .ifCond .ge 16, 3), (45, .aload_n 0, 1), (46, .iload_n 1, 1), (47, .iload_n 2, 1), (48, .iload 4, 2), (50, .iadd, 1), (51, .iconst 1, 1), (52, .invokevirtual 286, 3)]
theorem dtX7_terms_0_0_ok : dcAll cX7_terms dtX7_terms_0_0 = true := by decide +kernel
theorem dX7_terms_0 : decode cX7_terms 0 = .ok (.iconst 0, 1) := dc_of dtX7_terms_0_0_ok (i := 0) rfl
theorem dX7_terms_1 : decode cX7_terms 1 = .ok (.istore 4, 2) := dc_of dtX7_terms_0_0_ok (i := 1) rfl
theorem dX7_terms_3 : decode cX7_terms 3 = .ok (.iload 4, 2) := dc_of dtX7_terms_0_0_ok (i := 2) rfl
theorem dX7_terms_5 : decode cX7_terms 5 = .ok (.iconst 4, 1) := dc_of dtX7_terms_0_0_ok (i := 3) rfl
theorem dX7_terms_6 : decode cX7_terms 6 = .ok (.if_icmp .ge 85, 3) := dc_of dtX7_terms_0_0_ok (i := 4) rfl
theorem dX7_terms_9 : decode cX7_terms 9 = .ok (.iload 4, 2) := dc_of dtX7_terms_0_0_ok (i := 5) rfl
theorem dX7_terms_11 : decode cX7_terms 11 = .ok (.iload_n 3, 1) := dc_of dtX7_terms_0_0_ok (i := 6) rfl
theorem dX7_terms_12 : decode cX7_terms 12 = .ok (.if_icmp .lt 14, 3) := dc_of dtX7_terms_0_0_ok (i := 7) rfl
theorem dX7_terms_15 : decode cX7_terms 15 = .ok (.aload_n 0, 1) := dc_of dtX7_terms_0_0_ok (i := 8) rfl
theorem dX7_terms_16 : decode cX7_terms 16 = .ok (.getfield 45, 3) := dc_of dtX7_terms_0_0_ok (i := 9) rfl
theorem dX7_terms_19 : decode cX7_terms 19 = .ok (.iload 4, 2) := dc_of dtX7_terms_0_0_ok (i := 10) rfl
theorem dX7_terms_21 : decode cX7_terms 21 = .ok (.iconst 0, 1) := dc_of dtX7_terms_0_0_ok (i := 11) rfl
theorem dX7_terms_22 : decode cX7_terms 22 = .ok (.iastore, 1) := dc_of dtX7_terms_0_0_ok (i := 12) rfl
theorem dX7_terms_23 : decode cX7_terms 23 = .ok (.goto 62, 3) := dc_of dtX7_terms_0_0_ok (i := 13) rfl
theorem dX7_terms_26 : decode cX7_terms 26 = .ok (.aload_n 0, 1) := dc_of dtX7_terms_0_0_ok (i := 14) rfl
theorem dX7_terms_27 : decode cX7_terms 27 = .ok (.getfield 45, 3) := dc_of dtX7_terms_0_0_ok (i := 15) rfl
theorem dX7_terms_30 : decode cX7_terms 30 = .ok (.iload 4, 2) := dc_of dtX7_terms_0_0_ok (i := 16) rfl
theorem dX7_terms_32 : decode cX7_terms 32 = .ok (.aload_n 0, 1) := dc_of dtX7_terms_0_0_ok (i := 17) rfl
theorem dX7_terms_33 : decode cX7_terms 33 = .ok (.iload_n 1, 1) := dc_of dtX7_terms_0_0_ok (i := 18) rfl
theorem dX7_terms_34 : decode cX7_terms 34 = .ok (.iload_n 2, 1) := dc_of dtX7_terms_0_0_ok (i := 19) rfl
theorem dX7_terms_35 : decode cX7_terms 35 = .ok (.iload 4, 2) := dc_of dtX7_terms_0_0_ok (i := 20) rfl
theorem dX7_terms_37 : decode cX7_terms 37 = .ok (.iadd, 1) := dc_of dtX7_terms_0_0_ok (i := 21) rfl
theorem dX7_terms_38 : decode cX7_terms 38 = .ok (.iconst 0, 1) := dc_of dtX7_terms_0_0_ok (i := 22) rfl
theorem dX7_terms_39 : decode cX7_terms 39 = .ok (.invokevirtual 286, 3) := dc_of dtX7_terms_0_0_ok (i := 23) rfl
theorem dX7_terms_42 : decode cX7_terms 42 = .ok (.ifCond .ge 16, 3) := dc_of dtX7_terms_0_0_ok (i := 24) rfl
theorem dX7_terms_45 : decode cX7_terms 45 = .ok (.aload_n 0, 1) := dc_of dtX7_terms_0_0_ok (i := 25) rfl
theorem dX7_terms_46 : decode cX7_terms 46 = .ok (.iload_n 1, 1) := dc_of dtX7_terms_0_0_ok (i := 26) rfl
theorem dX7_terms_47 : decode cX7_terms 47 = .ok (.iload_n 2, 1) := dc_of dtX7_terms_0_0_ok (i := 27) rfl
theorem dX7_terms_48 : decode cX7_terms 48 = .ok (.iload 4, 2) := dc_of dtX7_terms_0_0_ok (i := 28) rfl
theorem dX7_terms_50 : decode cX7_terms 50 = .ok (.iadd, 1) := dc_of dtX7_terms_0_0_ok (i := 29) rfl
theorem dX7_terms_51 : decode cX7_terms 51 = .ok (.iconst 1, 1) := dc_of dtX7_terms_0_0_ok (i := 30) rfl
theorem dX7_terms_52 : decode cX7_terms 52 = .ok (.invokevirtual 286, 3) := dc_of dtX7_terms_0_0_ok (i := 31) rfl
def dtX7_terms_55_1 : List (Nat × Instr × Nat) := [(55, .goto 29, 3), (58, .aload_n 0, 1), (59, .getfield 48, 3), (62, .aload_n 0, 1), (63, .iload_n 1, 1), (64, .iload_n 2, 1), (65, .iload 4, 2), (67, .iadd, 1), (68, .iconst 0, 1), (69, .invokevirtual 286, 3), (72, .iaload, 1), (73, .aload_n 0, 1), (74, .iload_n 1, 1), (75, .iload_n 2, 1), (76, .iload 4, 2), (78, .iadd, 1), (79, .iconst 1, 1), (80, .invokevirtual 286, 3), (83, .iadd, 1), (84, .iastore, 1), (85, .iinc 4 1, 3), (88, .goto (-85), 3)]
theorem dtX7_terms_55_1_ok : dcAll cX7_terms dtX7_terms_55_1 = true := by decide +kernel
theorem dX7_terms_55 : decode cX7_terms 55 = .ok (.goto 29, 3) := dc_of dtX7_terms_55_1_ok (i := 0) rfl
theorem dX7_terms_58 : decode cX7_terms 58 = .ok (.aload_n 0, 1) := dc_of dtX7_terms_55_1_ok (i := 1) rfl
theorem dX7_terms_59 : decode cX7_terms 59 = .ok (.getfield 48, 3) := dc_of dtX7_terms_55_1_ok (i := 2) rfl
theorem dX7_terms_62 : decode cX7_terms 62 = .ok (.aload_n 0, 1) := dc_of dtX7_terms_55_1_ok (i := 3) rfl
theorem dX7_terms_63 : decode cX7_terms 63 = .ok (.iload_n 1, 1) := dc_of dtX7_terms_55_1_ok (i := 4) rfl
theorem dX7_terms_64 : decode cX7_terms 64 = .ok (.iload_n 2, 1) := dc_of dtX7_terms_55_1_ok (i := 5) rfl
theorem dX7_terms_65 : decode cX7_terms 65 = .ok (.iload 4, 2) := dc_of dtX7_terms_55_1_ok (i := 6) rfl
theorem dX7_terms_67 : decode cX7_terms 67 = .ok (.iadd, 1) := dc_of dtX7_terms_55_1_ok (i := 7) rfl
theorem dX7_terms_68 : decode cX7_terms 68 = .ok (.iconst 0, 1) := dc_of dtX7_terms_55_1_ok (i := 8) rfl
theorem dX7_terms_69 : decode cX7_terms 69 = .ok (.invokevirtual 286, 3) := dc_of dtX7_terms_55_1_ok (i := 9) rfl
theorem dX7_terms_72 : decode cX7_terms 72 = .ok (.iaload, 1) := dc_of dtX7_terms_55_1_ok (i := 10) rfl
theorem dX7_terms_73 : decode cX7_terms 73 = .ok (.aload_n 0, 1) := dc_of dtX7_terms_55_1_ok (i := 11) rfl
theorem dX7_terms_74 : decode cX7_terms 74 = .ok (.iload_n 1, 1) := dc_of dtX7_terms_55_1_ok (i := 12) rfl
theorem dX7_terms_75 : decode cX7_terms 75 = .ok (.iload_n 2, 1) := dc_of dtX7_terms_55_1_ok (i := 13) rfl
theorem dX7_terms_76 : decode cX7_terms 76 = .ok (.iload 4, 2) := dc_of dtX7_terms_55_1_ok (i := 14) rfl
theorem dX7_terms_78 : decode cX7_terms 78 = .ok (.iadd, 1) := dc_of dtX7_terms_55_1_ok (i := 15) rfl
theorem dX7_terms_79 : decode cX7_terms 79 = .ok (.iconst 1, 1) := dc_of dtX7_terms_55_1_ok (i := 16) rfl
theorem dX7_terms_80 : decode cX7_terms 80 = .ok (.invokevirtual 286, 3) := dc_of dtX7_terms_55_1_ok (i := 17) rfl
theorem dX7_terms_83 : decode cX7_terms 83 = .ok (.iadd, 1) := dc_of dtX7_terms_55_1_ok (i := 18) rfl
theorem dX7_terms_84 : decode cX7_terms 84 = .ok (.iastore, 1) := dc_of dtX7_terms_55_1_ok (i := 19) rfl
theorem dX7_terms_85 : decode cX7_terms 85 = .ok (.iinc 4 1, 3) := dc_of dtX7_terms_55_1_ok (i := 20) rfl
theorem dX7_terms_88 : decode cX7_terms 88 = .ok (.goto (-85), 3) := dc_of dtX7_terms_55_1_ok (i := 21) rfl
