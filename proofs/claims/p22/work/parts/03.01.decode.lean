section
/-! the code's instructions, a table at a time -/
def dcAll (c : ByteArray) (l : List (Nat × Instr × Nat)) : Bool := l.all fun q => match decode c q.1 with | .ok v => decide (v = q.2) | .error _ => false
theorem dc_of {c : ByteArray} {l : List (Nat × Instr × Nat)} (h : dcAll c l = true) {i pc : Nat} {v : Instr × Nat} (hi : l[i]? = some (pc, v)) : decode c pc = .ok v := sorry
def dtX0_init_0_0 : List (Nat × Instr × Nat) := [(0, .aload_n 0, 1), (1, .invokespecial 3, 3), (4, .aload_n 0, 1), (5, .bipush 32, 2), (7, .newarray .int, 2), (9, .putfield 11, 3), (12, .return_, 1)]
theorem dtX0_init_0_0_ok : dcAll cX0_init dtX0_init_0_0 = true := sorry
theorem dX0_init_0 : decode cX0_init 0 = .ok (.aload_n 0, 1) := sorry
theorem dX0_init_1 : decode cX0_init 1 = .ok (.invokespecial 3, 3) := sorry
theorem dX0_init_4 : decode cX0_init 4 = .ok (.aload_n 0, 1) := sorry
theorem dX0_init_5 : decode cX0_init 5 = .ok (.bipush 32, 2) := sorry
theorem dX0_init_7 : decode cX0_init 7 = .ok (.newarray .int, 2) := sorry
theorem dX0_init_9 : decode cX0_init 9 = .ok (.putfield 11, 3) := sorry
theorem dX0_init_12 : decode cX0_init 12 = .ok (.return_, 1) := sorry
def dtX0_clear_0_0 : List (Nat × Instr × Nat) := [(0, .aload_n 0, 1), (1, .iload_n 1, 1), (2, .putfield 15, 3), (5, .aload_n 0, 1), (6, .iconst 0, 1), (7, .putfield 19, 3), (10, .aload_n 0, 1), (11, .iconst (-1), 1), (12, .putfield 22, 3), (15, .aload_n 0, 1), (16, .iconst (-1), 1), (17, .putfield 25, 3), (20, .aload_n 0, 1), (21, .iconst 0, 1), (22, .putfield 28, 3), (25, .aload_n 0, 1), (26, .iconst 0, 1), (27, .putfield 31, 3), (30, .aload_n 0, 1), (31, .iconst 0, 1), (32, .putfield 34, 3), (35, .aload_n 0, 1), (36, .iconst 0, 1), (37, .putfield 37, 3), (40, .aload_n 0, 1), (41, .iconst 0, 1), (42, .putfield 40, 3), (45, .return_, 1)]
theorem dtX0_clear_0_0_ok : dcAll cX0_clear dtX0_clear_0_0 = true := sorry
theorem dX0_clear_0 : decode cX0_clear 0 = .ok (.aload_n 0, 1) := sorry
theorem dX0_clear_1 : decode cX0_clear 1 = .ok (.iload_n 1, 1) := sorry
theorem dX0_clear_2 : decode cX0_clear 2 = .ok (.putfield 15, 3) := sorry
theorem dX0_clear_5 : decode cX0_clear 5 = .ok (.aload_n 0, 1) := sorry
theorem dX0_clear_6 : decode cX0_clear 6 = .ok (.iconst 0, 1) := sorry
theorem dX0_clear_7 : decode cX0_clear 7 = .ok (.putfield 19, 3) := sorry
theorem dX0_clear_10 : decode cX0_clear 10 = .ok (.aload_n 0, 1) := sorry
theorem dX0_clear_11 : decode cX0_clear 11 = .ok (.iconst (-1), 1) := sorry
theorem dX0_clear_12 : decode cX0_clear 12 = .ok (.putfield 22, 3) := sorry
theorem dX0_clear_15 : decode cX0_clear 15 = .ok (.aload_n 0, 1) := sorry
theorem dX0_clear_16 : decode cX0_clear 16 = .ok (.iconst (-1), 1) := sorry
theorem dX0_clear_17 : decode cX0_clear 17 = .ok (.putfield 25, 3) := sorry
theorem dX0_clear_20 : decode cX0_clear 20 = .ok (.aload_n 0, 1) := sorry
theorem dX0_clear_21 : decode cX0_clear 21 = .ok (.iconst 0, 1) := sorry
theorem dX0_clear_22 : decode cX0_clear 22 = .ok (.putfield 28, 3) := sorry
theorem dX0_clear_25 : decode cX0_clear 25 = .ok (.aload_n 0, 1) := sorry
theorem dX0_clear_26 : decode cX0_clear 26 = .ok (.iconst 0, 1) := sorry
theorem dX0_clear_27 : decode cX0_clear 27 = .ok (.putfield 31, 3) := sorry
theorem dX0_clear_30 : decode cX0_clear 30 = .ok (.aload_n 0, 1) := sorry
theorem dX0_clear_31 : decode cX0_clear 31 = .ok (.iconst 0, 1) := sorry
theorem dX0_clear_32 : decode cX0_clear 32 = .ok (.putfield 34, 3) := sorry
theorem dX0_clear_35 : decode cX0_clear 35 = .ok (.aload_n 0, 1) := sorry
theorem dX0_clear_36 : decode cX0_clear 36 = .ok (.iconst 0, 1) := sorry
theorem dX0_clear_37 : decode cX0_clear 37 = .ok (.putfield 37, 3) := sorry
theorem dX0_clear_40 : decode cX0_clear 40 = .ok (.aload_n 0, 1) := sorry
theorem dX0_clear_41 : decode cX0_clear 41 = .ok (.iconst 0, 1) := sorry
theorem dX0_clear_42 : decode cX0_clear 42 = .ok (.putfield 40, 3) := sorry
theorem dX0_clear_45 : decode cX0_clear 45 = .ok (.return_, 1) := sorry
def dtX0_lastLetter_0_0 : List (Nat × Instr × Nat) := [(0, .aload_n 0, 1), (1, .getfield 43, 3), (4, .ldc2_w 47, 3), (7, .land, 1), (8, .l2i, 1), (9, .ireturn, 1)]
theorem dtX0_lastLetter_0_0_ok : dcAll cX0_lastLetter dtX0_lastLetter_0_0 = true := sorry
theorem dX0_lastLetter_0 : decode cX0_lastLetter 0 = .ok (.aload_n 0, 1) := sorry
theorem dX0_lastLetter_1 : decode cX0_lastLetter 1 = .ok (.getfield 43, 3) := sorry
theorem dX0_lastLetter_4 : decode cX0_lastLetter 4 = .ok (.ldc2_w 47, 3) := sorry
theorem dX0_lastLetter_7 : decode cX0_lastLetter 7 = .ok (.land, 1) := sorry
theorem dX0_lastLetter_8 : decode cX0_lastLetter 8 = .ok (.l2i, 1) := sorry
theorem dX0_lastLetter_9 : decode cX0_lastLetter 9 = .ok (.ireturn, 1) := sorry
def dtX0_firstLetter_0_0 : List (Nat × Instr × Nat) := [(0, .aload_n 0, 1), (1, .getfield 43, 3), (4, .lstore_n 1, 1), (5, .iconst 0, 1), (6, .istore_n 3, 1), (7, .iload_n 3, 1), (8, .bipush 8, 2), (10, .if_icmp .ge 21, 3), (13, .lload_n 1, 1), (14, .ldc2_w 47, 3), (17, .lcmp, 1), (18, .ifCond .le 13, 3), (21, .lload_n 1, 1), (22, .iconst 5, 1), (23, .lushr, 1), (24, .lstore_n 1, 1), (25, .iinc 3 1, 3), (28, .goto (-21), 3), (31, .lload_n 1, 1), (32, .l2i, 1), (33, .ireturn, 1)]
theorem dtX0_firstLetter_0_0_ok : dcAll cX0_firstLetter dtX0_firstLetter_0_0 = true := sorry
theorem dX0_firstLetter_0 : decode cX0_firstLetter 0 = .ok (.aload_n 0, 1) := sorry
theorem dX0_firstLetter_1 : decode cX0_firstLetter 1 = .ok (.getfield 43, 3) := sorry
theorem dX0_firstLetter_4 : decode cX0_firstLetter 4 = .ok (.lstore_n 1, 1) := sorry
theorem dX0_firstLetter_5 : decode cX0_firstLetter 5 = .ok (.iconst 0, 1) := sorry
theorem dX0_firstLetter_6 : decode cX0_firstLetter 6 = .ok (.istore_n 3, 1) := sorry
theorem dX0_firstLetter_7 : decode cX0_firstLetter 7 = .ok (.iload_n 3, 1) := sorry
theorem dX0_firstLetter_8 : decode cX0_firstLetter 8 = .ok (.bipush 8, 2) := sorry
theorem dX0_firstLetter_10 : decode cX0_firstLetter 10 = .ok (.if_icmp .ge 21, 3) := sorry
theorem dX0_firstLetter_13 : decode cX0_firstLetter 13 = .ok (.lload_n 1, 1) := sorry
theorem dX0_firstLetter_14 : decode cX0_firstLetter 14 = .ok (.ldc2_w 47, 3) := sorry
theorem dX0_firstLetter_17 : decode cX0_firstLetter 17 = .ok (.lcmp, 1) := sorry
theorem dX0_firstLetter_18 : decode cX0_firstLetter 18 = .ok (.ifCond .le 13, 3) := sorry
theorem dX0_firstLetter_21 : decode cX0_firstLetter 21 = .ok (.lload_n 1, 1) := sorry
theorem dX0_firstLetter_22 : decode cX0_firstLetter 22 = .ok (.iconst 5, 1) := sorry
theorem dX0_firstLetter_23 : decode cX0_firstLetter 23 = .ok (.lushr, 1) := sorry
theorem dX0_firstLetter_24 : decode cX0_firstLetter 24 = .ok (.lstore_n 1, 1) := sorry
theorem dX0_firstLetter_25 : decode cX0_firstLetter 25 = .ok (.iinc 3 1, 3) := sorry
theorem dX0_firstLetter_28 : decode cX0_firstLetter 28 = .ok (.goto (-21), 3) := sorry
theorem dX0_firstLetter_31 : decode cX0_firstLetter 31 = .ok (.lload_n 1, 1) := sorry
theorem dX0_firstLetter_32 : decode cX0_firstLetter 32 = .ok (.l2i, 1) := sorry
theorem dX0_firstLetter_33 : decode cX0_firstLetter 33 = .ok (.ireturn, 1) := sorry
def dtX0_addTest_0_0 : List (Nat × Instr × Nat) := [(0, .aload_n 0, 1), (1, .getfield 34, 3), (4, .iconst 4, 1), (5, .imul, 1), (6, .istore 5, 2), (8, .aload_n 0, 1), (9, .getfield 11, 3), (12, .iload 5, 2), (14, .iload_n 1, 1), (15, .iastore, 1), (16, .aload_n 0, 1), (17, .getfield 11, 3), (20, .iload 5, 2), (22, .iconst 1, 1), (23, .iadd, 1), (24, .iload_n 2, 1), (25, .iastore, 1), (26, .aload_n 0, 1), (27, .getfield 11, 3), (30, .iload 5, 2), (32, .iconst 2, 1), (33, .iadd, 1), (34, .iload_n 3, 1), (35, .iastore, 1), (36, .aload_n 0, 1), (37, .getfield 11, 3), (40, .iload 5, 2), (42, .iconst 3, 1), (43, .iadd, 1), (44, .iload 4, 2), (46, .iastore, 1), (47, .aload_n 0, 1)]
theorem dtX0_addTest_0_0_ok : dcAll cX0_addTest dtX0_addTest_0_0 = true := sorry
theorem dX0_addTest_0 : decode cX0_addTest 0 = .ok (.aload_n 0, 1) := sorry
theorem dX0_addTest_1 : decode cX0_addTest 1 = .ok (.getfield 34, 3) := sorry
theorem dX0_addTest_4 : decode cX0_addTest 4 = .ok (.iconst 4, 1) := sorry
theorem dX0_addTest_5 : decode cX0_addTest 5 = .ok (.imul, 1) := sorry
theorem dX0_addTest_6 : decode cX0_addTest 6 = .ok (.istore 5, 2) := sorry
theorem dX0_addTest_8 : decode cX0_addTest 8 = .ok (.aload_n 0, 1) := sorry
theorem dX0_addTest_9 : decode cX0_addTest 9 = .ok (.getfield 11, 3) := sorry
theorem dX0_addTest_12 : decode cX0_addTest 12 = .ok (.iload 5, 2) := sorry
theorem dX0_addTest_14 : decode cX0_addTest 14 = .ok (.iload_n 1, 1) := sorry
theorem dX0_addTest_15 : decode cX0_addTest 15 = .ok (.iastore, 1) := sorry
theorem dX0_addTest_16 : decode cX0_addTest 16 = .ok (.aload_n 0, 1) := sorry
theorem dX0_addTest_17 : decode cX0_addTest 17 = .ok (.getfield 11, 3) := sorry
theorem dX0_addTest_20 : decode cX0_addTest 20 = .ok (.iload 5, 2) := sorry
theorem dX0_addTest_22 : decode cX0_addTest 22 = .ok (.iconst 1, 1) := sorry
theorem dX0_addTest_23 : decode cX0_addTest 23 = .ok (.iadd, 1) := sorry
theorem dX0_addTest_24 : decode cX0_addTest 24 = .ok (.iload_n 2, 1) := sorry
theorem dX0_addTest_25 : decode cX0_addTest 25 = .ok (.iastore, 1) := sorry
theorem dX0_addTest_26 : decode cX0_addTest 26 = .ok (.aload_n 0, 1) := sorry
theorem dX0_addTest_27 : decode cX0_addTest 27 = .ok (.getfield 11, 3) := sorry
theorem dX0_addTest_30 : decode cX0_addTest 30 = .ok (.iload 5, 2) := sorry
theorem dX0_addTest_32 : decode cX0_addTest 32 = .ok (.iconst 2, 1) := sorry
theorem dX0_addTest_33 : decode cX0_addTest 33 = .ok (.iadd, 1) := sorry
theorem dX0_addTest_34 : decode cX0_addTest 34 = .ok (.iload_n 3, 1) := sorry
theorem dX0_addTest_35 : decode cX0_addTest 35 = .ok (.iastore, 1) := sorry
theorem dX0_addTest_36 : decode cX0_addTest 36 = .ok (.aload_n 0, 1) := sorry
theorem dX0_addTest_37 : decode cX0_addTest 37 = .ok (.getfield 11, 3) := sorry
theorem dX0_addTest_40 : decode cX0_addTest 40 = .ok (.iload 5, 2) := sorry
theorem dX0_addTest_42 : decode cX0_addTest 42 = .ok (.iconst 3, 1) := sorry
theorem dX0_addTest_43 : decode cX0_addTest 43 = .ok (.iadd, 1) := sorry
theorem dX0_addTest_44 : decode cX0_addTest 44 = .ok (.iload 4, 2) := sorry
theorem dX0_addTest_46 : decode cX0_addTest 46 = .ok (.iastore, 1) := sorry
theorem dX0_addTest_47 : decode cX0_addTest 47 = .ok (.aload_n 0, 1) := sorry
def dtX0_addTest_48_1 : List (Nat × Instr × Nat) := [(48, .dup, 1), (49, .getfield 34, 3), (52, .iconst 1, 1), (53, .iadd, 1), (54, .putfield 34, 3), (57, .return_, 1)]
theorem dtX0_addTest_48_1_ok : dcAll cX0_addTest dtX0_addTest_48_1 = true := sorry
theorem dX0_addTest_48 : decode cX0_addTest 48 = .ok (.dup, 1) := sorry
theorem dX0_addTest_49 : decode cX0_addTest 49 = .ok (.getfield 34, 3) := sorry
theorem dX0_addTest_52 : decode cX0_addTest 52 = .ok (.iconst 1, 1) := sorry
theorem dX0_addTest_53 : decode cX0_addTest 53 = .ok (.iadd, 1) := sorry
theorem dX0_addTest_54 : decode cX0_addTest 54 = .ok (.putfield 34, 3) := sorry
theorem dX0_addTest_57 : decode cX0_addTest 57 = .ok (.return_, 1) := sorry
def dtX0_holds_0_0 : List (Nat × Instr × Nat) := [(0, .iconst 0, 1), (1, .istore_n 3, 1), (2, .iload_n 3, 1), (3, .aload_n 0, 1), (4, .getfield 34, 3), (7, .if_icmp .ge 121, 3), (10, .iload_n 3, 1), (11, .iconst 4, 1), (12, .imul, 1), (13, .istore 4, 2), (15, .aload_n 1, 1), (16, .iload_n 2, 1), (17, .aload_n 0, 1), (18, .getfield 11, 3), (21, .iload 4, 2), (23, .iaload, 1), (24, .iadd, 1), (25, .iaload, 1), (26, .istore 5, 2), (28, .aload_n 0, 1), (29, .getfield 11, 3), (32, .iload 4, 2), (34, .iconst 2, 1), (35, .iadd, 1), (36, .iaload, 1), (37, .iconst (-1), 1), (38, .if_icmp .ne 15, 3), (41, .aload_n 0, 1), (42, .getfield 11, 3), (45, .iload 4, 2), (47, .iconst 3, 1), (48, .iadd, 1)]
theorem dtX0_holds_0_0_ok : dcAll cX0_holds dtX0_holds_0_0 = true := sorry
theorem dX0_holds_0 : decode cX0_holds 0 = .ok (.iconst 0, 1) := sorry
theorem dX0_holds_1 : decode cX0_holds 1 = .ok (.istore_n 3, 1) := sorry
theorem dX0_holds_2 : decode cX0_holds 2 = .ok (.iload_n 3, 1) := sorry
theorem dX0_holds_3 : decode cX0_holds 3 = .ok (.aload_n 0, 1) := sorry
theorem dX0_holds_4 : decode cX0_holds 4 = .ok (.getfield 34, 3) := sorry
theorem dX0_holds_7 : decode cX0_holds 7 = .ok (.if_icmp .ge 121, 3) := sorry
theorem dX0_holds_10 : decode cX0_holds 10 = .ok (.iload_n 3, 1) := sorry
theorem dX0_holds_11 : decode cX0_holds 11 = .ok (.iconst 4, 1) := sorry
theorem dX0_holds_12 : decode cX0_holds 12 = .ok (.imul, 1) := sorry
theorem dX0_holds_13 : decode cX0_holds 13 = .ok (.istore 4, 2) := sorry
theorem dX0_holds_15 : decode cX0_holds 15 = .ok (.aload_n 1, 1) := sorry
theorem dX0_holds_16 : decode cX0_holds 16 = .ok (.iload_n 2, 1) := sorry
theorem dX0_holds_17 : decode cX0_holds 17 = .ok (.aload_n 0, 1) := sorry
theorem dX0_holds_18 : decode cX0_holds 18 = .ok (.getfield 11, 3) := sorry
theorem dX0_holds_21 : decode cX0_holds 21 = .ok (.iload 4, 2) := sorry
theorem dX0_holds_23 : decode cX0_holds 23 = .ok (.iaload, 1) := sorry
theorem dX0_holds_24 : decode cX0_holds 24 = .ok (.iadd, 1) := sorry
theorem dX0_holds_25 : decode cX0_holds 25 = .ok (.iaload, 1) := sorry
theorem dX0_holds_26 : decode cX0_holds 26 = .ok (.istore 5, 2) := sorry
theorem dX0_holds_28 : decode cX0_holds 28 = .ok (.aload_n 0, 1) := sorry
theorem dX0_holds_29 : decode cX0_holds 29 = .ok (.getfield 11, 3) := sorry
theorem dX0_holds_32 : decode cX0_holds 32 = .ok (.iload 4, 2) := sorry
theorem dX0_holds_34 : decode cX0_holds 34 = .ok (.iconst 2, 1) := sorry
theorem dX0_holds_35 : decode cX0_holds 35 = .ok (.iadd, 1) := sorry
theorem dX0_holds_36 : decode cX0_holds 36 = .ok (.iaload, 1) := sorry
theorem dX0_holds_37 : decode cX0_holds 37 = .ok (.iconst (-1), 1) := sorry
theorem dX0_holds_38 : decode cX0_holds 38 = .ok (.if_icmp .ne 15, 3) := sorry
theorem dX0_holds_41 : decode cX0_holds 41 = .ok (.aload_n 0, 1) := sorry
theorem dX0_holds_42 : decode cX0_holds 42 = .ok (.getfield 11, 3) := sorry
theorem dX0_holds_45 : decode cX0_holds 45 = .ok (.iload 4, 2) := sorry
theorem dX0_holds_47 : decode cX0_holds 47 = .ok (.iconst 3, 1) := sorry
theorem dX0_holds_48 : decode cX0_holds 48 = .ok (.iadd, 1) := sorry
def dtX0_holds_49_1 : List (Nat × Instr × Nat) := [(49, .iaload, 1), (50, .goto 16, 3), (53, .aload_n 1, 1), (54, .iload_n 2, 1), (55, .aload_n 0, 1), (56, .getfield 11, 3), (59, .iload 4, 2), (61, .iconst 2, 1), (62, .iadd, 1), (63, .iaload, 1), (64, .iadd, 1), (65, .iaload, 1), (66, .istore 6, 2), (68, .aload_n 0, 1), (69, .getfield 11, 3), (72, .iload 4, 2), (74, .iconst 1, 1), (75, .iadd, 1), (76, .iaload, 1), (77, .istore 7, 2), (79, .iload 7, 2), (81, .bipush 61, 2), (83, .if_icmp .ne 13, 3), (86, .iload 5, 2), (88, .iload 6, 2), (90, .if_icmp .eq 32, 3), (93, .goto 27, 3), (96, .iload 7, 2), (98, .bipush 60, 2), (100, .if_icmp .ne 13, 3), (103, .iload 5, 2), (105, .iload 6, 2)]
theorem dtX0_holds_49_1_ok : dcAll cX0_holds dtX0_holds_49_1 = true := sorry
theorem dX0_holds_49 : decode cX0_holds 49 = .ok (.iaload, 1) := sorry
theorem dX0_holds_50 : decode cX0_holds 50 = .ok (.goto 16, 3) := sorry
theorem dX0_holds_53 : decode cX0_holds 53 = .ok (.aload_n 1, 1) := sorry
theorem dX0_holds_54 : decode cX0_holds 54 = .ok (.iload_n 2, 1) := sorry
theorem dX0_holds_55 : decode cX0_holds 55 = .ok (.aload_n 0, 1) := sorry
theorem dX0_holds_56 : decode cX0_holds 56 = .ok (.getfield 11, 3) := sorry
theorem dX0_holds_59 : decode cX0_holds 59 = .ok (.iload 4, 2) := sorry
theorem dX0_holds_61 : decode cX0_holds 61 = .ok (.iconst 2, 1) := sorry
theorem dX0_holds_62 : decode cX0_holds 62 = .ok (.iadd, 1) := sorry
theorem dX0_holds_63 : decode cX0_holds 63 = .ok (.iaload, 1) := sorry
theorem dX0_holds_64 : decode cX0_holds 64 = .ok (.iadd, 1) := sorry
theorem dX0_holds_65 : decode cX0_holds 65 = .ok (.iaload, 1) := sorry
theorem dX0_holds_66 : decode cX0_holds 66 = .ok (.istore 6, 2) := sorry
theorem dX0_holds_68 : decode cX0_holds 68 = .ok (.aload_n 0, 1) := sorry
theorem dX0_holds_69 : decode cX0_holds 69 = .ok (.getfield 11, 3) := sorry
theorem dX0_holds_72 : decode cX0_holds 72 = .ok (.iload 4, 2) := sorry
theorem dX0_holds_74 : decode cX0_holds 74 = .ok (.iconst 1, 1) := sorry
theorem dX0_holds_75 : decode cX0_holds 75 = .ok (.iadd, 1) := sorry
theorem dX0_holds_76 : decode cX0_holds 76 = .ok (.iaload, 1) := sorry
theorem dX0_holds_77 : decode cX0_holds 77 = .ok (.istore 7, 2) := sorry
theorem dX0_holds_79 : decode cX0_holds 79 = .ok (.iload 7, 2) := sorry
theorem dX0_holds_81 : decode cX0_holds 81 = .ok (.bipush 61, 2) := sorry
theorem dX0_holds_83 : decode cX0_holds 83 = .ok (.if_icmp .ne 13, 3) := sorry
theorem dX0_holds_86 : decode cX0_holds 86 = .ok (.iload 5, 2) := sorry
theorem dX0_holds_88 : decode cX0_holds 88 = .ok (.iload 6, 2) := sorry
theorem dX0_holds_90 : decode cX0_holds 90 = .ok (.if_icmp .eq 32, 3) := sorry
theorem dX0_holds_93 : decode cX0_holds 93 = .ok (.goto 27, 3) := sorry
theorem dX0_holds_96 : decode cX0_holds 96 = .ok (.iload 7, 2) := sorry
theorem dX0_holds_98 : decode cX0_holds 98 = .ok (.bipush 60, 2) := sorry
theorem dX0_holds_100 : decode cX0_holds 100 = .ok (.if_icmp .ne 13, 3) := sorry
theorem dX0_holds_103 : decode cX0_holds 103 = .ok (.iload 5, 2) := sorry
theorem dX0_holds_105 : decode cX0_holds 105 = .ok (.iload 6, 2) := sorry
def dtX0_holds_107_2 : List (Nat × Instr × Nat) := [(107, .if_icmp .lt 15, 3), (110, .goto 10, 3), (113, .iload 5, 2), (115, .iload 6, 2), (117, .if_icmp .gt 5, 3), (120, .iconst 0, 1), (121, .ireturn, 1), (122, .iinc 3 1, 3), (125, .goto (-123), 3), (128, .iconst 1, 1), (129, .ireturn, 1)]
theorem dtX0_holds_107_2_ok : dcAll cX0_holds dtX0_holds_107_2 = true := sorry
theorem dX0_holds_107 : decode cX0_holds 107 = .ok (.if_icmp .lt 15, 3) := sorry
theorem dX0_holds_110 : decode cX0_holds 110 = .ok (.goto 10, 3) := sorry
theorem dX0_holds_113 : decode cX0_holds 113 = .ok (.iload 5, 2) := sorry
theorem dX0_holds_115 : decode cX0_holds 115 = .ok (.iload 6, 2) := sorry
theorem dX0_holds_117 : decode cX0_holds 117 = .ok (.if_icmp .gt 5, 3) := sorry
theorem dX0_holds_120 : decode cX0_holds 120 = .ok (.iconst 0, 1) := sorry
theorem dX0_holds_121 : decode cX0_holds 121 = .ok (.ireturn, 1) := sorry
theorem dX0_holds_122 : decode cX0_holds 122 = .ok (.iinc 3 1, 3) := sorry
theorem dX0_holds_125 : decode cX0_holds 125 = .ok (.goto (-123), 3) := sorry
theorem dX0_holds_128 : decode cX0_holds 128 = .ok (.iconst 1, 1) := sorry
theorem dX0_holds_129 : decode cX0_holds 129 = .ok (.ireturn, 1) := sorry
def dtX0_addTwo_0_0 : List (Nat × Instr × Nat) := [(0, .aload_n 0, 1), (1, .getfield 11, 3), (4, .iconst 2, 1), (5, .aload_n 0, 1), (6, .getfield 34, 3), (9, .imul, 1), (10, .iload_n 1, 1), (11, .iastore, 1), (12, .aload_n 0, 1), (13, .getfield 11, 3), (16, .iconst 2, 1), (17, .aload_n 0, 1), (18, .getfield 34, 3), (21, .imul, 1), (22, .iconst 1, 1), (23, .iadd, 1), (24, .iload_n 2, 1), (25, .iastore, 1), (26, .aload_n 0, 1), (27, .dup, 1), (28, .getfield 34, 3), (31, .iconst 1, 1), (32, .iadd, 1), (33, .putfield 34, 3), (36, .return_, 1)]
theorem dtX0_addTwo_0_0_ok : dcAll cX0_addTwo dtX0_addTwo_0_0 = true := sorry
theorem dX0_addTwo_0 : decode cX0_addTwo 0 = .ok (.aload_n 0, 1) := sorry
theorem dX0_addTwo_1 : decode cX0_addTwo 1 = .ok (.getfield 11, 3) := sorry
theorem dX0_addTwo_4 : decode cX0_addTwo 4 = .ok (.iconst 2, 1) := sorry
theorem dX0_addTwo_5 : decode cX0_addTwo 5 = .ok (.aload_n 0, 1) := sorry
theorem dX0_addTwo_6 : decode cX0_addTwo 6 = .ok (.getfield 34, 3) := sorry
theorem dX0_addTwo_9 : decode cX0_addTwo 9 = .ok (.imul, 1) := sorry
theorem dX0_addTwo_10 : decode cX0_addTwo 10 = .ok (.iload_n 1, 1) := sorry
theorem dX0_addTwo_11 : decode cX0_addTwo 11 = .ok (.iastore, 1) := sorry
theorem dX0_addTwo_12 : decode cX0_addTwo 12 = .ok (.aload_n 0, 1) := sorry
theorem dX0_addTwo_13 : decode cX0_addTwo 13 = .ok (.getfield 11, 3) := sorry
theorem dX0_addTwo_16 : decode cX0_addTwo 16 = .ok (.iconst 2, 1) := sorry
theorem dX0_addTwo_17 : decode cX0_addTwo 17 = .ok (.aload_n 0, 1) := sorry
theorem dX0_addTwo_18 : decode cX0_addTwo 18 = .ok (.getfield 34, 3) := sorry
theorem dX0_addTwo_21 : decode cX0_addTwo 21 = .ok (.imul, 1) := sorry
theorem dX0_addTwo_22 : decode cX0_addTwo 22 = .ok (.iconst 1, 1) := sorry
theorem dX0_addTwo_23 : decode cX0_addTwo 23 = .ok (.iadd, 1) := sorry
theorem dX0_addTwo_24 : decode cX0_addTwo 24 = .ok (.iload_n 2, 1) := sorry
theorem dX0_addTwo_25 : decode cX0_addTwo 25 = .ok (.iastore, 1) := sorry
theorem dX0_addTwo_26 : decode cX0_addTwo 26 = .ok (.aload_n 0, 1) := sorry
theorem dX0_addTwo_27 : decode cX0_addTwo 27 = .ok (.dup, 1) := sorry
theorem dX0_addTwo_28 : decode cX0_addTwo 28 = .ok (.getfield 34, 3) := sorry
theorem dX0_addTwo_31 : decode cX0_addTwo 31 = .ok (.iconst 1, 1) := sorry
theorem dX0_addTwo_32 : decode cX0_addTwo 32 = .ok (.iadd, 1) := sorry
theorem dX0_addTwo_33 : decode cX0_addTwo 33 = .ok (.putfield 34, 3) := sorry
theorem dX0_addTwo_36 : decode cX0_addTwo 36 = .ok (.return_, 1) := sorry
def dtX0_fillTerms_0_0 : List (Nat × Instr × Nat) := [(0, .iconst 0, 1), (1, .istore 4, 2), (3, .iload 4, 2), (5, .aload_n 0, 1), (6, .getfield 34, 3), (9, .if_icmp .ge 52, 3), (12, .aload_n 0, 1), (13, .getfield 11, 3), (16, .iconst 2, 1), (17, .iload 4, 2), (19, .imul, 1), (20, .iaload, 1), (21, .istore 5, 2), (23, .aload_n 3, 1), (24, .iload 4, 2), (26, .iload 5, 2), (28, .iconst (-1), 1), (29, .if_icmp .ne 7, 3), (32, .iconst 0, 1), (33, .goto 9, 3), (36, .aload_n 1, 1), (37, .iload_n 2, 1), (38, .iload 5, 2), (40, .iadd, 1), (41, .iaload, 1), (42, .aload_n 0, 1), (43, .getfield 11, 3), (46, .iconst 2, 1), (47, .iload 4, 2), (49, .imul, 1), (50, .iconst 1, 1), (51, .iadd, 1)]
theorem dtX0_fillTerms_0_0_ok : dcAll cX0_fillTerms dtX0_fillTerms_0_0 = true := sorry
theorem dX0_fillTerms_0 : decode cX0_fillTerms 0 = .ok (.iconst 0, 1) := sorry
theorem dX0_fillTerms_1 : decode cX0_fillTerms 1 = .ok (.istore 4, 2) := sorry
theorem dX0_fillTerms_3 : decode cX0_fillTerms 3 = .ok (.iload 4, 2) := sorry
theorem dX0_fillTerms_5 : decode cX0_fillTerms 5 = .ok (.aload_n 0, 1) := sorry
theorem dX0_fillTerms_6 : decode cX0_fillTerms 6 = .ok (.getfield 34, 3) := sorry
theorem dX0_fillTerms_9 : decode cX0_fillTerms 9 = .ok (.if_icmp .ge 52, 3) := sorry
theorem dX0_fillTerms_12 : decode cX0_fillTerms 12 = .ok (.aload_n 0, 1) := sorry
theorem dX0_fillTerms_13 : decode cX0_fillTerms 13 = .ok (.getfield 11, 3) := sorry
theorem dX0_fillTerms_16 : decode cX0_fillTerms 16 = .ok (.iconst 2, 1) := sorry
theorem dX0_fillTerms_17 : decode cX0_fillTerms 17 = .ok (.iload 4, 2) := sorry
theorem dX0_fillTerms_19 : decode cX0_fillTerms 19 = .ok (.imul, 1) := sorry
theorem dX0_fillTerms_20 : decode cX0_fillTerms 20 = .ok (.iaload, 1) := sorry
theorem dX0_fillTerms_21 : decode cX0_fillTerms 21 = .ok (.istore 5, 2) := sorry
theorem dX0_fillTerms_23 : decode cX0_fillTerms 23 = .ok (.aload_n 3, 1) := sorry
theorem dX0_fillTerms_24 : decode cX0_fillTerms 24 = .ok (.iload 4, 2) := sorry
theorem dX0_fillTerms_26 : decode cX0_fillTerms 26 = .ok (.iload 5, 2) := sorry
theorem dX0_fillTerms_28 : decode cX0_fillTerms 28 = .ok (.iconst (-1), 1) := sorry
theorem dX0_fillTerms_29 : decode cX0_fillTerms 29 = .ok (.if_icmp .ne 7, 3) := sorry
theorem dX0_fillTerms_32 : decode cX0_fillTerms 32 = .ok (.iconst 0, 1) := sorry
theorem dX0_fillTerms_33 : decode cX0_fillTerms 33 = .ok (.goto 9, 3) := sorry
theorem dX0_fillTerms_36 : decode cX0_fillTerms 36 = .ok (.aload_n 1, 1) := sorry
theorem dX0_fillTerms_37 : decode cX0_fillTerms 37 = .ok (.iload_n 2, 1) := sorry
theorem dX0_fillTerms_38 : decode cX0_fillTerms 38 = .ok (.iload 5, 2) := sorry
theorem dX0_fillTerms_40 : decode cX0_fillTerms 40 = .ok (.iadd, 1) := sorry
theorem dX0_fillTerms_41 : decode cX0_fillTerms 41 = .ok (.iaload, 1) := sorry
theorem dX0_fillTerms_42 : decode cX0_fillTerms 42 = .ok (.aload_n 0, 1) := sorry
theorem dX0_fillTerms_43 : decode cX0_fillTerms 43 = .ok (.getfield 11, 3) := sorry
theorem dX0_fillTerms_46 : decode cX0_fillTerms 46 = .ok (.iconst 2, 1) := sorry
theorem dX0_fillTerms_47 : decode cX0_fillTerms 47 = .ok (.iload 4, 2) := sorry
theorem dX0_fillTerms_49 : decode cX0_fillTerms 49 = .ok (.imul, 1) := sorry
theorem dX0_fillTerms_50 : decode cX0_fillTerms 50 = .ok (.iconst 1, 1) := sorry
theorem dX0_fillTerms_51 : decode cX0_fillTerms 51 = .ok (.iadd, 1) := sorry
def dtX0_fillTerms_52_1 : List (Nat × Instr × Nat) := [(52, .iaload, 1), (53, .iadd, 1), (54, .iastore, 1), (55, .iinc 4 1, 3), (58, .goto (-55), 3), (61, .return_, 1)]
theorem dtX0_fillTerms_52_1_ok : dcAll cX0_fillTerms dtX0_fillTerms_52_1 = true := sorry
theorem dX0_fillTerms_52 : decode cX0_fillTerms 52 = .ok (.iaload, 1) := sorry
theorem dX0_fillTerms_53 : decode cX0_fillTerms 53 = .ok (.iadd, 1) := sorry
theorem dX0_fillTerms_54 : decode cX0_fillTerms 54 = .ok (.iastore, 1) := sorry
theorem dX0_fillTerms_55 : decode cX0_fillTerms 55 = .ok (.iinc 4 1, 3) := sorry
theorem dX0_fillTerms_58 : decode cX0_fillTerms 58 = .ok (.goto (-55), 3) := sorry
theorem dX0_fillTerms_61 : decode cX0_fillTerms 61 = .ok (.return_, 1) := sorry
def dtX0_pairsAreAlike_0_0 : List (Nat × Instr × Nat) := [(0, .iconst 0, 1), (1, .istore 5, 2), (3, .iload 5, 2), (5, .aload_n 0, 1), (6, .getfield 34, 3), (9, .if_icmp .ge 43, 3), (12, .aload_n 1, 1), (13, .iload_n 2, 1), (14, .aload_n 0, 1), (15, .getfield 11, 3), (18, .iconst 2, 1), (19, .iload 5, 2), (21, .imul, 1), (22, .iaload, 1), (23, .iadd, 1), (24, .iaload, 1), (25, .aload_n 3, 1), (26, .iload 4, 2), (28, .aload_n 0, 1), (29, .getfield 11, 3), (32, .iconst 2, 1), (33, .iload 5, 2), (35, .imul, 1), (36, .iconst 1, 1), (37, .iadd, 1), (38, .iaload, 1), (39, .iadd, 1), (40, .iaload, 1), (41, .if_icmp .eq 5, 3), (44, .iconst 0, 1), (45, .ireturn, 1), (46, .iinc 5 1, 3)]
theorem dtX0_pairsAreAlike_0_0_ok : dcAll cX0_pairsAreAlike dtX0_pairsAreAlike_0_0 = true := sorry
theorem dX0_pairsAreAlike_0 : decode cX0_pairsAreAlike 0 = .ok (.iconst 0, 1) := sorry
theorem dX0_pairsAreAlike_1 : decode cX0_pairsAreAlike 1 = .ok (.istore 5, 2) := sorry
theorem dX0_pairsAreAlike_3 : decode cX0_pairsAreAlike 3 = .ok (.iload 5, 2) := sorry
theorem dX0_pairsAreAlike_5 : decode cX0_pairsAreAlike 5 = .ok (.aload_n 0, 1) := sorry
theorem dX0_pairsAreAlike_6 : decode cX0_pairsAreAlike 6 = .ok (.getfield 34, 3) := sorry
theorem dX0_pairsAreAlike_9 : decode cX0_pairsAreAlike 9 = .ok (.if_icmp .ge 43, 3) := sorry
theorem dX0_pairsAreAlike_12 : decode cX0_pairsAreAlike 12 = .ok (.aload_n 1, 1) := sorry
theorem dX0_pairsAreAlike_13 : decode cX0_pairsAreAlike 13 = .ok (.iload_n 2, 1) := sorry
theorem dX0_pairsAreAlike_14 : decode cX0_pairsAreAlike 14 = .ok (.aload_n 0, 1) := sorry
theorem dX0_pairsAreAlike_15 : decode cX0_pairsAreAlike 15 = .ok (.getfield 11, 3) := sorry
theorem dX0_pairsAreAlike_18 : decode cX0_pairsAreAlike 18 = .ok (.iconst 2, 1) := sorry
theorem dX0_pairsAreAlike_19 : decode cX0_pairsAreAlike 19 = .ok (.iload 5, 2) := sorry
theorem dX0_pairsAreAlike_21 : decode cX0_pairsAreAlike 21 = .ok (.imul, 1) := sorry
theorem dX0_pairsAreAlike_22 : decode cX0_pairsAreAlike 22 = .ok (.iaload, 1) := sorry
theorem dX0_pairsAreAlike_23 : decode cX0_pairsAreAlike 23 = .ok (.iadd, 1) := sorry
theorem dX0_pairsAreAlike_24 : decode cX0_pairsAreAlike 24 = .ok (.iaload, 1) := sorry
theorem dX0_pairsAreAlike_25 : decode cX0_pairsAreAlike 25 = .ok (.aload_n 3, 1) := sorry
theorem dX0_pairsAreAlike_26 : decode cX0_pairsAreAlike 26 = .ok (.iload 4, 2) := sorry
theorem dX0_pairsAreAlike_28 : decode cX0_pairsAreAlike 28 = .ok (.aload_n 0, 1) := sorry
theorem dX0_pairsAreAlike_29 : decode cX0_pairsAreAlike 29 = .ok (.getfield 11, 3) := sorry
theorem dX0_pairsAreAlike_32 : decode cX0_pairsAreAlike 32 = .ok (.iconst 2, 1) := sorry
theorem dX0_pairsAreAlike_33 : decode cX0_pairsAreAlike 33 = .ok (.iload 5, 2) := sorry
theorem dX0_pairsAreAlike_35 : decode cX0_pairsAreAlike 35 = .ok (.imul, 1) := sorry
theorem dX0_pairsAreAlike_36 : decode cX0_pairsAreAlike 36 = .ok (.iconst 1, 1) := sorry
theorem dX0_pairsAreAlike_37 : decode cX0_pairsAreAlike 37 = .ok (.iadd, 1) := sorry
theorem dX0_pairsAreAlike_38 : decode cX0_pairsAreAlike 38 = .ok (.iaload, 1) := sorry
theorem dX0_pairsAreAlike_39 : decode cX0_pairsAreAlike 39 = .ok (.iadd, 1) := sorry
theorem dX0_pairsAreAlike_40 : decode cX0_pairsAreAlike 40 = .ok (.iaload, 1) := sorry
theorem dX0_pairsAreAlike_41 : decode cX0_pairsAreAlike 41 = .ok (.if_icmp .eq 5, 3) := sorry
theorem dX0_pairsAreAlike_44 : decode cX0_pairsAreAlike 44 = .ok (.iconst 0, 1) := sorry
theorem dX0_pairsAreAlike_45 : decode cX0_pairsAreAlike 45 = .ok (.ireturn, 1) := sorry
theorem dX0_pairsAreAlike_46 : decode cX0_pairsAreAlike 46 = .ok (.iinc 5 1, 3) := sorry
def dtX0_pairsAreAlike_49_1 : List (Nat × Instr × Nat) := [(49, .goto (-46), 3), (52, .iconst 1, 1), (53, .ireturn, 1)]
theorem dtX0_pairsAreAlike_49_1_ok : dcAll cX0_pairsAreAlike dtX0_pairsAreAlike_49_1 = true := sorry
theorem dX0_pairsAreAlike_49 : decode cX0_pairsAreAlike 49 = .ok (.goto (-46), 3) := sorry
theorem dX0_pairsAreAlike_52 : decode cX0_pairsAreAlike 52 = .ok (.iconst 1, 1) := sorry
theorem dX0_pairsAreAlike_53 : decode cX0_pairsAreAlike 53 = .ok (.ireturn, 1) := sorry
def dtX0_tellsSecond_0_0 : List (Nat × Instr × Nat) := [(0, .iconst 0, 1), (1, .istore_n 2, 1), (2, .iload_n 2, 1), (3, .aload_n 0, 1), (4, .getfield 34, 3), (7, .if_icmp .ge 25, 3), (10, .aload_n 0, 1), (11, .getfield 11, 3), (14, .iconst 2, 1), (15, .iload_n 2, 1), (16, .imul, 1), (17, .iconst 1, 1), (18, .iadd, 1), (19, .iaload, 1), (20, .iload_n 1, 1), (21, .if_icmp .ne 5, 3), (24, .iconst 1, 1), (25, .ireturn, 1), (26, .iinc 2 1, 3), (29, .goto (-27), 3), (32, .iconst 0, 1), (33, .ireturn, 1)]
theorem dtX0_tellsSecond_0_0_ok : dcAll cX0_tellsSecond dtX0_tellsSecond_0_0 = true := sorry
theorem dX0_tellsSecond_0 : decode cX0_tellsSecond 0 = .ok (.iconst 0, 1) := sorry
theorem dX0_tellsSecond_1 : decode cX0_tellsSecond 1 = .ok (.istore_n 2, 1) := sorry
theorem dX0_tellsSecond_2 : decode cX0_tellsSecond 2 = .ok (.iload_n 2, 1) := sorry
theorem dX0_tellsSecond_3 : decode cX0_tellsSecond 3 = .ok (.aload_n 0, 1) := sorry
theorem dX0_tellsSecond_4 : decode cX0_tellsSecond 4 = .ok (.getfield 34, 3) := sorry
theorem dX0_tellsSecond_7 : decode cX0_tellsSecond 7 = .ok (.if_icmp .ge 25, 3) := sorry
theorem dX0_tellsSecond_10 : decode cX0_tellsSecond 10 = .ok (.aload_n 0, 1) := sorry
theorem dX0_tellsSecond_11 : decode cX0_tellsSecond 11 = .ok (.getfield 11, 3) := sorry
theorem dX0_tellsSecond_14 : decode cX0_tellsSecond 14 = .ok (.iconst 2, 1) := sorry
theorem dX0_tellsSecond_15 : decode cX0_tellsSecond 15 = .ok (.iload_n 2, 1) := sorry
theorem dX0_tellsSecond_16 : decode cX0_tellsSecond 16 = .ok (.imul, 1) := sorry
theorem dX0_tellsSecond_17 : decode cX0_tellsSecond 17 = .ok (.iconst 1, 1) := sorry
theorem dX0_tellsSecond_18 : decode cX0_tellsSecond 18 = .ok (.iadd, 1) := sorry
theorem dX0_tellsSecond_19 : decode cX0_tellsSecond 19 = .ok (.iaload, 1) := sorry
theorem dX0_tellsSecond_20 : decode cX0_tellsSecond 20 = .ok (.iload_n 1, 1) := sorry
theorem dX0_tellsSecond_21 : decode cX0_tellsSecond 21 = .ok (.if_icmp .ne 5, 3) := sorry
theorem dX0_tellsSecond_24 : decode cX0_tellsSecond 24 = .ok (.iconst 1, 1) := sorry
theorem dX0_tellsSecond_25 : decode cX0_tellsSecond 25 = .ok (.ireturn, 1) := sorry
theorem dX0_tellsSecond_26 : decode cX0_tellsSecond 26 = .ok (.iinc 2 1, 3) := sorry
theorem dX0_tellsSecond_29 : decode cX0_tellsSecond 29 = .ok (.goto (-27), 3) := sorry
theorem dX0_tellsSecond_32 : decode cX0_tellsSecond 32 = .ok (.iconst 0, 1) := sorry
theorem dX0_tellsSecond_33 : decode cX0_tellsSecond 33 = .ok (.ireturn, 1) := sorry
set_option maxRecDepth 20000 in
theorem ggX0_columnsOfJoin_X0_tellsSecond : GoodIn wsX0_columnsOfJoin wsX0_tellsSecond := sorry
set_option maxRecDepth 20000 in
theorem gX0_columnsOfJoin_X0_tellsSecond : GoodIn wsX0_columnsOfJoin (wsV RX0 51 RX0 yX0_tellsSecond wsX0_tellsSecond) := sorry
def dtX0_columnsOfJoin_0_0 : List (Nat × Instr × Nat) := [(0, .aload_n 0, 1), (1, .getfield 28, 3), (4, .istore_n 1, 1), (5, .iconst 0, 1), (6, .istore_n 2, 1), (7, .iload_n 2, 1), (8, .aload_n 0, 1), (9, .getfield 31, 3), (12, .if_icmp .ge 25, 3), (15, .iload_n 1, 1), (16, .aload_n 0, 1), (17, .iload_n 2, 1), (18, .invokevirtual 51, 3), (21, .ifCond .eq 7, 3), (24, .iconst 0, 1), (25, .goto 4, 3), (28, .iconst 1, 1), (29, .iadd, 1), (30, .istore_n 1, 1), (31, .iinc 2 1, 3), (34, .goto (-27), 3), (37, .iload_n 1, 1), (38, .ireturn, 1)]
theorem dtX0_columnsOfJoin_0_0_ok : dcAll cX0_columnsOfJoin dtX0_columnsOfJoin_0_0 = true := sorry
theorem dX0_columnsOfJoin_0 : decode cX0_columnsOfJoin 0 = .ok (.aload_n 0, 1) := sorry
theorem dX0_columnsOfJoin_1 : decode cX0_columnsOfJoin 1 = .ok (.getfield 28, 3) := sorry
theorem dX0_columnsOfJoin_4 : decode cX0_columnsOfJoin 4 = .ok (.istore_n 1, 1) := sorry
theorem dX0_columnsOfJoin_5 : decode cX0_columnsOfJoin 5 = .ok (.iconst 0, 1) := sorry
theorem dX0_columnsOfJoin_6 : decode cX0_columnsOfJoin 6 = .ok (.istore_n 2, 1) := sorry
theorem dX0_columnsOfJoin_7 : decode cX0_columnsOfJoin 7 = .ok (.iload_n 2, 1) := sorry
theorem dX0_columnsOfJoin_8 : decode cX0_columnsOfJoin 8 = .ok (.aload_n 0, 1) := sorry
theorem dX0_columnsOfJoin_9 : decode cX0_columnsOfJoin 9 = .ok (.getfield 31, 3) := sorry
theorem dX0_columnsOfJoin_12 : decode cX0_columnsOfJoin 12 = .ok (.if_icmp .ge 25, 3) := sorry
theorem dX0_columnsOfJoin_15 : decode cX0_columnsOfJoin 15 = .ok (.iload_n 1, 1) := sorry
theorem dX0_columnsOfJoin_16 : decode cX0_columnsOfJoin 16 = .ok (.aload_n 0, 1) := sorry
theorem dX0_columnsOfJoin_17 : decode cX0_columnsOfJoin 17 = .ok (.iload_n 2, 1) := sorry
theorem dX0_columnsOfJoin_18 : decode cX0_columnsOfJoin 18 = .ok (.invokevirtual 51, 3) := sorry
theorem dX0_columnsOfJoin_21 : decode cX0_columnsOfJoin 21 = .ok (.ifCond .eq 7, 3) := sorry
theorem dX0_columnsOfJoin_24 : decode cX0_columnsOfJoin 24 = .ok (.iconst 0, 1) := sorry
theorem dX0_columnsOfJoin_25 : decode cX0_columnsOfJoin 25 = .ok (.goto 4, 3) := sorry
theorem dX0_columnsOfJoin_28 : decode cX0_columnsOfJoin 28 = .ok (.iconst 1, 1) := sorry
theorem dX0_columnsOfJoin_29 : decode cX0_columnsOfJoin 29 = .ok (.iadd, 1) := sorry
theorem dX0_columnsOfJoin_30 : decode cX0_columnsOfJoin 30 = .ok (.istore_n 1, 1) := sorry
theorem dX0_columnsOfJoin_31 : decode cX0_columnsOfJoin 31 = .ok (.iinc 2 1, 3) := sorry
theorem dX0_columnsOfJoin_34 : decode cX0_columnsOfJoin 34 = .ok (.goto (-27), 3) := sorry
theorem dX0_columnsOfJoin_37 : decode cX0_columnsOfJoin 37 = .ok (.iload_n 1, 1) := sorry
theorem dX0_columnsOfJoin_38 : decode cX0_columnsOfJoin 38 = .ok (.ireturn, 1) := sorry
def dtX0_addColumn_0_0 : List (Nat × Instr × Nat) := [(0, .aload_n 0, 1), (1, .getfield 11, 3), (4, .aload_n 0, 1), (5, .getfield 34, 3), (8, .iload_n 1, 1), (9, .iastore, 1), (10, .aload_n 0, 1), (11, .dup, 1), (12, .getfield 34, 3), (15, .iconst 1, 1), (16, .iadd, 1), (17, .putfield 34, 3), (20, .return_, 1)]
theorem dtX0_addColumn_0_0_ok : dcAll cX0_addColumn dtX0_addColumn_0_0 = true := sorry
theorem dX0_addColumn_0 : decode cX0_addColumn 0 = .ok (.aload_n 0, 1) := sorry
theorem dX0_addColumn_1 : decode cX0_addColumn 1 = .ok (.getfield 11, 3) := sorry
theorem dX0_addColumn_4 : decode cX0_addColumn 4 = .ok (.aload_n 0, 1) := sorry
theorem dX0_addColumn_5 : decode cX0_addColumn 5 = .ok (.getfield 34, 3) := sorry
theorem dX0_addColumn_8 : decode cX0_addColumn 8 = .ok (.iload_n 1, 1) := sorry
theorem dX0_addColumn_9 : decode cX0_addColumn 9 = .ok (.iastore, 1) := sorry
theorem dX0_addColumn_10 : decode cX0_addColumn 10 = .ok (.aload_n 0, 1) := sorry
theorem dX0_addColumn_11 : decode cX0_addColumn 11 = .ok (.dup, 1) := sorry
theorem dX0_addColumn_12 : decode cX0_addColumn 12 = .ok (.getfield 34, 3) := sorry
theorem dX0_addColumn_15 : decode cX0_addColumn 15 = .ok (.iconst 1, 1) := sorry
theorem dX0_addColumn_16 : decode cX0_addColumn 16 = .ok (.iadd, 1) := sorry
theorem dX0_addColumn_17 : decode cX0_addColumn 17 = .ok (.putfield 34, 3) := sorry
theorem dX0_addColumn_20 : decode cX0_addColumn 20 = .ok (.return_, 1) := sorry
def dtX0_hasColumn_0_0 : List (Nat × Instr × Nat) := [(0, .iconst 0, 1), (1, .istore_n 2, 1), (2, .iload_n 2, 1), (3, .aload_n 0, 1), (4, .getfield 34, 3), (7, .if_icmp .ge 21, 3), (10, .aload_n 0, 1), (11, .getfield 11, 3), (14, .iload_n 2, 1), (15, .iaload, 1), (16, .iload_n 1, 1), (17, .if_icmp .ne 5, 3), (20, .iconst 1, 1), (21, .ireturn, 1), (22, .iinc 2 1, 3), (25, .goto (-23), 3), (28, .iconst 0, 1), (29, .ireturn, 1)]
theorem dtX0_hasColumn_0_0_ok : dcAll cX0_hasColumn dtX0_hasColumn_0_0 = true := sorry
theorem dX0_hasColumn_0 : decode cX0_hasColumn 0 = .ok (.iconst 0, 1) := sorry
theorem dX0_hasColumn_1 : decode cX0_hasColumn 1 = .ok (.istore_n 2, 1) := sorry
theorem dX0_hasColumn_2 : decode cX0_hasColumn 2 = .ok (.iload_n 2, 1) := sorry
theorem dX0_hasColumn_3 : decode cX0_hasColumn 3 = .ok (.aload_n 0, 1) := sorry
theorem dX0_hasColumn_4 : decode cX0_hasColumn 4 = .ok (.getfield 34, 3) := sorry
theorem dX0_hasColumn_7 : decode cX0_hasColumn 7 = .ok (.if_icmp .ge 21, 3) := sorry
theorem dX0_hasColumn_10 : decode cX0_hasColumn 10 = .ok (.aload_n 0, 1) := sorry
theorem dX0_hasColumn_11 : decode cX0_hasColumn 11 = .ok (.getfield 11, 3) := sorry
theorem dX0_hasColumn_14 : decode cX0_hasColumn 14 = .ok (.iload_n 2, 1) := sorry
theorem dX0_hasColumn_15 : decode cX0_hasColumn 15 = .ok (.iaload, 1) := sorry
theorem dX0_hasColumn_16 : decode cX0_hasColumn 16 = .ok (.iload_n 1, 1) := sorry
theorem dX0_hasColumn_17 : decode cX0_hasColumn 17 = .ok (.if_icmp .ne 5, 3) := sorry
theorem dX0_hasColumn_20 : decode cX0_hasColumn 20 = .ok (.iconst 1, 1) := sorry
theorem dX0_hasColumn_21 : decode cX0_hasColumn 21 = .ok (.ireturn, 1) := sorry
theorem dX0_hasColumn_22 : decode cX0_hasColumn 22 = .ok (.iinc 2 1, 3) := sorry
theorem dX0_hasColumn_25 : decode cX0_hasColumn 25 = .ok (.goto (-23), 3) := sorry
theorem dX0_hasColumn_28 : decode cX0_hasColumn 28 = .ok (.iconst 0, 1) := sorry
theorem dX0_hasColumn_29 : decode cX0_hasColumn 29 = .ok (.ireturn, 1) := sorry
set_option maxRecDepth 20000 in
theorem ggX1_init_X5_init : GoodIn wsX1_init wsX5_init := sorry
set_option maxRecDepth 20000 in
theorem gX1_init_X5_init_n11 : GoodIn wsX1_init (wsX5_init) := sorry
set_option maxRecDepth 20000 in
theorem ggX1_init_X2_init : GoodIn wsX1_init wsX2_init := sorry
set_option maxRecDepth 20000 in
theorem gX1_init_X2_init : GoodIn wsX1_init (wsX2_init) := sorry
def dtX1_init_0_0 : List (Nat × Instr × Nat) := [(0, .aload_n 0, 1), (1, .invokespecial 3, 3), (4, .aload_n 0, 1), (5, .new 9, 3), (8, .dup, 1), (9, .invokespecial 11, 3), (12, .putfield 12, 3), (15, .aload_n 0, 1), (16, .new 18, 3), (19, .dup, 1), (20, .invokespecial 20, 3), (23, .putfield 21, 3), (26, .aload_n 0, 1), (27, .aload_n 0, 1), (28, .getfield 21, 3), (31, .getfield 25, 3), (34, .iconst 0, 1), (35, .aaload, 1), (36, .putfield 29, 3), (39, .return_, 1)]
theorem dtX1_init_0_0_ok : dcAll cX1_init dtX1_init_0_0 = true := sorry
theorem dX1_init_0 : decode cX1_init 0 = .ok (.aload_n 0, 1) := sorry
theorem dX1_init_1 : decode cX1_init 1 = .ok (.invokespecial 3, 3) := sorry
theorem dX1_init_4 : decode cX1_init 4 = .ok (.aload_n 0, 1) := sorry
theorem dX1_init_5 : decode cX1_init 5 = .ok (.new 9, 3) := sorry
theorem dX1_init_8 : decode cX1_init 8 = .ok (.dup, 1) := sorry
theorem dX1_init_9 : decode cX1_init 9 = .ok (.invokespecial 11, 3) := sorry
theorem dX1_init_12 : decode cX1_init 12 = .ok (.putfield 12, 3) := sorry
theorem dX1_init_15 : decode cX1_init 15 = .ok (.aload_n 0, 1) := sorry
theorem dX1_init_16 : decode cX1_init 16 = .ok (.new 18, 3) := sorry
theorem dX1_init_19 : decode cX1_init 19 = .ok (.dup, 1) := sorry
theorem dX1_init_20 : decode cX1_init 20 = .ok (.invokespecial 20, 3) := sorry
theorem dX1_init_23 : decode cX1_init 23 = .ok (.putfield 21, 3) := sorry
theorem dX1_init_26 : decode cX1_init 26 = .ok (.aload_n 0, 1) := sorry
theorem dX1_init_27 : decode cX1_init 27 = .ok (.aload_n 0, 1) := sorry
theorem dX1_init_28 : decode cX1_init 28 = .ok (.getfield 21, 3) := sorry
theorem dX1_init_31 : decode cX1_init 31 = .ok (.getfield 25, 3) := sorry
theorem dX1_init_34 : decode cX1_init 34 = .ok (.iconst 0, 1) := sorry
theorem dX1_init_35 : decode cX1_init 35 = .ok (.aaload, 1) := sorry
theorem dX1_init_36 : decode cX1_init 36 = .ok (.putfield 29, 3) := sorry
theorem dX1_init_39 : decode cX1_init 39 = .ok (.return_, 1) := sorry
def dtX1_exchangePlan_0_0 : List (Nat × Instr × Nat) := [(0, .aload_n 0, 1), (1, .getfield 21, 3), (4, .astore_n 2, 1), (5, .aload_n 0, 1), (6, .aload_n 1, 1), (7, .putfield 21, 3), (10, .aload_n 2, 1), (11, .areturn, 1)]
theorem dtX1_exchangePlan_0_0_ok : dcAll cX1_exchangePlan dtX1_exchangePlan_0_0 = true := sorry
theorem dX1_exchangePlan_0 : decode cX1_exchangePlan 0 = .ok (.aload_n 0, 1) := sorry
theorem dX1_exchangePlan_1 : decode cX1_exchangePlan 1 = .ok (.getfield 21, 3) := sorry
theorem dX1_exchangePlan_4 : decode cX1_exchangePlan 4 = .ok (.astore_n 2, 1) := sorry
theorem dX1_exchangePlan_5 : decode cX1_exchangePlan 5 = .ok (.aload_n 0, 1) := sorry
theorem dX1_exchangePlan_6 : decode cX1_exchangePlan 6 = .ok (.aload_n 1, 1) := sorry
theorem dX1_exchangePlan_7 : decode cX1_exchangePlan 7 = .ok (.putfield 21, 3) := sorry
theorem dX1_exchangePlan_10 : decode cX1_exchangePlan 10 = .ok (.aload_n 2, 1) := sorry
theorem dX1_exchangePlan_11 : decode cX1_exchangePlan 11 = .ok (.areturn, 1) := sorry
set_option maxRecDepth 20000 in
theorem ggX1_parse_X5_read : GoodIn wsX1_parse wsX5_read := sorry
set_option maxRecDepth 20000 in
theorem gX1_parse_X5_read : GoodIn wsX1_parse (wsV RX1 33 RX5 yX5_read wsX5_read) := sorry
set_option maxRecDepth 20000 in
theorem ggX1_parse_X1_readHead : GoodIn wsX1_parse wsX1_readHead := sorry
set_option maxRecDepth 20000 in
theorem gX1_parse_X1_readHead : GoodIn wsX1_parse (wsV RX1 51 RX1 yX1_readHead wsX1_readHead) := sorry
set_option maxRecDepth 20000 in
theorem ggX1_parse_X1_readBody : GoodIn wsX1_parse wsX1_readBody := sorry
set_option maxRecDepth 20000 in
theorem gX1_parse_X1_readBody : GoodIn wsX1_parse (wsV RX1 55 RX1 yX1_readBody wsX1_readBody) := sorry
set_option maxRecDepth 20000 in
theorem ggX1_parse_X1_readClose : GoodIn wsX1_parse wsX1_readClose := sorry
set_option maxRecDepth 20000 in
theorem gX1_parse_X1_readClose : GoodIn wsX1_parse (wsV RX1 58 RX1 yX1_readClose wsX1_readClose) := sorry
set_option maxRecDepth 20000 in
theorem ggX1_parse_X2_keepLine : GoodIn wsX1_parse wsX2_keepLine := sorry
set_option maxRecDepth 20000 in
theorem gX1_parse_X2_keepLine : GoodIn wsX1_parse (wsV RX1 64 RX2 yX2_keepLine wsX2_keepLine) := sorry
def dtX1_parse_0_0 : List (Nat × Instr × Nat) := [(0, .aload_n 0, 1), (1, .getfield 12, 3), (4, .aload_n 1, 1), (5, .iload_n 2, 1), (6, .invokevirtual 33, 3), (9, .aload_n 0, 1), (10, .getfield 21, 3), (13, .iconst 0, 1), (14, .putfield 37, 3), (17, .aload_n 0, 1), (18, .getfield 21, 3), (21, .iconst 0, 1), (22, .putfield 41, 3), (25, .aload_n 0, 1), (26, .iconst 0, 1), (27, .putfield 44, 3), (30, .iconst 0, 1), (31, .istore_n 3, 1), (32, .iload_n 3, 1), (33, .bipush 16, 2), (35, .if_icmp .gt 83, 3), (38, .aload_n 0, 1), (39, .getfield 12, 3), (42, .getfield 47, 3), (45, .aload_n 0, 1), (46, .getfield 44, 3), (49, .iaload, 1), (50, .ifCond .eq 68, 3), (53, .aload_n 0, 1), (54, .invokevirtual 51, 3), (57, .istore 4, 2), (59, .iload 4, 2)]
theorem dtX1_parse_0_0_ok : dcAll cX1_parse dtX1_parse_0_0 = true := sorry
theorem dX1_parse_0 : decode cX1_parse 0 = .ok (.aload_n 0, 1) := sorry
theorem dX1_parse_1 : decode cX1_parse 1 = .ok (.getfield 12, 3) := sorry
theorem dX1_parse_4 : decode cX1_parse 4 = .ok (.aload_n 1, 1) := sorry
theorem dX1_parse_5 : decode cX1_parse 5 = .ok (.iload_n 2, 1) := sorry
theorem dX1_parse_6 : decode cX1_parse 6 = .ok (.invokevirtual 33, 3) := sorry
theorem dX1_parse_9 : decode cX1_parse 9 = .ok (.aload_n 0, 1) := sorry
theorem dX1_parse_10 : decode cX1_parse 10 = .ok (.getfield 21, 3) := sorry
theorem dX1_parse_13 : decode cX1_parse 13 = .ok (.iconst 0, 1) := sorry
theorem dX1_parse_14 : decode cX1_parse 14 = .ok (.putfield 37, 3) := sorry
theorem dX1_parse_17 : decode cX1_parse 17 = .ok (.aload_n 0, 1) := sorry
theorem dX1_parse_18 : decode cX1_parse 18 = .ok (.getfield 21, 3) := sorry
theorem dX1_parse_21 : decode cX1_parse 21 = .ok (.iconst 0, 1) := sorry
theorem dX1_parse_22 : decode cX1_parse 22 = .ok (.putfield 41, 3) := sorry
theorem dX1_parse_25 : decode cX1_parse 25 = .ok (.aload_n 0, 1) := sorry
theorem dX1_parse_26 : decode cX1_parse 26 = .ok (.iconst 0, 1) := sorry
theorem dX1_parse_27 : decode cX1_parse 27 = .ok (.putfield 44, 3) := sorry
theorem dX1_parse_30 : decode cX1_parse 30 = .ok (.iconst 0, 1) := sorry
theorem dX1_parse_31 : decode cX1_parse 31 = .ok (.istore_n 3, 1) := sorry
theorem dX1_parse_32 : decode cX1_parse 32 = .ok (.iload_n 3, 1) := sorry
theorem dX1_parse_33 : decode cX1_parse 33 = .ok (.bipush 16, 2) := sorry
theorem dX1_parse_35 : decode cX1_parse 35 = .ok (.if_icmp .gt 83, 3) := sorry
theorem dX1_parse_38 : decode cX1_parse 38 = .ok (.aload_n 0, 1) := sorry
theorem dX1_parse_39 : decode cX1_parse 39 = .ok (.getfield 12, 3) := sorry
theorem dX1_parse_42 : decode cX1_parse 42 = .ok (.getfield 47, 3) := sorry
theorem dX1_parse_45 : decode cX1_parse 45 = .ok (.aload_n 0, 1) := sorry
theorem dX1_parse_46 : decode cX1_parse 46 = .ok (.getfield 44, 3) := sorry
theorem dX1_parse_49 : decode cX1_parse 49 = .ok (.iaload, 1) := sorry
theorem dX1_parse_50 : decode cX1_parse 50 = .ok (.ifCond .eq 68, 3) := sorry
theorem dX1_parse_53 : decode cX1_parse 53 = .ok (.aload_n 0, 1) := sorry
theorem dX1_parse_54 : decode cX1_parse 54 = .ok (.invokevirtual 51, 3) := sorry
theorem dX1_parse_57 : decode cX1_parse 57 = .ok (.istore 4, 2) := sorry
theorem dX1_parse_59 : decode cX1_parse 59 = .ok (.iload 4, 2) := sorry
def dtX1_parse_61_1 : List (Nat × Instr × Nat) := [(61, .ifCond .ne 9, 3), (64, .aload_n 0, 1), (65, .invokevirtual 55, 3), (68, .istore 4, 2), (70, .iload 4, 2), (72, .ifCond .ne 9, 3), (75, .aload_n 0, 1), (76, .invokevirtual 58, 3), (79, .istore 4, 2), (81, .iload 4, 2), (83, .ifCond .eq 22, 3), (86, .bipush 8, 2), (88, .aload_n 0, 1), (89, .getfield 12, 3), (92, .getfield 61, 3), (95, .aload_n 0, 1), (96, .getfield 44, 3), (99, .iaload, 1), (100, .imul, 1), (101, .iload 4, 2), (103, .iadd, 1), (104, .ireturn, 1), (105, .aload_n 0, 1), (106, .getfield 21, 3), (109, .invokevirtual 64, 3), (112, .iinc 3 1, 3), (115, .goto (-83), 3), (118, .iconst 0, 1), (119, .ireturn, 1)]
theorem dtX1_parse_61_1_ok : dcAll cX1_parse dtX1_parse_61_1 = true := sorry
theorem dX1_parse_61 : decode cX1_parse 61 = .ok (.ifCond .ne 9, 3) := sorry
theorem dX1_parse_64 : decode cX1_parse 64 = .ok (.aload_n 0, 1) := sorry
theorem dX1_parse_65 : decode cX1_parse 65 = .ok (.invokevirtual 55, 3) := sorry
theorem dX1_parse_68 : decode cX1_parse 68 = .ok (.istore 4, 2) := sorry
theorem dX1_parse_70 : decode cX1_parse 70 = .ok (.iload 4, 2) := sorry
theorem dX1_parse_72 : decode cX1_parse 72 = .ok (.ifCond .ne 9, 3) := sorry
theorem dX1_parse_75 : decode cX1_parse 75 = .ok (.aload_n 0, 1) := sorry
theorem dX1_parse_76 : decode cX1_parse 76 = .ok (.invokevirtual 58, 3) := sorry
theorem dX1_parse_79 : decode cX1_parse 79 = .ok (.istore 4, 2) := sorry
theorem dX1_parse_81 : decode cX1_parse 81 = .ok (.iload 4, 2) := sorry
theorem dX1_parse_83 : decode cX1_parse 83 = .ok (.ifCond .eq 22, 3) := sorry
theorem dX1_parse_86 : decode cX1_parse 86 = .ok (.bipush 8, 2) := sorry
theorem dX1_parse_88 : decode cX1_parse 88 = .ok (.aload_n 0, 1) := sorry
theorem dX1_parse_89 : decode cX1_parse 89 = .ok (.getfield 12, 3) := sorry
theorem dX1_parse_92 : decode cX1_parse 92 = .ok (.getfield 61, 3) := sorry
theorem dX1_parse_95 : decode cX1_parse 95 = .ok (.aload_n 0, 1) := sorry
theorem dX1_parse_96 : decode cX1_parse 96 = .ok (.getfield 44, 3) := sorry
theorem dX1_parse_99 : decode cX1_parse 99 = .ok (.iaload, 1) := sorry
theorem dX1_parse_100 : decode cX1_parse 100 = .ok (.imul, 1) := sorry
theorem dX1_parse_101 : decode cX1_parse 101 = .ok (.iload 4, 2) := sorry
theorem dX1_parse_103 : decode cX1_parse 103 = .ok (.iadd, 1) := sorry
theorem dX1_parse_104 : decode cX1_parse 104 = .ok (.ireturn, 1) := sorry
theorem dX1_parse_105 : decode cX1_parse 105 = .ok (.aload_n 0, 1) := sorry
theorem dX1_parse_106 : decode cX1_parse 106 = .ok (.getfield 21, 3) := sorry
theorem dX1_parse_109 : decode cX1_parse 109 = .ok (.invokevirtual 64, 3) := sorry
theorem dX1_parse_112 : decode cX1_parse 112 = .ok (.iinc 3 1, 3) := sorry
theorem dX1_parse_115 : decode cX1_parse 115 = .ok (.goto (-83), 3) := sorry
theorem dX1_parse_118 : decode cX1_parse 118 = .ok (.iconst 0, 1) := sorry
theorem dX1_parse_119 : decode cX1_parse 119 = .ok (.ireturn, 1) := sorry
def dtX1_isKind_0_0 : List (Nat × Instr × Nat) := [(0, .aload_n 0, 1), (1, .getfield 12, 3), (4, .getfield 47, 3), (7, .aload_n 0, 1), (8, .getfield 44, 3), (11, .iaload, 1), (12, .iload_n 1, 1), (13, .if_icmp .ne 7, 3), (16, .iconst 1, 1), (17, .goto 4, 3), (20, .iconst 0, 1), (21, .ireturn, 1)]
theorem dtX1_isKind_0_0_ok : dcAll cX1_isKind dtX1_isKind_0_0 = true := sorry
theorem dX1_isKind_0 : decode cX1_isKind 0 = .ok (.aload_n 0, 1) := sorry
theorem dX1_isKind_1 : decode cX1_isKind 1 = .ok (.getfield 12, 3) := sorry
theorem dX1_isKind_4 : decode cX1_isKind 4 = .ok (.getfield 47, 3) := sorry
theorem dX1_isKind_7 : decode cX1_isKind 7 = .ok (.aload_n 0, 1) := sorry
theorem dX1_isKind_8 : decode cX1_isKind 8 = .ok (.getfield 44, 3) := sorry
theorem dX1_isKind_11 : decode cX1_isKind 11 = .ok (.iaload, 1) := sorry
theorem dX1_isKind_12 : decode cX1_isKind 12 = .ok (.iload_n 1, 1) := sorry
theorem dX1_isKind_13 : decode cX1_isKind 13 = .ok (.if_icmp .ne 7, 3) := sorry
theorem dX1_isKind_16 : decode cX1_isKind 16 = .ok (.iconst 1, 1) := sorry
theorem dX1_isKind_17 : decode cX1_isKind 17 = .ok (.goto 4, 3) := sorry
theorem dX1_isKind_20 : decode cX1_isKind 20 = .ok (.iconst 0, 1) := sorry
theorem dX1_isKind_21 : decode cX1_isKind 21 = .ok (.ireturn, 1) := sorry
set_option maxRecDepth 20000 in
theorem ggX1_isWord_X1_isKind : GoodIn wsX1_isWord wsX1_isKind := sorry
set_option maxRecDepth 20000 in
theorem gX1_isWord_X1_isKind : GoodIn wsX1_isWord (wsV RX1 67 RX1 yX1_isKind wsX1_isKind) := sorry
def dtX1_isWord_0_0 : List (Nat × Instr × Nat) := [(0, .aload_n 0, 1), (1, .iconst 3, 1), (2, .invokevirtual 67, 3), (5, .ifCond .eq 23, 3), (8, .aload_n 0, 1), (9, .getfield 12, 3), (12, .getfield 71, 3), (15, .aload_n 0, 1), (16, .getfield 44, 3), (19, .iaload, 1), (20, .iload_n 1, 1), (21, .if_icmp .ne 7, 3), (24, .iconst 1, 1), (25, .goto 4, 3), (28, .iconst 0, 1), (29, .ireturn, 1)]
theorem dtX1_isWord_0_0_ok : dcAll cX1_isWord dtX1_isWord_0_0 = true := sorry
theorem dX1_isWord_0 : decode cX1_isWord 0 = .ok (.aload_n 0, 1) := sorry
theorem dX1_isWord_1 : decode cX1_isWord 1 = .ok (.iconst 3, 1) := sorry
theorem dX1_isWord_2 : decode cX1_isWord 2 = .ok (.invokevirtual 67, 3) := sorry
theorem dX1_isWord_5 : decode cX1_isWord 5 = .ok (.ifCond .eq 23, 3) := sorry
theorem dX1_isWord_8 : decode cX1_isWord 8 = .ok (.aload_n 0, 1) := sorry
theorem dX1_isWord_9 : decode cX1_isWord 9 = .ok (.getfield 12, 3) := sorry
theorem dX1_isWord_12 : decode cX1_isWord 12 = .ok (.getfield 71, 3) := sorry
theorem dX1_isWord_15 : decode cX1_isWord 15 = .ok (.aload_n 0, 1) := sorry
theorem dX1_isWord_16 : decode cX1_isWord 16 = .ok (.getfield 44, 3) := sorry
theorem dX1_isWord_19 : decode cX1_isWord 19 = .ok (.iaload, 1) := sorry
theorem dX1_isWord_20 : decode cX1_isWord 20 = .ok (.iload_n 1, 1) := sorry
theorem dX1_isWord_21 : decode cX1_isWord 21 = .ok (.if_icmp .ne 7, 3) := sorry
theorem dX1_isWord_24 : decode cX1_isWord 24 = .ok (.iconst 1, 1) := sorry
theorem dX1_isWord_25 : decode cX1_isWord 25 = .ok (.goto 4, 3) := sorry
theorem dX1_isWord_28 : decode cX1_isWord 28 = .ok (.iconst 0, 1) := sorry
theorem dX1_isWord_29 : decode cX1_isWord 29 = .ok (.ireturn, 1) := sorry
def dtX1_step_0_0 : List (Nat × Instr × Nat) := [(0, .aload_n 0, 1), (1, .getfield 44, 3), (4, .aload_n 0, 1), (5, .getfield 12, 3), (8, .getfield 74, 3), (11, .iconst 1, 1), (12, .isub, 1), (13, .if_icmp .ge 13, 3), (16, .aload_n 0, 1), (17, .dup, 1), (18, .getfield 44, 3), (21, .iconst 1, 1), (22, .iadd, 1), (23, .putfield 44, 3), (26, .return_, 1)]
theorem dtX1_step_0_0_ok : dcAll cX1_step dtX1_step_0_0 = true := sorry
theorem dX1_step_0 : decode cX1_step 0 = .ok (.aload_n 0, 1) := sorry
theorem dX1_step_1 : decode cX1_step 1 = .ok (.getfield 44, 3) := sorry
theorem dX1_step_4 : decode cX1_step 4 = .ok (.aload_n 0, 1) := sorry
theorem dX1_step_5 : decode cX1_step 5 = .ok (.getfield 12, 3) := sorry
theorem dX1_step_8 : decode cX1_step 8 = .ok (.getfield 74, 3) := sorry
theorem dX1_step_11 : decode cX1_step 11 = .ok (.iconst 1, 1) := sorry
theorem dX1_step_12 : decode cX1_step 12 = .ok (.isub, 1) := sorry
theorem dX1_step_13 : decode cX1_step 13 = .ok (.if_icmp .ge 13, 3) := sorry
theorem dX1_step_16 : decode cX1_step 16 = .ok (.aload_n 0, 1) := sorry
theorem dX1_step_17 : decode cX1_step 17 = .ok (.dup, 1) := sorry
theorem dX1_step_18 : decode cX1_step 18 = .ok (.getfield 44, 3) := sorry
theorem dX1_step_21 : decode cX1_step 21 = .ok (.iconst 1, 1) := sorry
theorem dX1_step_22 : decode cX1_step 22 = .ok (.iadd, 1) := sorry
theorem dX1_step_23 : decode cX1_step 23 = .ok (.putfield 44, 3) := sorry
theorem dX1_step_26 : decode cX1_step 26 = .ok (.return_, 1) := sorry
set_option maxRecDepth 20000 in
theorem ggX1_takeKind_X1_isKind : GoodIn wsX1_takeKind wsX1_isKind := sorry
set_option maxRecDepth 20000 in
theorem gX1_takeKind_X1_isKind : GoodIn wsX1_takeKind (wsV RX1 67 RX1 yX1_isKind wsX1_isKind) := sorry
set_option maxRecDepth 20000 in
theorem ggX1_takeKind_X1_step : GoodIn wsX1_takeKind wsX1_step := sorry
set_option maxRecDepth 20000 in
theorem gX1_takeKind_X1_step : GoodIn wsX1_takeKind (wsV RX1 75 RX1 yX1_step wsX1_step) := sorry
def dtX1_takeKind_0_0 : List (Nat × Instr × Nat) := [(0, .aload_n 0, 1), (1, .iload_n 1, 1), (2, .invokevirtual 67, 3), (5, .ifCond .ne 5, 3), (8, .iconst 1, 1), (9, .ireturn, 1), (10, .aload_n 0, 1), (11, .invokevirtual 75, 3), (14, .iconst 0, 1), (15, .ireturn, 1)]
theorem dtX1_takeKind_0_0_ok : dcAll cX1_takeKind dtX1_takeKind_0_0 = true := sorry
theorem dX1_takeKind_0 : decode cX1_takeKind 0 = .ok (.aload_n 0, 1) := sorry
theorem dX1_takeKind_1 : decode cX1_takeKind 1 = .ok (.iload_n 1, 1) := sorry
theorem dX1_takeKind_2 : decode cX1_takeKind 2 = .ok (.invokevirtual 67, 3) := sorry
theorem dX1_takeKind_5 : decode cX1_takeKind 5 = .ok (.ifCond .ne 5, 3) := sorry
theorem dX1_takeKind_8 : decode cX1_takeKind 8 = .ok (.iconst 1, 1) := sorry
theorem dX1_takeKind_9 : decode cX1_takeKind 9 = .ok (.ireturn, 1) := sorry
theorem dX1_takeKind_10 : decode cX1_takeKind 10 = .ok (.aload_n 0, 1) := sorry
theorem dX1_takeKind_11 : decode cX1_takeKind 11 = .ok (.invokevirtual 75, 3) := sorry
theorem dX1_takeKind_14 : decode cX1_takeKind 14 = .ok (.iconst 0, 1) := sorry
theorem dX1_takeKind_15 : decode cX1_takeKind 15 = .ok (.ireturn, 1) := sorry
set_option maxRecDepth 20000 in
theorem ggX1_takeWord_X1_isWord : GoodIn wsX1_takeWord wsX1_isWord := sorry
set_option maxRecDepth 20000 in
theorem gX1_takeWord_X1_isWord : GoodIn wsX1_takeWord (wsV RX1 78 RX1 yX1_isWord wsX1_isWord) := sorry
set_option maxRecDepth 20000 in
theorem ggX1_takeWord_X1_step : GoodIn wsX1_takeWord wsX1_step := sorry
set_option maxRecDepth 20000 in
theorem gX1_takeWord_X1_step : GoodIn wsX1_takeWord (wsV RX1 75 RX1 yX1_step wsX1_step) := sorry
def dtX1_takeWord_0_0 : List (Nat × Instr × Nat) := [(0, .aload_n 0, 1), (1, .iload_n 1, 1), (2, .invokevirtual 78, 3), (5, .ifCond .ne 5, 3), (8, .iconst 1, 1), (9, .ireturn, 1), (10, .aload_n 0, 1), (11, .invokevirtual 75, 3), (14, .iconst 0, 1), (15, .ireturn, 1)]
theorem dtX1_takeWord_0_0_ok : dcAll cX1_takeWord dtX1_takeWord_0_0 = true := sorry
theorem dX1_takeWord_0 : decode cX1_takeWord 0 = .ok (.aload_n 0, 1) := sorry
theorem dX1_takeWord_1 : decode cX1_takeWord 1 = .ok (.iload_n 1, 1) := sorry
theorem dX1_takeWord_2 : decode cX1_takeWord 2 = .ok (.invokevirtual 78, 3) := sorry
theorem dX1_takeWord_5 : decode cX1_takeWord 5 = .ok (.ifCond .ne 5, 3) := sorry
theorem dX1_takeWord_8 : decode cX1_takeWord 8 = .ok (.iconst 1, 1) := sorry
theorem dX1_takeWord_9 : decode cX1_takeWord 9 = .ok (.ireturn, 1) := sorry
theorem dX1_takeWord_10 : decode cX1_takeWord 10 = .ok (.aload_n 0, 1) := sorry
theorem dX1_takeWord_11 : decode cX1_takeWord 11 = .ok (.invokevirtual 75, 3) := sorry
theorem dX1_takeWord_14 : decode cX1_takeWord 14 = .ok (.iconst 0, 1) := sorry
theorem dX1_takeWord_15 : decode cX1_takeWord 15 = .ok (.ireturn, 1) := sorry
set_option maxRecDepth 20000 in
theorem ggX1_readHead_X1_isWord : GoodIn wsX1_readHead wsX1_isWord := sorry
set_option maxRecDepth 20000 in
theorem gX1_readHead_X1_isWord : GoodIn wsX1_readHead (wsV RX1 78 RX1 yX1_isWord wsX1_isWord) := sorry
set_option maxRecDepth 20000 in
theorem ggX1_readHead_X1_step : GoodIn wsX1_readHead wsX1_step := sorry
set_option maxRecDepth 20000 in
theorem gX1_readHead_X1_step : GoodIn wsX1_readHead (wsV RX1 75 RX1 yX1_step wsX1_step) := sorry
set_option maxRecDepth 20000 in
theorem ggX1_readHead_X0_clear : GoodIn wsX1_readHead wsX0_clear := sorry
set_option maxRecDepth 20000 in
theorem gX1_readHead_X0_clear : GoodIn wsX1_readHead (wsV RX1 81 RX0 yX0_clear wsX0_clear) := sorry
set_option maxRecDepth 20000 in
theorem ggX1_readHead_X1_readNewName : GoodIn wsX1_readHead wsX1_readNewName := sorry
set_option maxRecDepth 20000 in
theorem gX1_readHead_X1_readNewName : GoodIn wsX1_readHead (wsV RX1 87 RX1 yX1_readNewName wsX1_readNewName) := sorry
set_option maxRecDepth 20000 in
theorem ggX1_readHead_X1_readViewKind : GoodIn wsX1_readHead wsX1_readViewKind := sorry
set_option maxRecDepth 20000 in
theorem gX1_readHead_X1_readViewKind : GoodIn wsX1_readHead (wsV RX1 90 RX1 yX1_readViewKind wsX1_readViewKind) := sorry
def dtX1_readHead_0_0 : List (Nat × Instr × Nat) := [(0, .aload_n 0, 1), (1, .iconst 0, 1), (2, .invokevirtual 78, 3), (5, .istore_n 1, 1), (6, .iload_n 1, 1), (7, .ifCond .ne 14, 3), (10, .aload_n 0, 1), (11, .bipush 9, 2), (13, .invokevirtual 78, 3), (16, .ifCond .ne 5, 3), (19, .iconst 1, 1), (20, .ireturn, 1), (21, .aload_n 0, 1), (22, .getfield 21, 3), (25, .getfield 37, 3), (28, .bipush 16, 2), (30, .if_icmp .lt 5, 3), (33, .iconst 4, 1), (34, .ireturn, 1), (35, .iload_n 1, 1), (36, .ifCond .eq 23, 3), (39, .aload_n 0, 1), (40, .getfield 21, 3), (43, .getfield 37, 3), (46, .aload_n 0, 1), (47, .getfield 21, 3), (50, .getfield 41, 3), (53, .if_icmp .le 6, 3), (56, .bipush 6, 2), (58, .ireturn, 1), (59, .aload_n 0, 1), (60, .invokevirtual 75, 3)]
theorem dtX1_readHead_0_0_ok : dcAll cX1_readHead dtX1_readHead_0_0 = true := sorry
theorem dX1_readHead_0 : decode cX1_readHead 0 = .ok (.aload_n 0, 1) := sorry
theorem dX1_readHead_1 : decode cX1_readHead 1 = .ok (.iconst 0, 1) := sorry
theorem dX1_readHead_2 : decode cX1_readHead 2 = .ok (.invokevirtual 78, 3) := sorry
theorem dX1_readHead_5 : decode cX1_readHead 5 = .ok (.istore_n 1, 1) := sorry
theorem dX1_readHead_6 : decode cX1_readHead 6 = .ok (.iload_n 1, 1) := sorry
theorem dX1_readHead_7 : decode cX1_readHead 7 = .ok (.ifCond .ne 14, 3) := sorry
theorem dX1_readHead_10 : decode cX1_readHead 10 = .ok (.aload_n 0, 1) := sorry
theorem dX1_readHead_11 : decode cX1_readHead 11 = .ok (.bipush 9, 2) := sorry
theorem dX1_readHead_13 : decode cX1_readHead 13 = .ok (.invokevirtual 78, 3) := sorry
theorem dX1_readHead_16 : decode cX1_readHead 16 = .ok (.ifCond .ne 5, 3) := sorry
theorem dX1_readHead_19 : decode cX1_readHead 19 = .ok (.iconst 1, 1) := sorry
theorem dX1_readHead_20 : decode cX1_readHead 20 = .ok (.ireturn, 1) := sorry
theorem dX1_readHead_21 : decode cX1_readHead 21 = .ok (.aload_n 0, 1) := sorry
theorem dX1_readHead_22 : decode cX1_readHead 22 = .ok (.getfield 21, 3) := sorry
theorem dX1_readHead_25 : decode cX1_readHead 25 = .ok (.getfield 37, 3) := sorry
theorem dX1_readHead_28 : decode cX1_readHead 28 = .ok (.bipush 16, 2) := sorry
theorem dX1_readHead_30 : decode cX1_readHead 30 = .ok (.if_icmp .lt 5, 3) := sorry
theorem dX1_readHead_33 : decode cX1_readHead 33 = .ok (.iconst 4, 1) := sorry
theorem dX1_readHead_34 : decode cX1_readHead 34 = .ok (.ireturn, 1) := sorry
theorem dX1_readHead_35 : decode cX1_readHead 35 = .ok (.iload_n 1, 1) := sorry
theorem dX1_readHead_36 : decode cX1_readHead 36 = .ok (.ifCond .eq 23, 3) := sorry
theorem dX1_readHead_39 : decode cX1_readHead 39 = .ok (.aload_n 0, 1) := sorry
theorem dX1_readHead_40 : decode cX1_readHead 40 = .ok (.getfield 21, 3) := sorry
theorem dX1_readHead_43 : decode cX1_readHead 43 = .ok (.getfield 37, 3) := sorry
theorem dX1_readHead_46 : decode cX1_readHead 46 = .ok (.aload_n 0, 1) := sorry
theorem dX1_readHead_47 : decode cX1_readHead 47 = .ok (.getfield 21, 3) := sorry
theorem dX1_readHead_50 : decode cX1_readHead 50 = .ok (.getfield 41, 3) := sorry
theorem dX1_readHead_53 : decode cX1_readHead 53 = .ok (.if_icmp .le 6, 3) := sorry
theorem dX1_readHead_56 : decode cX1_readHead 56 = .ok (.bipush 6, 2) := sorry
theorem dX1_readHead_58 : decode cX1_readHead 58 = .ok (.ireturn, 1) := sorry
theorem dX1_readHead_59 : decode cX1_readHead 59 = .ok (.aload_n 0, 1) := sorry
theorem dX1_readHead_60 : decode cX1_readHead 60 = .ok (.invokevirtual 75, 3) := sorry
def dtX1_readHead_63_1 : List (Nat × Instr × Nat) := [(63, .aload_n 0, 1), (64, .aload_n 0, 1), (65, .getfield 21, 3), (68, .getfield 25, 3), (71, .aload_n 0, 1), (72, .getfield 21, 3), (75, .getfield 37, 3), (78, .aaload, 1), (79, .putfield 29, 3), (82, .aload_n 0, 1), (83, .getfield 29, 3), (86, .iconst 0, 1), (87, .invokevirtual 81, 3), (90, .aload_n 0, 1), (91, .invokevirtual 87, 3), (94, .istore_n 2, 1), (95, .iload_n 2, 1), (96, .ifCond .ne 12, 3), (99, .iload_n 1, 1), (100, .ifCond .ne 8, 3), (103, .aload_n 0, 1), (104, .invokevirtual 90, 3), (107, .istore_n 2, 1), (108, .iload_n 2, 1), (109, .ireturn, 1)]
theorem dtX1_readHead_63_1_ok : dcAll cX1_readHead dtX1_readHead_63_1 = true := sorry
theorem dX1_readHead_63 : decode cX1_readHead 63 = .ok (.aload_n 0, 1) := sorry
theorem dX1_readHead_64 : decode cX1_readHead 64 = .ok (.aload_n 0, 1) := sorry
theorem dX1_readHead_65 : decode cX1_readHead 65 = .ok (.getfield 21, 3) := sorry
theorem dX1_readHead_68 : decode cX1_readHead 68 = .ok (.getfield 25, 3) := sorry
theorem dX1_readHead_71 : decode cX1_readHead 71 = .ok (.aload_n 0, 1) := sorry
theorem dX1_readHead_72 : decode cX1_readHead 72 = .ok (.getfield 21, 3) := sorry
theorem dX1_readHead_75 : decode cX1_readHead 75 = .ok (.getfield 37, 3) := sorry
theorem dX1_readHead_78 : decode cX1_readHead 78 = .ok (.aaload, 1) := sorry
theorem dX1_readHead_79 : decode cX1_readHead 79 = .ok (.putfield 29, 3) := sorry
theorem dX1_readHead_82 : decode cX1_readHead 82 = .ok (.aload_n 0, 1) := sorry
theorem dX1_readHead_83 : decode cX1_readHead 83 = .ok (.getfield 29, 3) := sorry
theorem dX1_readHead_86 : decode cX1_readHead 86 = .ok (.iconst 0, 1) := sorry
theorem dX1_readHead_87 : decode cX1_readHead 87 = .ok (.invokevirtual 81, 3) := sorry
theorem dX1_readHead_90 : decode cX1_readHead 90 = .ok (.aload_n 0, 1) := sorry
theorem dX1_readHead_91 : decode cX1_readHead 91 = .ok (.invokevirtual 87, 3) := sorry
theorem dX1_readHead_94 : decode cX1_readHead 94 = .ok (.istore_n 2, 1) := sorry
theorem dX1_readHead_95 : decode cX1_readHead 95 = .ok (.iload_n 2, 1) := sorry
theorem dX1_readHead_96 : decode cX1_readHead 96 = .ok (.ifCond .ne 12, 3) := sorry
theorem dX1_readHead_99 : decode cX1_readHead 99 = .ok (.iload_n 1, 1) := sorry
theorem dX1_readHead_100 : decode cX1_readHead 100 = .ok (.ifCond .ne 8, 3) := sorry
theorem dX1_readHead_103 : decode cX1_readHead 103 = .ok (.aload_n 0, 1) := sorry
theorem dX1_readHead_104 : decode cX1_readHead 104 = .ok (.invokevirtual 90, 3) := sorry
theorem dX1_readHead_107 : decode cX1_readHead 107 = .ok (.istore_n 2, 1) := sorry
theorem dX1_readHead_108 : decode cX1_readHead 108 = .ok (.iload_n 2, 1) := sorry
theorem dX1_readHead_109 : decode cX1_readHead 109 = .ok (.ireturn, 1) := sorry
set_option maxRecDepth 20000 in
theorem ggX1_readNewName_X1_isWord : GoodIn wsX1_readNewName wsX1_isWord := sorry
set_option maxRecDepth 20000 in
theorem gX1_readNewName_X1_isWord : GoodIn wsX1_readNewName (wsV RX1 78 RX1 yX1_isWord wsX1_isWord) := sorry
set_option maxRecDepth 20000 in
theorem ggX1_readNewName_X2_relationOf : GoodIn wsX1_readNewName wsX2_relationOf := sorry
set_option maxRecDepth 20000 in
theorem gX1_readNewName_X2_relationOf : GoodIn wsX1_readNewName (wsV RX1 97 RX2 yX2_relationOf wsX2_relationOf) := sorry
set_option maxRecDepth 20000 in
theorem ggX1_readNewName_X1_step : GoodIn wsX1_readNewName wsX1_step := sorry
set_option maxRecDepth 20000 in
theorem gX1_readNewName_X1_step : GoodIn wsX1_readNewName (wsV RX1 75 RX1 yX1_step wsX1_step) := sorry
def dtX1_readNewName_0_0 : List (Nat × Instr × Nat) := [(0, .aload_n 0, 1), (1, .iconst (-1), 1), (2, .invokevirtual 78, 3), (5, .ifCond .ne 5, 3), (8, .iconst 1, 1), (9, .ireturn, 1), (10, .aload_n 0, 1), (11, .getfield 12, 3), (14, .getfield 93, 3), (17, .aload_n 0, 1), (18, .getfield 44, 3), (21, .laload, 1), (22, .lstore_n 1, 1), (23, .aload_n 0, 1), (24, .getfield 21, 3), (27, .lload_n 1, 1), (28, .invokevirtual 97, 3), (31, .iconst (-1), 1), (32, .if_icmp .eq 5, 3), (35, .iconst 3, 1), (36, .ireturn, 1), (37, .aload_n 0, 1), (38, .getfield 29, 3), (41, .lload_n 1, 1), (42, .putfield 101, 3), (45, .aload_n 0, 1), (46, .invokevirtual 75, 3), (49, .iconst 0, 1), (50, .ireturn, 1)]
theorem dtX1_readNewName_0_0_ok : dcAll cX1_readNewName dtX1_readNewName_0_0 = true := sorry
theorem dX1_readNewName_0 : decode cX1_readNewName 0 = .ok (.aload_n 0, 1) := sorry
theorem dX1_readNewName_1 : decode cX1_readNewName 1 = .ok (.iconst (-1), 1) := sorry
theorem dX1_readNewName_2 : decode cX1_readNewName 2 = .ok (.invokevirtual 78, 3) := sorry
theorem dX1_readNewName_5 : decode cX1_readNewName 5 = .ok (.ifCond .ne 5, 3) := sorry
theorem dX1_readNewName_8 : decode cX1_readNewName 8 = .ok (.iconst 1, 1) := sorry
theorem dX1_readNewName_9 : decode cX1_readNewName 9 = .ok (.ireturn, 1) := sorry
theorem dX1_readNewName_10 : decode cX1_readNewName 10 = .ok (.aload_n 0, 1) := sorry
theorem dX1_readNewName_11 : decode cX1_readNewName 11 = .ok (.getfield 12, 3) := sorry
theorem dX1_readNewName_14 : decode cX1_readNewName 14 = .ok (.getfield 93, 3) := sorry
theorem dX1_readNewName_17 : decode cX1_readNewName 17 = .ok (.aload_n 0, 1) := sorry
theorem dX1_readNewName_18 : decode cX1_readNewName 18 = .ok (.getfield 44, 3) := sorry
theorem dX1_readNewName_21 : decode cX1_readNewName 21 = .ok (.laload, 1) := sorry
theorem dX1_readNewName_22 : decode cX1_readNewName 22 = .ok (.lstore_n 1, 1) := sorry
theorem dX1_readNewName_23 : decode cX1_readNewName 23 = .ok (.aload_n 0, 1) := sorry
theorem dX1_readNewName_24 : decode cX1_readNewName 24 = .ok (.getfield 21, 3) := sorry
theorem dX1_readNewName_27 : decode cX1_readNewName 27 = .ok (.lload_n 1, 1) := sorry
theorem dX1_readNewName_28 : decode cX1_readNewName 28 = .ok (.invokevirtual 97, 3) := sorry
theorem dX1_readNewName_31 : decode cX1_readNewName 31 = .ok (.iconst (-1), 1) := sorry
theorem dX1_readNewName_32 : decode cX1_readNewName 32 = .ok (.if_icmp .eq 5, 3) := sorry
theorem dX1_readNewName_35 : decode cX1_readNewName 35 = .ok (.iconst 3, 1) := sorry
theorem dX1_readNewName_36 : decode cX1_readNewName 36 = .ok (.ireturn, 1) := sorry
theorem dX1_readNewName_37 : decode cX1_readNewName 37 = .ok (.aload_n 0, 1) := sorry
theorem dX1_readNewName_38 : decode cX1_readNewName 38 = .ok (.getfield 29, 3) := sorry
theorem dX1_readNewName_41 : decode cX1_readNewName 41 = .ok (.lload_n 1, 1) := sorry
theorem dX1_readNewName_42 : decode cX1_readNewName 42 = .ok (.putfield 101, 3) := sorry
theorem dX1_readNewName_45 : decode cX1_readNewName 45 = .ok (.aload_n 0, 1) := sorry
theorem dX1_readNewName_46 : decode cX1_readNewName 46 = .ok (.invokevirtual 75, 3) := sorry
theorem dX1_readNewName_49 : decode cX1_readNewName 49 = .ok (.iconst 0, 1) := sorry
theorem dX1_readNewName_50 : decode cX1_readNewName 50 = .ok (.ireturn, 1) := sorry
set_option maxRecDepth 20000 in
theorem ggX1_readViewKind_X1_takeKind : GoodIn wsX1_readViewKind wsX1_takeKind := sorry
set_option maxRecDepth 20000 in
theorem gX1_readViewKind_X1_takeKind : GoodIn wsX1_readViewKind (wsV RX1 105 RX1 yX1_takeKind wsX1_takeKind) := sorry
set_option maxRecDepth 20000 in
theorem ggX1_readViewKind_X1_isKind : GoodIn wsX1_readViewKind wsX1_isKind := sorry
set_option maxRecDepth 20000 in
theorem gX1_readViewKind_X1_isKind : GoodIn wsX1_readViewKind (wsV RX1 67 RX1 yX1_isKind wsX1_isKind) := sorry
set_option maxRecDepth 20000 in
theorem ggX1_readViewKind_X1_step : GoodIn wsX1_readViewKind wsX1_step := sorry
set_option maxRecDepth 20000 in
theorem gX1_readViewKind_X1_step : GoodIn wsX1_readViewKind (wsV RX1 75 RX1 yX1_step wsX1_step) := sorry
def dtX1_readViewKind_0_0 : List (Nat × Instr × Nat) := [(0, .aload_n 0, 1), (1, .bipush 61, 2), (3, .invokevirtual 105, 3), (6, .istore_n 1, 1), (7, .iload_n 1, 1), (8, .ifCond .eq 5, 3), (11, .iload_n 1, 1), (12, .ireturn, 1), (13, .aload_n 0, 1), (14, .getfield 12, 3), (17, .getfield 71, 3), (20, .aload_n 0, 1), (21, .getfield 44, 3), (24, .iaload, 1), (25, .istore_n 2, 1), (26, .aload_n 0, 1), (27, .iconst 3, 1), (28, .invokevirtual 67, 3), (31, .ifCond .eq 14, 3), (34, .iload_n 2, 1), (35, .iconst 1, 1), (36, .if_icmp .lt 9, 3), (39, .iload_n 2, 1), (40, .bipush 8, 2), (42, .if_icmp .le 5, 3), (45, .iconst 1, 1), (46, .ireturn, 1), (47, .aload_n 0, 1), (48, .getfield 29, 3), (51, .iload_n 2, 1), (52, .putfield 109, 3), (55, .aload_n 0, 1)]
theorem dtX1_readViewKind_0_0_ok : dcAll cX1_readViewKind dtX1_readViewKind_0_0 = true := sorry
theorem dX1_readViewKind_0 : decode cX1_readViewKind 0 = .ok (.aload_n 0, 1) := sorry
theorem dX1_readViewKind_1 : decode cX1_readViewKind 1 = .ok (.bipush 61, 2) := sorry
theorem dX1_readViewKind_3 : decode cX1_readViewKind 3 = .ok (.invokevirtual 105, 3) := sorry
theorem dX1_readViewKind_6 : decode cX1_readViewKind 6 = .ok (.istore_n 1, 1) := sorry
theorem dX1_readViewKind_7 : decode cX1_readViewKind 7 = .ok (.iload_n 1, 1) := sorry
theorem dX1_readViewKind_8 : decode cX1_readViewKind 8 = .ok (.ifCond .eq 5, 3) := sorry
theorem dX1_readViewKind_11 : decode cX1_readViewKind 11 = .ok (.iload_n 1, 1) := sorry
theorem dX1_readViewKind_12 : decode cX1_readViewKind 12 = .ok (.ireturn, 1) := sorry
theorem dX1_readViewKind_13 : decode cX1_readViewKind 13 = .ok (.aload_n 0, 1) := sorry
theorem dX1_readViewKind_14 : decode cX1_readViewKind 14 = .ok (.getfield 12, 3) := sorry
theorem dX1_readViewKind_17 : decode cX1_readViewKind 17 = .ok (.getfield 71, 3) := sorry
theorem dX1_readViewKind_20 : decode cX1_readViewKind 20 = .ok (.aload_n 0, 1) := sorry
theorem dX1_readViewKind_21 : decode cX1_readViewKind 21 = .ok (.getfield 44, 3) := sorry
theorem dX1_readViewKind_24 : decode cX1_readViewKind 24 = .ok (.iaload, 1) := sorry
theorem dX1_readViewKind_25 : decode cX1_readViewKind 25 = .ok (.istore_n 2, 1) := sorry
theorem dX1_readViewKind_26 : decode cX1_readViewKind 26 = .ok (.aload_n 0, 1) := sorry
theorem dX1_readViewKind_27 : decode cX1_readViewKind 27 = .ok (.iconst 3, 1) := sorry
theorem dX1_readViewKind_28 : decode cX1_readViewKind 28 = .ok (.invokevirtual 67, 3) := sorry
theorem dX1_readViewKind_31 : decode cX1_readViewKind 31 = .ok (.ifCond .eq 14, 3) := sorry
theorem dX1_readViewKind_34 : decode cX1_readViewKind 34 = .ok (.iload_n 2, 1) := sorry
theorem dX1_readViewKind_35 : decode cX1_readViewKind 35 = .ok (.iconst 1, 1) := sorry
theorem dX1_readViewKind_36 : decode cX1_readViewKind 36 = .ok (.if_icmp .lt 9, 3) := sorry
theorem dX1_readViewKind_39 : decode cX1_readViewKind 39 = .ok (.iload_n 2, 1) := sorry
theorem dX1_readViewKind_40 : decode cX1_readViewKind 40 = .ok (.bipush 8, 2) := sorry
theorem dX1_readViewKind_42 : decode cX1_readViewKind 42 = .ok (.if_icmp .le 5, 3) := sorry
theorem dX1_readViewKind_45 : decode cX1_readViewKind 45 = .ok (.iconst 1, 1) := sorry
theorem dX1_readViewKind_46 : decode cX1_readViewKind 46 = .ok (.ireturn, 1) := sorry
theorem dX1_readViewKind_47 : decode cX1_readViewKind 47 = .ok (.aload_n 0, 1) := sorry
theorem dX1_readViewKind_48 : decode cX1_readViewKind 48 = .ok (.getfield 29, 3) := sorry
theorem dX1_readViewKind_51 : decode cX1_readViewKind 51 = .ok (.iload_n 2, 1) := sorry
theorem dX1_readViewKind_52 : decode cX1_readViewKind 52 = .ok (.putfield 109, 3) := sorry
theorem dX1_readViewKind_55 : decode cX1_readViewKind 55 = .ok (.aload_n 0, 1) := sorry
def dtX1_readViewKind_56_1 : List (Nat × Instr × Nat) := [(56, .invokevirtual 75, 3), (59, .iconst 0, 1), (60, .ireturn, 1)]
theorem dtX1_readViewKind_56_1_ok : dcAll cX1_readViewKind dtX1_readViewKind_56_1 = true := sorry
theorem dX1_readViewKind_56 : decode cX1_readViewKind 56 = .ok (.invokevirtual 75, 3) := sorry
theorem dX1_readViewKind_59 : decode cX1_readViewKind 59 = .ok (.iconst 0, 1) := sorry
theorem dX1_readViewKind_60 : decode cX1_readViewKind 60 = .ok (.ireturn, 1) := sorry
set_option maxRecDepth 20000 in
theorem ggX1_readBody_X1_readSelect : GoodIn wsX1_readBody wsX1_readSelect := sorry
set_option maxRecDepth 20000 in
theorem gX1_readBody_X1_readSelect : GoodIn wsX1_readBody (wsV RX1 112 RX1 yX1_readSelect wsX1_readSelect) := sorry
set_option maxRecDepth 20000 in
theorem ggX1_readBody_X1_readProject : GoodIn wsX1_readBody wsX1_readProject := sorry
set_option maxRecDepth 20000 in
theorem gX1_readBody_X1_readProject : GoodIn wsX1_readBody (wsV RX1 115 RX1 yX1_readProject wsX1_readProject) := sorry
set_option maxRecDepth 20000 in
theorem ggX1_readBody_X1_readJoin : GoodIn wsX1_readBody wsX1_readJoin := sorry
set_option maxRecDepth 20000 in
theorem gX1_readBody_X1_readJoin : GoodIn wsX1_readBody (wsV RX1 118 RX1 yX1_readJoin wsX1_readJoin) := sorry
set_option maxRecDepth 20000 in
theorem ggX1_readBody_X1_readTwoAlike : GoodIn wsX1_readBody wsX1_readTwoAlike := sorry
set_option maxRecDepth 20000 in
theorem gX1_readBody_X1_readTwoAlike : GoodIn wsX1_readBody (wsV RX1 121 RX1 yX1_readTwoAlike wsX1_readTwoAlike) := sorry
set_option maxRecDepth 20000 in
theorem ggX1_readBody_X1_readDistinct : GoodIn wsX1_readBody wsX1_readDistinct := sorry
set_option maxRecDepth 20000 in
theorem gX1_readBody_X1_readDistinct : GoodIn wsX1_readBody (wsV RX1 124 RX1 yX1_readDistinct wsX1_readDistinct) := sorry
set_option maxRecDepth 20000 in
theorem ggX1_readBody_X1_readGroup : GoodIn wsX1_readBody wsX1_readGroup := sorry
set_option maxRecDepth 20000 in
theorem gX1_readBody_X1_readGroup : GoodIn wsX1_readBody (wsV RX1 127 RX1 yX1_readGroup wsX1_readGroup) := sorry
set_option maxRecDepth 20000 in
theorem ggX1_readBody_X1_readRing : GoodIn wsX1_readBody wsX1_readRing := sorry
set_option maxRecDepth 20000 in
theorem gX1_readBody_X1_readRing : GoodIn wsX1_readBody (wsV RX1 130 RX1 yX1_readRing wsX1_readRing) := sorry
set_option maxRecDepth 20000 in
theorem ggX1_readBody_X1_readTableColumns : GoodIn wsX1_readBody wsX1_readTableColumns := sorry
set_option maxRecDepth 20000 in
theorem gX1_readBody_X1_readTableColumns : GoodIn wsX1_readBody (wsV RX1 133 RX1 yX1_readTableColumns wsX1_readTableColumns) := sorry
def dtX1_readBody_0_0 : List (Nat × Instr × Nat) := [(0, .aload_n 0, 1), (1, .getfield 29, 3), (4, .getfield 109, 3), (7, .tableswitch 80 1 8 #[45, 50, 55, 60, 60, 65, 70, 75], 45), (52, .aload_n 0, 1), (53, .invokevirtual 112, 3), (56, .ireturn, 1), (57, .aload_n 0, 1), (58, .invokevirtual 115, 3), (61, .ireturn, 1), (62, .aload_n 0, 1), (63, .invokevirtual 118, 3), (66, .ireturn, 1), (67, .aload_n 0, 1), (68, .invokevirtual 121, 3), (71, .ireturn, 1), (72, .aload_n 0, 1), (73, .invokevirtual 124, 3), (76, .ireturn, 1), (77, .aload_n 0, 1), (78, .invokevirtual 127, 3), (81, .ireturn, 1), (82, .aload_n 0, 1), (83, .invokevirtual 130, 3), (86, .ireturn, 1), (87, .aload_n 0, 1), (88, .invokevirtual 133, 3), (91, .ireturn, 1)]
theorem dtX1_readBody_0_0_ok : dcAll cX1_readBody dtX1_readBody_0_0 = true := sorry
theorem dX1_readBody_0 : decode cX1_readBody 0 = .ok (.aload_n 0, 1) := sorry
theorem dX1_readBody_1 : decode cX1_readBody 1 = .ok (.getfield 29, 3) := sorry
theorem dX1_readBody_4 : decode cX1_readBody 4 = .ok (.getfield 109, 3) := sorry
theorem dX1_readBody_7 : decode cX1_readBody 7 = .ok (.tableswitch 80 1 8 #[45, 50, 55, 60, 60, 65, 70, 75], 45) := sorry
theorem dX1_readBody_52 : decode cX1_readBody 52 = .ok (.aload_n 0, 1) := sorry
theorem dX1_readBody_53 : decode cX1_readBody 53 = .ok (.invokevirtual 112, 3) := sorry
theorem dX1_readBody_56 : decode cX1_readBody 56 = .ok (.ireturn, 1) := sorry
theorem dX1_readBody_57 : decode cX1_readBody 57 = .ok (.aload_n 0, 1) := sorry
theorem dX1_readBody_58 : decode cX1_readBody 58 = .ok (.invokevirtual 115, 3) := sorry
theorem dX1_readBody_61 : decode cX1_readBody 61 = .ok (.ireturn, 1) := sorry
theorem dX1_readBody_62 : decode cX1_readBody 62 = .ok (.aload_n 0, 1) := sorry
theorem dX1_readBody_63 : decode cX1_readBody 63 = .ok (.invokevirtual 118, 3) := sorry
theorem dX1_readBody_66 : decode cX1_readBody 66 = .ok (.ireturn, 1) := sorry
theorem dX1_readBody_67 : decode cX1_readBody 67 = .ok (.aload_n 0, 1) := sorry
theorem dX1_readBody_68 : decode cX1_readBody 68 = .ok (.invokevirtual 121, 3) := sorry
theorem dX1_readBody_71 : decode cX1_readBody 71 = .ok (.ireturn, 1) := sorry
theorem dX1_readBody_72 : decode cX1_readBody 72 = .ok (.aload_n 0, 1) := sorry
theorem dX1_readBody_73 : decode cX1_readBody 73 = .ok (.invokevirtual 124, 3) := sorry
theorem dX1_readBody_76 : decode cX1_readBody 76 = .ok (.ireturn, 1) := sorry
theorem dX1_readBody_77 : decode cX1_readBody 77 = .ok (.aload_n 0, 1) := sorry
theorem dX1_readBody_78 : decode cX1_readBody 78 = .ok (.invokevirtual 127, 3) := sorry
theorem dX1_readBody_81 : decode cX1_readBody 81 = .ok (.ireturn, 1) := sorry
theorem dX1_readBody_82 : decode cX1_readBody 82 = .ok (.aload_n 0, 1) := sorry
theorem dX1_readBody_83 : decode cX1_readBody 83 = .ok (.invokevirtual 130, 3) := sorry
theorem dX1_readBody_86 : decode cX1_readBody 86 = .ok (.ireturn, 1) := sorry
theorem dX1_readBody_87 : decode cX1_readBody 87 = .ok (.aload_n 0, 1) := sorry
theorem dX1_readBody_88 : decode cX1_readBody 88 = .ok (.invokevirtual 133, 3) := sorry
theorem dX1_readBody_91 : decode cX1_readBody 91 = .ok (.ireturn, 1) := sorry
set_option maxRecDepth 20000 in
theorem ggX1_readClose_X1_isKind : GoodIn wsX1_readClose wsX1_isKind := sorry
set_option maxRecDepth 20000 in
theorem gX1_readClose_X1_isKind : GoodIn wsX1_readClose (wsV RX1 67 RX1 yX1_isKind wsX1_isKind) := sorry
set_option maxRecDepth 20000 in
theorem ggX1_readClose_X1_ringIsUnlike : GoodIn wsX1_readClose wsX1_ringIsUnlike := sorry
set_option maxRecDepth 20000 in
theorem gX1_readClose_X1_ringIsUnlike : GoodIn wsX1_readClose (wsV RX1 139 RX1 yX1_ringIsUnlike wsX1_ringIsUnlike) := sorry
set_option maxRecDepth 20000 in
theorem ggX1_readClose_X1_step : GoodIn wsX1_readClose wsX1_step := sorry
set_option maxRecDepth 20000 in
theorem gX1_readClose_X1_step : GoodIn wsX1_readClose (wsV RX1 75 RX1 yX1_step wsX1_step) := sorry
def dtX1_readClose_0_0 : List (Nat × Instr × Nat) := [(0, .aload_n 0, 1), (1, .bipush 59, 2), (3, .invokevirtual 67, 3), (6, .ifCond .ne 5, 3), (9, .iconst 1, 1), (10, .ireturn, 1), (11, .aload_n 0, 1), (12, .getfield 29, 3), (15, .getfield 136, 3), (18, .iconst 4, 1), (19, .if_icmp .le 5, 3), (22, .iconst 5, 1), (23, .ireturn, 1), (24, .aload_n 0, 1), (25, .getfield 29, 3), (28, .getfield 109, 3), (31, .bipush 8, 2), (33, .if_icmp .ne 12, 3), (36, .aload_n 0, 1), (37, .invokevirtual 139, 3), (40, .ifCond .eq 5, 3), (43, .iconst 5, 1), (44, .ireturn, 1), (45, .aload_n 0, 1), (46, .invokevirtual 75, 3), (49, .iconst 0, 1), (50, .ireturn, 1)]
theorem dtX1_readClose_0_0_ok : dcAll cX1_readClose dtX1_readClose_0_0 = true := sorry
theorem dX1_readClose_0 : decode cX1_readClose 0 = .ok (.aload_n 0, 1) := sorry
theorem dX1_readClose_1 : decode cX1_readClose 1 = .ok (.bipush 59, 2) := sorry
theorem dX1_readClose_3 : decode cX1_readClose 3 = .ok (.invokevirtual 67, 3) := sorry
theorem dX1_readClose_6 : decode cX1_readClose 6 = .ok (.ifCond .ne 5, 3) := sorry
theorem dX1_readClose_9 : decode cX1_readClose 9 = .ok (.iconst 1, 1) := sorry
theorem dX1_readClose_10 : decode cX1_readClose 10 = .ok (.ireturn, 1) := sorry
theorem dX1_readClose_11 : decode cX1_readClose 11 = .ok (.aload_n 0, 1) := sorry
theorem dX1_readClose_12 : decode cX1_readClose 12 = .ok (.getfield 29, 3) := sorry
theorem dX1_readClose_15 : decode cX1_readClose 15 = .ok (.getfield 136, 3) := sorry
theorem dX1_readClose_18 : decode cX1_readClose 18 = .ok (.iconst 4, 1) := sorry
theorem dX1_readClose_19 : decode cX1_readClose 19 = .ok (.if_icmp .le 5, 3) := sorry
theorem dX1_readClose_22 : decode cX1_readClose 22 = .ok (.iconst 5, 1) := sorry
theorem dX1_readClose_23 : decode cX1_readClose 23 = .ok (.ireturn, 1) := sorry
theorem dX1_readClose_24 : decode cX1_readClose 24 = .ok (.aload_n 0, 1) := sorry
theorem dX1_readClose_25 : decode cX1_readClose 25 = .ok (.getfield 29, 3) := sorry
theorem dX1_readClose_28 : decode cX1_readClose 28 = .ok (.getfield 109, 3) := sorry
theorem dX1_readClose_31 : decode cX1_readClose 31 = .ok (.bipush 8, 2) := sorry
theorem dX1_readClose_33 : decode cX1_readClose 33 = .ok (.if_icmp .ne 12, 3) := sorry
theorem dX1_readClose_36 : decode cX1_readClose 36 = .ok (.aload_n 0, 1) := sorry
theorem dX1_readClose_37 : decode cX1_readClose 37 = .ok (.invokevirtual 139, 3) := sorry
theorem dX1_readClose_40 : decode cX1_readClose 40 = .ok (.ifCond .eq 5, 3) := sorry
theorem dX1_readClose_43 : decode cX1_readClose 43 = .ok (.iconst 5, 1) := sorry
theorem dX1_readClose_44 : decode cX1_readClose 44 = .ok (.ireturn, 1) := sorry
theorem dX1_readClose_45 : decode cX1_readClose 45 = .ok (.aload_n 0, 1) := sorry
theorem dX1_readClose_46 : decode cX1_readClose 46 = .ok (.invokevirtual 75, 3) := sorry
theorem dX1_readClose_49 : decode cX1_readClose 49 = .ok (.iconst 0, 1) := sorry
theorem dX1_readClose_50 : decode cX1_readClose 50 = .ok (.ireturn, 1) := sorry
def dtX1_ringIsUnlike_0_0 : List (Nat × Instr × Nat) := [(0, .aload_n 0, 1), (1, .getfield 29, 3), (4, .getfield 143, 3), (7, .aload_n 0, 1), (8, .getfield 29, 3), (11, .getfield 146, 3), (14, .iadd, 1), (15, .iconst 4, 1), (16, .if_icmp .gt 20, 3), (19, .aload_n 0, 1), (20, .getfield 29, 3), (23, .getfield 149, 3), (26, .aload_n 0, 1), (27, .getfield 29, 3), (30, .getfield 143, 3), (33, .if_icmp .eq 7, 3), (36, .iconst 1, 1), (37, .goto 4, 3), (40, .iconst 0, 1), (41, .ireturn, 1)]
theorem dtX1_ringIsUnlike_0_0_ok : dcAll cX1_ringIsUnlike dtX1_ringIsUnlike_0_0 = true := sorry
theorem dX1_ringIsUnlike_0 : decode cX1_ringIsUnlike 0 = .ok (.aload_n 0, 1) := sorry
theorem dX1_ringIsUnlike_1 : decode cX1_ringIsUnlike 1 = .ok (.getfield 29, 3) := sorry
theorem dX1_ringIsUnlike_4 : decode cX1_ringIsUnlike 4 = .ok (.getfield 143, 3) := sorry
theorem dX1_ringIsUnlike_7 : decode cX1_ringIsUnlike 7 = .ok (.aload_n 0, 1) := sorry
theorem dX1_ringIsUnlike_8 : decode cX1_ringIsUnlike 8 = .ok (.getfield 29, 3) := sorry
theorem dX1_ringIsUnlike_11 : decode cX1_ringIsUnlike 11 = .ok (.getfield 146, 3) := sorry
theorem dX1_ringIsUnlike_14 : decode cX1_ringIsUnlike 14 = .ok (.iadd, 1) := sorry
theorem dX1_ringIsUnlike_15 : decode cX1_ringIsUnlike 15 = .ok (.iconst 4, 1) := sorry
theorem dX1_ringIsUnlike_16 : decode cX1_ringIsUnlike 16 = .ok (.if_icmp .gt 20, 3) := sorry
theorem dX1_ringIsUnlike_19 : decode cX1_ringIsUnlike 19 = .ok (.aload_n 0, 1) := sorry
theorem dX1_ringIsUnlike_20 : decode cX1_ringIsUnlike 20 = .ok (.getfield 29, 3) := sorry
theorem dX1_ringIsUnlike_23 : decode cX1_ringIsUnlike 23 = .ok (.getfield 149, 3) := sorry
theorem dX1_ringIsUnlike_26 : decode cX1_ringIsUnlike 26 = .ok (.aload_n 0, 1) := sorry
theorem dX1_ringIsUnlike_27 : decode cX1_ringIsUnlike 27 = .ok (.getfield 29, 3) := sorry
theorem dX1_ringIsUnlike_30 : decode cX1_ringIsUnlike 30 = .ok (.getfield 143, 3) := sorry
theorem dX1_ringIsUnlike_33 : decode cX1_ringIsUnlike 33 = .ok (.if_icmp .eq 7, 3) := sorry
theorem dX1_ringIsUnlike_36 : decode cX1_ringIsUnlike 36 = .ok (.iconst 1, 1) := sorry
theorem dX1_ringIsUnlike_37 : decode cX1_ringIsUnlike 37 = .ok (.goto 4, 3) := sorry
theorem dX1_ringIsUnlike_40 : decode cX1_ringIsUnlike 40 = .ok (.iconst 0, 1) := sorry
theorem dX1_ringIsUnlike_41 : decode cX1_ringIsUnlike 41 = .ok (.ireturn, 1) := sorry
set_option maxRecDepth 20000 in
theorem ggX1_readTableColumns_X1_isKind : GoodIn wsX1_readTableColumns wsX1_isKind := sorry
set_option maxRecDepth 20000 in
theorem gX1_readTableColumns_X1_isKind : GoodIn wsX1_readTableColumns (wsV RX1 67 RX1 yX1_isKind wsX1_isKind) := sorry
set_option maxRecDepth 20000 in
theorem ggX1_readTableColumns_X1_step : GoodIn wsX1_readTableColumns wsX1_step := sorry
set_option maxRecDepth 20000 in
theorem gX1_readTableColumns_X1_step : GoodIn wsX1_readTableColumns (wsV RX1 75 RX1 yX1_step wsX1_step) := sorry
def dtX1_readTableColumns_0_0 : List (Nat × Instr × Nat) := [(0, .aload_n 0, 1), (1, .iconst 4, 1), (2, .invokevirtual 67, 3), (5, .ifCond .ne 5, 3), (8, .iconst 1, 1), (9, .ireturn, 1), (10, .aload_n 0, 1), (11, .getfield 12, 3), (14, .getfield 71, 3), (17, .aload_n 0, 1), (18, .getfield 44, 3), (21, .iaload, 1), (22, .istore_n 1, 1), (23, .iload_n 1, 1), (24, .iconst 1, 1), (25, .if_icmp .lt 8, 3), (28, .iload_n 1, 1), (29, .iconst 4, 1), (30, .if_icmp .le 5, 3), (33, .iconst 2, 1), (34, .ireturn, 1), (35, .aload_n 0, 1), (36, .getfield 29, 3), (39, .iload_n 1, 1), (40, .putfield 136, 3), (43, .aload_n 0, 1), (44, .invokevirtual 75, 3), (47, .iconst 0, 1), (48, .ireturn, 1)]
theorem dtX1_readTableColumns_0_0_ok : dcAll cX1_readTableColumns dtX1_readTableColumns_0_0 = true := sorry
theorem dX1_readTableColumns_0 : decode cX1_readTableColumns 0 = .ok (.aload_n 0, 1) := sorry
theorem dX1_readTableColumns_1 : decode cX1_readTableColumns 1 = .ok (.iconst 4, 1) := sorry
theorem dX1_readTableColumns_2 : decode cX1_readTableColumns 2 = .ok (.invokevirtual 67, 3) := sorry
theorem dX1_readTableColumns_5 : decode cX1_readTableColumns 5 = .ok (.ifCond .ne 5, 3) := sorry
theorem dX1_readTableColumns_8 : decode cX1_readTableColumns 8 = .ok (.iconst 1, 1) := sorry
theorem dX1_readTableColumns_9 : decode cX1_readTableColumns 9 = .ok (.ireturn, 1) := sorry
theorem dX1_readTableColumns_10 : decode cX1_readTableColumns 10 = .ok (.aload_n 0, 1) := sorry
theorem dX1_readTableColumns_11 : decode cX1_readTableColumns 11 = .ok (.getfield 12, 3) := sorry
theorem dX1_readTableColumns_14 : decode cX1_readTableColumns 14 = .ok (.getfield 71, 3) := sorry
theorem dX1_readTableColumns_17 : decode cX1_readTableColumns 17 = .ok (.aload_n 0, 1) := sorry
theorem dX1_readTableColumns_18 : decode cX1_readTableColumns 18 = .ok (.getfield 44, 3) := sorry
theorem dX1_readTableColumns_21 : decode cX1_readTableColumns 21 = .ok (.iaload, 1) := sorry
theorem dX1_readTableColumns_22 : decode cX1_readTableColumns 22 = .ok (.istore_n 1, 1) := sorry
theorem dX1_readTableColumns_23 : decode cX1_readTableColumns 23 = .ok (.iload_n 1, 1) := sorry
theorem dX1_readTableColumns_24 : decode cX1_readTableColumns 24 = .ok (.iconst 1, 1) := sorry
theorem dX1_readTableColumns_25 : decode cX1_readTableColumns 25 = .ok (.if_icmp .lt 8, 3) := sorry
theorem dX1_readTableColumns_28 : decode cX1_readTableColumns 28 = .ok (.iload_n 1, 1) := sorry
theorem dX1_readTableColumns_29 : decode cX1_readTableColumns 29 = .ok (.iconst 4, 1) := sorry
theorem dX1_readTableColumns_30 : decode cX1_readTableColumns 30 = .ok (.if_icmp .le 5, 3) := sorry
theorem dX1_readTableColumns_33 : decode cX1_readTableColumns 33 = .ok (.iconst 2, 1) := sorry
theorem dX1_readTableColumns_34 : decode cX1_readTableColumns 34 = .ok (.ireturn, 1) := sorry
theorem dX1_readTableColumns_35 : decode cX1_readTableColumns 35 = .ok (.aload_n 0, 1) := sorry
theorem dX1_readTableColumns_36 : decode cX1_readTableColumns 36 = .ok (.getfield 29, 3) := sorry
theorem dX1_readTableColumns_39 : decode cX1_readTableColumns 39 = .ok (.iload_n 1, 1) := sorry
theorem dX1_readTableColumns_40 : decode cX1_readTableColumns 40 = .ok (.putfield 136, 3) := sorry
theorem dX1_readTableColumns_43 : decode cX1_readTableColumns 43 = .ok (.aload_n 0, 1) := sorry
theorem dX1_readTableColumns_44 : decode cX1_readTableColumns 44 = .ok (.invokevirtual 75, 3) := sorry
theorem dX1_readTableColumns_47 : decode cX1_readTableColumns 47 = .ok (.iconst 0, 1) := sorry
theorem dX1_readTableColumns_48 : decode cX1_readTableColumns 48 = .ok (.ireturn, 1) := sorry
set_option maxRecDepth 20000 in
theorem ggX1_readFirst_X1_seeRelation : GoodIn wsX1_readFirst wsX1_seeRelation := sorry
set_option maxRecDepth 20000 in
theorem gX1_readFirst_X1_seeRelation : GoodIn wsX1_readFirst (wsV RX1 152 RX1 yX1_seeRelation wsX1_seeRelation) := sorry
set_option maxRecDepth 20000 in
theorem ggX1_readFirst_X2_relationOf : GoodIn wsX1_readFirst wsX2_relationOf := sorry
set_option maxRecDepth 20000 in
theorem gX1_readFirst_X2_relationOf : GoodIn wsX1_readFirst (wsV RX1 97 RX2 yX2_relationOf wsX2_relationOf) := sorry
set_option maxRecDepth 20000 in
theorem ggX1_readFirst_X1_step : GoodIn wsX1_readFirst wsX1_step := sorry
set_option maxRecDepth 20000 in
theorem gX1_readFirst_X1_step : GoodIn wsX1_readFirst (wsV RX1 75 RX1 yX1_step wsX1_step) := sorry
def dtX1_readFirst_0_0 : List (Nat × Instr × Nat) := [(0, .aload_n 0, 1), (1, .invokevirtual 152, 3), (4, .istore_n 1, 1), (5, .iload_n 1, 1), (6, .ifCond .ne 58, 3), (9, .aload_n 0, 1), (10, .getfield 29, 3), (13, .aload_n 0, 1), (14, .getfield 21, 3), (17, .aload_n 0, 1), (18, .getfield 12, 3), (21, .getfield 93, 3), (24, .aload_n 0, 1), (25, .getfield 44, 3), (28, .laload, 1), (29, .invokevirtual 97, 3), (32, .putfield 155, 3), (35, .aload_n 0, 1), (36, .getfield 29, 3), (39, .aload_n 0, 1), (40, .getfield 21, 3), (43, .getfield 25, 3), (46, .aload_n 0, 1), (47, .getfield 29, 3), (50, .getfield 155, 3), (53, .aaload, 1), (54, .getfield 136, 3), (57, .putfield 143, 3), (60, .aload_n 0, 1), (61, .invokevirtual 75, 3), (64, .iload_n 1, 1), (65, .ireturn, 1)]
theorem dtX1_readFirst_0_0_ok : dcAll cX1_readFirst dtX1_readFirst_0_0 = true := sorry
theorem dX1_readFirst_0 : decode cX1_readFirst 0 = .ok (.aload_n 0, 1) := sorry
theorem dX1_readFirst_1 : decode cX1_readFirst 1 = .ok (.invokevirtual 152, 3) := sorry
theorem dX1_readFirst_4 : decode cX1_readFirst 4 = .ok (.istore_n 1, 1) := sorry
theorem dX1_readFirst_5 : decode cX1_readFirst 5 = .ok (.iload_n 1, 1) := sorry
theorem dX1_readFirst_6 : decode cX1_readFirst 6 = .ok (.ifCond .ne 58, 3) := sorry
theorem dX1_readFirst_9 : decode cX1_readFirst 9 = .ok (.aload_n 0, 1) := sorry
theorem dX1_readFirst_10 : decode cX1_readFirst 10 = .ok (.getfield 29, 3) := sorry
theorem dX1_readFirst_13 : decode cX1_readFirst 13 = .ok (.aload_n 0, 1) := sorry
theorem dX1_readFirst_14 : decode cX1_readFirst 14 = .ok (.getfield 21, 3) := sorry
theorem dX1_readFirst_17 : decode cX1_readFirst 17 = .ok (.aload_n 0, 1) := sorry
theorem dX1_readFirst_18 : decode cX1_readFirst 18 = .ok (.getfield 12, 3) := sorry
theorem dX1_readFirst_21 : decode cX1_readFirst 21 = .ok (.getfield 93, 3) := sorry
theorem dX1_readFirst_24 : decode cX1_readFirst 24 = .ok (.aload_n 0, 1) := sorry
theorem dX1_readFirst_25 : decode cX1_readFirst 25 = .ok (.getfield 44, 3) := sorry
theorem dX1_readFirst_28 : decode cX1_readFirst 28 = .ok (.laload, 1) := sorry
theorem dX1_readFirst_29 : decode cX1_readFirst 29 = .ok (.invokevirtual 97, 3) := sorry
theorem dX1_readFirst_32 : decode cX1_readFirst 32 = .ok (.putfield 155, 3) := sorry
theorem dX1_readFirst_35 : decode cX1_readFirst 35 = .ok (.aload_n 0, 1) := sorry
theorem dX1_readFirst_36 : decode cX1_readFirst 36 = .ok (.getfield 29, 3) := sorry
theorem dX1_readFirst_39 : decode cX1_readFirst 39 = .ok (.aload_n 0, 1) := sorry
theorem dX1_readFirst_40 : decode cX1_readFirst 40 = .ok (.getfield 21, 3) := sorry
theorem dX1_readFirst_43 : decode cX1_readFirst 43 = .ok (.getfield 25, 3) := sorry
theorem dX1_readFirst_46 : decode cX1_readFirst 46 = .ok (.aload_n 0, 1) := sorry
theorem dX1_readFirst_47 : decode cX1_readFirst 47 = .ok (.getfield 29, 3) := sorry
theorem dX1_readFirst_50 : decode cX1_readFirst 50 = .ok (.getfield 155, 3) := sorry
theorem dX1_readFirst_53 : decode cX1_readFirst 53 = .ok (.aaload, 1) := sorry
theorem dX1_readFirst_54 : decode cX1_readFirst 54 = .ok (.getfield 136, 3) := sorry
theorem dX1_readFirst_57 : decode cX1_readFirst 57 = .ok (.putfield 143, 3) := sorry
theorem dX1_readFirst_60 : decode cX1_readFirst 60 = .ok (.aload_n 0, 1) := sorry
theorem dX1_readFirst_61 : decode cX1_readFirst 61 = .ok (.invokevirtual 75, 3) := sorry
theorem dX1_readFirst_64 : decode cX1_readFirst 64 = .ok (.iload_n 1, 1) := sorry
theorem dX1_readFirst_65 : decode cX1_readFirst 65 = .ok (.ireturn, 1) := sorry
set_option maxRecDepth 20000 in
theorem ggX1_readSecond_X1_seeRelation : GoodIn wsX1_readSecond wsX1_seeRelation := sorry
set_option maxRecDepth 20000 in
theorem gX1_readSecond_X1_seeRelation : GoodIn wsX1_readSecond (wsV RX1 152 RX1 yX1_seeRelation wsX1_seeRelation) := sorry
set_option maxRecDepth 20000 in
theorem ggX1_readSecond_X2_relationOf : GoodIn wsX1_readSecond wsX2_relationOf := sorry
set_option maxRecDepth 20000 in
theorem gX1_readSecond_X2_relationOf : GoodIn wsX1_readSecond (wsV RX1 97 RX2 yX2_relationOf wsX2_relationOf) := sorry
set_option maxRecDepth 20000 in
theorem ggX1_readSecond_X1_step : GoodIn wsX1_readSecond wsX1_step := sorry
set_option maxRecDepth 20000 in
theorem gX1_readSecond_X1_step : GoodIn wsX1_readSecond (wsV RX1 75 RX1 yX1_step wsX1_step) := sorry
def dtX1_readSecond_0_0 : List (Nat × Instr × Nat) := [(0, .aload_n 0, 1), (1, .invokevirtual 152, 3), (4, .istore_n 1, 1), (5, .iload_n 1, 1), (6, .ifCond .ne 58, 3), (9, .aload_n 0, 1), (10, .getfield 29, 3), (13, .aload_n 0, 1), (14, .getfield 21, 3), (17, .aload_n 0, 1), (18, .getfield 12, 3), (21, .getfield 93, 3), (24, .aload_n 0, 1), (25, .getfield 44, 3), (28, .laload, 1), (29, .invokevirtual 97, 3), (32, .putfield 158, 3), (35, .aload_n 0, 1), (36, .getfield 29, 3), (39, .aload_n 0, 1), (40, .getfield 21, 3), (43, .getfield 25, 3), (46, .aload_n 0, 1), (47, .getfield 29, 3), (50, .getfield 158, 3), (53, .aaload, 1), (54, .getfield 136, 3), (57, .putfield 146, 3), (60, .aload_n 0, 1), (61, .invokevirtual 75, 3), (64, .iload_n 1, 1), (65, .ireturn, 1)]
theorem dtX1_readSecond_0_0_ok : dcAll cX1_readSecond dtX1_readSecond_0_0 = true := sorry
theorem dX1_readSecond_0 : decode cX1_readSecond 0 = .ok (.aload_n 0, 1) := sorry
theorem dX1_readSecond_1 : decode cX1_readSecond 1 = .ok (.invokevirtual 152, 3) := sorry
theorem dX1_readSecond_4 : decode cX1_readSecond 4 = .ok (.istore_n 1, 1) := sorry
theorem dX1_readSecond_5 : decode cX1_readSecond 5 = .ok (.iload_n 1, 1) := sorry
theorem dX1_readSecond_6 : decode cX1_readSecond 6 = .ok (.ifCond .ne 58, 3) := sorry
theorem dX1_readSecond_9 : decode cX1_readSecond 9 = .ok (.aload_n 0, 1) := sorry
theorem dX1_readSecond_10 : decode cX1_readSecond 10 = .ok (.getfield 29, 3) := sorry
theorem dX1_readSecond_13 : decode cX1_readSecond 13 = .ok (.aload_n 0, 1) := sorry
theorem dX1_readSecond_14 : decode cX1_readSecond 14 = .ok (.getfield 21, 3) := sorry
theorem dX1_readSecond_17 : decode cX1_readSecond 17 = .ok (.aload_n 0, 1) := sorry
theorem dX1_readSecond_18 : decode cX1_readSecond 18 = .ok (.getfield 12, 3) := sorry
theorem dX1_readSecond_21 : decode cX1_readSecond 21 = .ok (.getfield 93, 3) := sorry
theorem dX1_readSecond_24 : decode cX1_readSecond 24 = .ok (.aload_n 0, 1) := sorry
theorem dX1_readSecond_25 : decode cX1_readSecond 25 = .ok (.getfield 44, 3) := sorry
theorem dX1_readSecond_28 : decode cX1_readSecond 28 = .ok (.laload, 1) := sorry
theorem dX1_readSecond_29 : decode cX1_readSecond 29 = .ok (.invokevirtual 97, 3) := sorry
theorem dX1_readSecond_32 : decode cX1_readSecond 32 = .ok (.putfield 158, 3) := sorry
theorem dX1_readSecond_35 : decode cX1_readSecond 35 = .ok (.aload_n 0, 1) := sorry
theorem dX1_readSecond_36 : decode cX1_readSecond 36 = .ok (.getfield 29, 3) := sorry
theorem dX1_readSecond_39 : decode cX1_readSecond 39 = .ok (.aload_n 0, 1) := sorry
theorem dX1_readSecond_40 : decode cX1_readSecond 40 = .ok (.getfield 21, 3) := sorry
theorem dX1_readSecond_43 : decode cX1_readSecond 43 = .ok (.getfield 25, 3) := sorry
theorem dX1_readSecond_46 : decode cX1_readSecond 46 = .ok (.aload_n 0, 1) := sorry
theorem dX1_readSecond_47 : decode cX1_readSecond 47 = .ok (.getfield 29, 3) := sorry
theorem dX1_readSecond_50 : decode cX1_readSecond 50 = .ok (.getfield 158, 3) := sorry
theorem dX1_readSecond_53 : decode cX1_readSecond 53 = .ok (.aaload, 1) := sorry
theorem dX1_readSecond_54 : decode cX1_readSecond 54 = .ok (.getfield 136, 3) := sorry
theorem dX1_readSecond_57 : decode cX1_readSecond 57 = .ok (.putfield 146, 3) := sorry
theorem dX1_readSecond_60 : decode cX1_readSecond 60 = .ok (.aload_n 0, 1) := sorry
theorem dX1_readSecond_61 : decode cX1_readSecond 61 = .ok (.invokevirtual 75, 3) := sorry
theorem dX1_readSecond_64 : decode cX1_readSecond 64 = .ok (.iload_n 1, 1) := sorry
theorem dX1_readSecond_65 : decode cX1_readSecond 65 = .ok (.ireturn, 1) := sorry
set_option maxRecDepth 20000 in
theorem ggX1_seeRelation_X1_isWord : GoodIn wsX1_seeRelation wsX1_isWord := sorry
set_option maxRecDepth 20000 in
theorem gX1_seeRelation_X1_isWord : GoodIn wsX1_seeRelation (wsV RX1 78 RX1 yX1_isWord wsX1_isWord) := sorry
set_option maxRecDepth 20000 in
theorem ggX1_seeRelation_X2_relationOf : GoodIn wsX1_seeRelation wsX2_relationOf := sorry
set_option maxRecDepth 20000 in
theorem gX1_seeRelation_X2_relationOf : GoodIn wsX1_seeRelation (wsV RX1 97 RX2 yX2_relationOf wsX2_relationOf) := sorry
def dtX1_seeRelation_0_0 : List (Nat × Instr × Nat) := [(0, .aload_n 0, 1), (1, .iconst (-1), 1), (2, .invokevirtual 78, 3), (5, .ifCond .ne 5, 3), (8, .iconst 1, 1), (9, .ireturn, 1), (10, .aload_n 0, 1), (11, .getfield 21, 3), (14, .aload_n 0, 1), (15, .getfield 12, 3), (18, .getfield 93, 3), (21, .aload_n 0, 1), (22, .getfield 44, 3), (25, .laload, 1), (26, .invokevirtual 97, 3), (29, .iconst (-1), 1), (30, .if_icmp .ne 7, 3), (33, .iconst 3, 1), (34, .goto 4, 3), (37, .iconst 0, 1), (38, .ireturn, 1)]
theorem dtX1_seeRelation_0_0_ok : dcAll cX1_seeRelation dtX1_seeRelation_0_0 = true := sorry
theorem dX1_seeRelation_0 : decode cX1_seeRelation 0 = .ok (.aload_n 0, 1) := sorry
theorem dX1_seeRelation_1 : decode cX1_seeRelation 1 = .ok (.iconst (-1), 1) := sorry
theorem dX1_seeRelation_2 : decode cX1_seeRelation 2 = .ok (.invokevirtual 78, 3) := sorry
theorem dX1_seeRelation_5 : decode cX1_seeRelation 5 = .ok (.ifCond .ne 5, 3) := sorry
theorem dX1_seeRelation_8 : decode cX1_seeRelation 8 = .ok (.iconst 1, 1) := sorry
theorem dX1_seeRelation_9 : decode cX1_seeRelation 9 = .ok (.ireturn, 1) := sorry
theorem dX1_seeRelation_10 : decode cX1_seeRelation 10 = .ok (.aload_n 0, 1) := sorry
theorem dX1_seeRelation_11 : decode cX1_seeRelation 11 = .ok (.getfield 21, 3) := sorry
theorem dX1_seeRelation_14 : decode cX1_seeRelation 14 = .ok (.aload_n 0, 1) := sorry
theorem dX1_seeRelation_15 : decode cX1_seeRelation 15 = .ok (.getfield 12, 3) := sorry
theorem dX1_seeRelation_18 : decode cX1_seeRelation 18 = .ok (.getfield 93, 3) := sorry
theorem dX1_seeRelation_21 : decode cX1_seeRelation 21 = .ok (.aload_n 0, 1) := sorry
theorem dX1_seeRelation_22 : decode cX1_seeRelation 22 = .ok (.getfield 44, 3) := sorry
theorem dX1_seeRelation_25 : decode cX1_seeRelation 25 = .ok (.laload, 1) := sorry
theorem dX1_seeRelation_26 : decode cX1_seeRelation 26 = .ok (.invokevirtual 97, 3) := sorry
theorem dX1_seeRelation_29 : decode cX1_seeRelation 29 = .ok (.iconst (-1), 1) := sorry
theorem dX1_seeRelation_30 : decode cX1_seeRelation 30 = .ok (.if_icmp .ne 7, 3) := sorry
theorem dX1_seeRelation_33 : decode cX1_seeRelation 33 = .ok (.iconst 3, 1) := sorry
theorem dX1_seeRelation_34 : decode cX1_seeRelation 34 = .ok (.goto 4, 3) := sorry
theorem dX1_seeRelation_37 : decode cX1_seeRelation 37 = .ok (.iconst 0, 1) := sorry
theorem dX1_seeRelation_38 : decode cX1_seeRelation 38 = .ok (.ireturn, 1) := sorry
set_option maxRecDepth 20000 in
theorem ggX1_seeColumn_X1_isKind : GoodIn wsX1_seeColumn wsX1_isKind := sorry
set_option maxRecDepth 20000 in
theorem gX1_seeColumn_X1_isKind : GoodIn wsX1_seeColumn (wsV RX1 67 RX1 yX1_isKind wsX1_isKind) := sorry
def dtX1_seeColumn_0_0 : List (Nat × Instr × Nat) := [(0, .aload_n 0, 1), (1, .iconst 2, 1), (2, .invokevirtual 67, 3), (5, .ifCond .ne 5, 3), (8, .iconst 1, 1), (9, .ireturn, 1), (10, .aload_n 0, 1), (11, .getfield 12, 3), (14, .getfield 71, 3), (17, .aload_n 0, 1), (18, .getfield 44, 3), (21, .iaload, 1), (22, .iload_n 1, 1), (23, .if_icmp .lt 7, 3), (26, .iconst 2, 1), (27, .goto 4, 3), (30, .iconst 0, 1), (31, .ireturn, 1)]
theorem dtX1_seeColumn_0_0_ok : dcAll cX1_seeColumn dtX1_seeColumn_0_0 = true := sorry
theorem dX1_seeColumn_0 : decode cX1_seeColumn 0 = .ok (.aload_n 0, 1) := sorry
theorem dX1_seeColumn_1 : decode cX1_seeColumn 1 = .ok (.iconst 2, 1) := sorry
theorem dX1_seeColumn_2 : decode cX1_seeColumn 2 = .ok (.invokevirtual 67, 3) := sorry
theorem dX1_seeColumn_5 : decode cX1_seeColumn 5 = .ok (.ifCond .ne 5, 3) := sorry
theorem dX1_seeColumn_8 : decode cX1_seeColumn 8 = .ok (.iconst 1, 1) := sorry
theorem dX1_seeColumn_9 : decode cX1_seeColumn 9 = .ok (.ireturn, 1) := sorry
theorem dX1_seeColumn_10 : decode cX1_seeColumn 10 = .ok (.aload_n 0, 1) := sorry
theorem dX1_seeColumn_11 : decode cX1_seeColumn 11 = .ok (.getfield 12, 3) := sorry
theorem dX1_seeColumn_14 : decode cX1_seeColumn 14 = .ok (.getfield 71, 3) := sorry
theorem dX1_seeColumn_17 : decode cX1_seeColumn 17 = .ok (.aload_n 0, 1) := sorry
theorem dX1_seeColumn_18 : decode cX1_seeColumn 18 = .ok (.getfield 44, 3) := sorry
theorem dX1_seeColumn_21 : decode cX1_seeColumn 21 = .ok (.iaload, 1) := sorry
theorem dX1_seeColumn_22 : decode cX1_seeColumn 22 = .ok (.iload_n 1, 1) := sorry
theorem dX1_seeColumn_23 : decode cX1_seeColumn 23 = .ok (.if_icmp .lt 7, 3) := sorry
theorem dX1_seeColumn_26 : decode cX1_seeColumn 26 = .ok (.iconst 2, 1) := sorry
theorem dX1_seeColumn_27 : decode cX1_seeColumn 27 = .ok (.goto 4, 3) := sorry
theorem dX1_seeColumn_30 : decode cX1_seeColumn 30 = .ok (.iconst 0, 1) := sorry
theorem dX1_seeColumn_31 : decode cX1_seeColumn 31 = .ok (.ireturn, 1) := sorry
set_option maxRecDepth 20000 in
theorem ggX1_readSelect_X1_readFirst : GoodIn wsX1_readSelect wsX1_readFirst := sorry
set_option maxRecDepth 20000 in
theorem gX1_readSelect_X1_readFirst : GoodIn wsX1_readSelect (wsV RX1 161 RX1 yX1_readFirst wsX1_readFirst) := sorry
set_option maxRecDepth 20000 in
theorem ggX1_readSelect_X1_takeWord : GoodIn wsX1_readSelect wsX1_takeWord := sorry
set_option maxRecDepth 20000 in
theorem gX1_readSelect_X1_takeWord : GoodIn wsX1_readSelect (wsV RX1 164 RX1 yX1_takeWord wsX1_takeWord) := sorry
set_option maxRecDepth 20000 in
theorem ggX1_readSelect_X1_readTests : GoodIn wsX1_readSelect wsX1_readTests := sorry
set_option maxRecDepth 20000 in
theorem gX1_readSelect_X1_readTests : GoodIn wsX1_readSelect (wsV RX1 167 RX1 yX1_readTests wsX1_readTests) := sorry
def dtX1_readSelect_0_0 : List (Nat × Instr × Nat) := [(0, .aload_n 0, 1), (1, .invokevirtual 161, 3), (4, .istore_n 1, 1), (5, .iload_n 1, 1), (6, .ifCond .ne 10, 3), (9, .aload_n 0, 1), (10, .bipush 10, 2), (12, .invokevirtual 164, 3), (15, .istore_n 1, 1), (16, .iload_n 1, 1), (17, .ifCond .ne 8, 3), (20, .aload_n 0, 1), (21, .invokevirtual 167, 3), (24, .istore_n 1, 1), (25, .aload_n 0, 1), (26, .getfield 29, 3), (29, .aload_n 0, 1), (30, .getfield 29, 3), (33, .getfield 143, 3), (36, .putfield 136, 3), (39, .iload_n 1, 1), (40, .ireturn, 1)]
theorem dtX1_readSelect_0_0_ok : dcAll cX1_readSelect dtX1_readSelect_0_0 = true := sorry
theorem dX1_readSelect_0 : decode cX1_readSelect 0 = .ok (.aload_n 0, 1) := sorry
theorem dX1_readSelect_1 : decode cX1_readSelect 1 = .ok (.invokevirtual 161, 3) := sorry
theorem dX1_readSelect_4 : decode cX1_readSelect 4 = .ok (.istore_n 1, 1) := sorry
theorem dX1_readSelect_5 : decode cX1_readSelect 5 = .ok (.iload_n 1, 1) := sorry
theorem dX1_readSelect_6 : decode cX1_readSelect 6 = .ok (.ifCond .ne 10, 3) := sorry
theorem dX1_readSelect_9 : decode cX1_readSelect 9 = .ok (.aload_n 0, 1) := sorry
theorem dX1_readSelect_10 : decode cX1_readSelect 10 = .ok (.bipush 10, 2) := sorry
theorem dX1_readSelect_12 : decode cX1_readSelect 12 = .ok (.invokevirtual 164, 3) := sorry
theorem dX1_readSelect_15 : decode cX1_readSelect 15 = .ok (.istore_n 1, 1) := sorry
theorem dX1_readSelect_16 : decode cX1_readSelect 16 = .ok (.iload_n 1, 1) := sorry
theorem dX1_readSelect_17 : decode cX1_readSelect 17 = .ok (.ifCond .ne 8, 3) := sorry
theorem dX1_readSelect_20 : decode cX1_readSelect 20 = .ok (.aload_n 0, 1) := sorry
theorem dX1_readSelect_21 : decode cX1_readSelect 21 = .ok (.invokevirtual 167, 3) := sorry
theorem dX1_readSelect_24 : decode cX1_readSelect 24 = .ok (.istore_n 1, 1) := sorry
theorem dX1_readSelect_25 : decode cX1_readSelect 25 = .ok (.aload_n 0, 1) := sorry
theorem dX1_readSelect_26 : decode cX1_readSelect 26 = .ok (.getfield 29, 3) := sorry
theorem dX1_readSelect_29 : decode cX1_readSelect 29 = .ok (.aload_n 0, 1) := sorry
theorem dX1_readSelect_30 : decode cX1_readSelect 30 = .ok (.getfield 29, 3) := sorry
theorem dX1_readSelect_33 : decode cX1_readSelect 33 = .ok (.getfield 143, 3) := sorry
theorem dX1_readSelect_36 : decode cX1_readSelect 36 = .ok (.putfield 136, 3) := sorry
theorem dX1_readSelect_39 : decode cX1_readSelect 39 = .ok (.iload_n 1, 1) := sorry
theorem dX1_readSelect_40 : decode cX1_readSelect 40 = .ok (.ireturn, 1) := sorry
set_option maxRecDepth 20000 in
theorem ggX1_readTests_X1_readTest : GoodIn wsX1_readTests wsX1_readTest := sorry
set_option maxRecDepth 20000 in
theorem gX1_readTests_X1_readTest : GoodIn wsX1_readTests (wsV RX1 170 RX1 yX1_readTest wsX1_readTest) := sorry
set_option maxRecDepth 20000 in
theorem ggX1_readTests_X1_isWord : GoodIn wsX1_readTests wsX1_isWord := sorry
set_option maxRecDepth 20000 in
theorem gX1_readTests_X1_isWord : GoodIn wsX1_readTests (wsV RX1 78 RX1 yX1_isWord wsX1_isWord) := sorry
set_option maxRecDepth 20000 in
theorem ggX1_readTests_X1_step : GoodIn wsX1_readTests wsX1_step := sorry
set_option maxRecDepth 20000 in
theorem gX1_readTests_X1_step : GoodIn wsX1_readTests (wsV RX1 75 RX1 yX1_step wsX1_step) := sorry
def dtX1_readTests_0_0 : List (Nat × Instr × Nat) := [(0, .iconst 0, 1), (1, .istore_n 1, 1), (2, .iload_n 1, 1), (3, .bipush 8, 2), (5, .if_icmp .gt 33, 3), (8, .aload_n 0, 1), (9, .invokevirtual 170, 3), (12, .istore_n 2, 1), (13, .iload_n 2, 1), (14, .ifCond .ne 12, 3), (17, .aload_n 0, 1), (18, .bipush 11, 2), (20, .invokevirtual 78, 3), (23, .ifCond .ne 5, 3), (26, .iload_n 2, 1), (27, .ireturn, 1), (28, .aload_n 0, 1), (29, .invokevirtual 75, 3), (32, .iinc 1 1, 3), (35, .goto (-33), 3), (38, .iconst 4, 1), (39, .ireturn, 1)]
theorem dtX1_readTests_0_0_ok : dcAll cX1_readTests dtX1_readTests_0_0 = true := sorry
theorem dX1_readTests_0 : decode cX1_readTests 0 = .ok (.iconst 0, 1) := sorry
theorem dX1_readTests_1 : decode cX1_readTests 1 = .ok (.istore_n 1, 1) := sorry
theorem dX1_readTests_2 : decode cX1_readTests 2 = .ok (.iload_n 1, 1) := sorry
theorem dX1_readTests_3 : decode cX1_readTests 3 = .ok (.bipush 8, 2) := sorry
theorem dX1_readTests_5 : decode cX1_readTests 5 = .ok (.if_icmp .gt 33, 3) := sorry
theorem dX1_readTests_8 : decode cX1_readTests 8 = .ok (.aload_n 0, 1) := sorry
theorem dX1_readTests_9 : decode cX1_readTests 9 = .ok (.invokevirtual 170, 3) := sorry
theorem dX1_readTests_12 : decode cX1_readTests 12 = .ok (.istore_n 2, 1) := sorry
theorem dX1_readTests_13 : decode cX1_readTests 13 = .ok (.iload_n 2, 1) := sorry
theorem dX1_readTests_14 : decode cX1_readTests 14 = .ok (.ifCond .ne 12, 3) := sorry
theorem dX1_readTests_17 : decode cX1_readTests 17 = .ok (.aload_n 0, 1) := sorry
theorem dX1_readTests_18 : decode cX1_readTests 18 = .ok (.bipush 11, 2) := sorry
theorem dX1_readTests_20 : decode cX1_readTests 20 = .ok (.invokevirtual 78, 3) := sorry
theorem dX1_readTests_23 : decode cX1_readTests 23 = .ok (.ifCond .ne 5, 3) := sorry
theorem dX1_readTests_26 : decode cX1_readTests 26 = .ok (.iload_n 2, 1) := sorry
theorem dX1_readTests_27 : decode cX1_readTests 27 = .ok (.ireturn, 1) := sorry
theorem dX1_readTests_28 : decode cX1_readTests 28 = .ok (.aload_n 0, 1) := sorry
theorem dX1_readTests_29 : decode cX1_readTests 29 = .ok (.invokevirtual 75, 3) := sorry
theorem dX1_readTests_32 : decode cX1_readTests 32 = .ok (.iinc 1 1, 3) := sorry
theorem dX1_readTests_35 : decode cX1_readTests 35 = .ok (.goto (-33), 3) := sorry
theorem dX1_readTests_38 : decode cX1_readTests 38 = .ok (.iconst 4, 1) := sorry
theorem dX1_readTests_39 : decode cX1_readTests 39 = .ok (.ireturn, 1) := sorry
set_option maxRecDepth 20000 in
theorem ggX1_readTest_X1_seeColumn : GoodIn wsX1_readTest wsX1_seeColumn := sorry
set_option maxRecDepth 20000 in
theorem gX1_readTest_X1_seeColumn : GoodIn wsX1_readTest (wsV RX1 173 RX1 yX1_seeColumn wsX1_seeColumn) := sorry
set_option maxRecDepth 20000 in
theorem ggX1_readTest_X1_step : GoodIn wsX1_readTest wsX1_step := sorry
set_option maxRecDepth 20000 in
theorem gX1_readTest_X1_step : GoodIn wsX1_readTest (wsV RX1 75 RX1 yX1_step wsX1_step) := sorry
set_option maxRecDepth 20000 in
theorem ggX1_readTest_X1_isKind : GoodIn wsX1_readTest wsX1_isKind := sorry
set_option maxRecDepth 20000 in
theorem gX1_readTest_X1_isKind : GoodIn wsX1_readTest (wsV RX1 67 RX1 yX1_isKind wsX1_isKind) := sorry
set_option maxRecDepth 20000 in
theorem ggX1_readTest_X0_addTest : GoodIn wsX1_readTest wsX0_addTest := sorry
set_option maxRecDepth 20000 in
theorem gX1_readTest_X0_addTest : GoodIn wsX1_readTest (wsV RX1 176 RX0 yX0_addTest wsX0_addTest) := sorry
def dtX1_readTest_0_0 : List (Nat × Instr × Nat) := [(0, .aload_n 0, 1), (1, .aload_n 0, 1), (2, .getfield 29, 3), (5, .getfield 143, 3), (8, .invokevirtual 173, 3), (11, .istore_n 1, 1), (12, .iload_n 1, 1), (13, .ifCond .eq 5, 3), (16, .iload_n 1, 1), (17, .ireturn, 1), (18, .aload_n 0, 1), (19, .getfield 29, 3), (22, .getfield 149, 3), (25, .bipush 8, 2), (27, .if_icmp .lt 5, 3), (30, .iconst 4, 1), (31, .ireturn, 1), (32, .aload_n 0, 1), (33, .getfield 12, 3), (36, .getfield 71, 3), (39, .aload_n 0, 1), (40, .getfield 44, 3), (43, .iaload, 1), (44, .istore_n 2, 1), (45, .aload_n 0, 1), (46, .invokevirtual 75, 3), (49, .aload_n 0, 1), (50, .getfield 12, 3), (53, .getfield 47, 3), (56, .aload_n 0, 1), (57, .getfield 44, 3), (60, .iaload, 1)]
theorem dtX1_readTest_0_0_ok : dcAll cX1_readTest dtX1_readTest_0_0 = true := sorry
theorem dX1_readTest_0 : decode cX1_readTest 0 = .ok (.aload_n 0, 1) := sorry
theorem dX1_readTest_1 : decode cX1_readTest 1 = .ok (.aload_n 0, 1) := sorry
theorem dX1_readTest_2 : decode cX1_readTest 2 = .ok (.getfield 29, 3) := sorry
theorem dX1_readTest_5 : decode cX1_readTest 5 = .ok (.getfield 143, 3) := sorry
theorem dX1_readTest_8 : decode cX1_readTest 8 = .ok (.invokevirtual 173, 3) := sorry
theorem dX1_readTest_11 : decode cX1_readTest 11 = .ok (.istore_n 1, 1) := sorry
theorem dX1_readTest_12 : decode cX1_readTest 12 = .ok (.iload_n 1, 1) := sorry
theorem dX1_readTest_13 : decode cX1_readTest 13 = .ok (.ifCond .eq 5, 3) := sorry
theorem dX1_readTest_16 : decode cX1_readTest 16 = .ok (.iload_n 1, 1) := sorry
theorem dX1_readTest_17 : decode cX1_readTest 17 = .ok (.ireturn, 1) := sorry
theorem dX1_readTest_18 : decode cX1_readTest 18 = .ok (.aload_n 0, 1) := sorry
theorem dX1_readTest_19 : decode cX1_readTest 19 = .ok (.getfield 29, 3) := sorry
theorem dX1_readTest_22 : decode cX1_readTest 22 = .ok (.getfield 149, 3) := sorry
theorem dX1_readTest_25 : decode cX1_readTest 25 = .ok (.bipush 8, 2) := sorry
theorem dX1_readTest_27 : decode cX1_readTest 27 = .ok (.if_icmp .lt 5, 3) := sorry
theorem dX1_readTest_30 : decode cX1_readTest 30 = .ok (.iconst 4, 1) := sorry
theorem dX1_readTest_31 : decode cX1_readTest 31 = .ok (.ireturn, 1) := sorry
theorem dX1_readTest_32 : decode cX1_readTest 32 = .ok (.aload_n 0, 1) := sorry
theorem dX1_readTest_33 : decode cX1_readTest 33 = .ok (.getfield 12, 3) := sorry
theorem dX1_readTest_36 : decode cX1_readTest 36 = .ok (.getfield 71, 3) := sorry
theorem dX1_readTest_39 : decode cX1_readTest 39 = .ok (.aload_n 0, 1) := sorry
theorem dX1_readTest_40 : decode cX1_readTest 40 = .ok (.getfield 44, 3) := sorry
theorem dX1_readTest_43 : decode cX1_readTest 43 = .ok (.iaload, 1) := sorry
theorem dX1_readTest_44 : decode cX1_readTest 44 = .ok (.istore_n 2, 1) := sorry
theorem dX1_readTest_45 : decode cX1_readTest 45 = .ok (.aload_n 0, 1) := sorry
theorem dX1_readTest_46 : decode cX1_readTest 46 = .ok (.invokevirtual 75, 3) := sorry
theorem dX1_readTest_49 : decode cX1_readTest 49 = .ok (.aload_n 0, 1) := sorry
theorem dX1_readTest_50 : decode cX1_readTest 50 = .ok (.getfield 12, 3) := sorry
theorem dX1_readTest_53 : decode cX1_readTest 53 = .ok (.getfield 47, 3) := sorry
theorem dX1_readTest_56 : decode cX1_readTest 56 = .ok (.aload_n 0, 1) := sorry
theorem dX1_readTest_57 : decode cX1_readTest 57 = .ok (.getfield 44, 3) := sorry
theorem dX1_readTest_60 : decode cX1_readTest 60 = .ok (.iaload, 1) := sorry
def dtX1_readTest_61_1 : List (Nat × Instr × Nat) := [(61, .istore_n 3, 1), (62, .iload_n 3, 1), (63, .bipush 61, 2), (65, .if_icmp .eq 17, 3), (68, .iload_n 3, 1), (69, .bipush 60, 2), (71, .if_icmp .eq 11, 3), (74, .iload_n 3, 1), (75, .bipush 62, 2), (77, .if_icmp .eq 5, 3), (80, .iconst 1, 1), (81, .ireturn, 1), (82, .aload_n 0, 1), (83, .invokevirtual 75, 3), (86, .aload_n 0, 1), (87, .iconst 4, 1), (88, .invokevirtual 67, 3), (91, .istore 4, 2), (93, .iload 4, 2), (95, .ifCond .eq 7, 3), (98, .iconst 0, 1), (99, .goto 14, 3), (102, .aload_n 0, 1), (103, .aload_n 0, 1), (104, .getfield 29, 3), (107, .getfield 143, 3), (110, .invokevirtual 173, 3), (113, .istore_n 1, 1), (114, .iload_n 1, 1), (115, .ifCond .eq 5, 3), (118, .iload_n 1, 1), (119, .ireturn, 1)]
theorem dtX1_readTest_61_1_ok : dcAll cX1_readTest dtX1_readTest_61_1 = true := sorry
theorem dX1_readTest_61 : decode cX1_readTest 61 = .ok (.istore_n 3, 1) := sorry
theorem dX1_readTest_62 : decode cX1_readTest 62 = .ok (.iload_n 3, 1) := sorry
theorem dX1_readTest_63 : decode cX1_readTest 63 = .ok (.bipush 61, 2) := sorry
theorem dX1_readTest_65 : decode cX1_readTest 65 = .ok (.if_icmp .eq 17, 3) := sorry
theorem dX1_readTest_68 : decode cX1_readTest 68 = .ok (.iload_n 3, 1) := sorry
theorem dX1_readTest_69 : decode cX1_readTest 69 = .ok (.bipush 60, 2) := sorry
theorem dX1_readTest_71 : decode cX1_readTest 71 = .ok (.if_icmp .eq 11, 3) := sorry
theorem dX1_readTest_74 : decode cX1_readTest 74 = .ok (.iload_n 3, 1) := sorry
theorem dX1_readTest_75 : decode cX1_readTest 75 = .ok (.bipush 62, 2) := sorry
theorem dX1_readTest_77 : decode cX1_readTest 77 = .ok (.if_icmp .eq 5, 3) := sorry
theorem dX1_readTest_80 : decode cX1_readTest 80 = .ok (.iconst 1, 1) := sorry
theorem dX1_readTest_81 : decode cX1_readTest 81 = .ok (.ireturn, 1) := sorry
theorem dX1_readTest_82 : decode cX1_readTest 82 = .ok (.aload_n 0, 1) := sorry
theorem dX1_readTest_83 : decode cX1_readTest 83 = .ok (.invokevirtual 75, 3) := sorry
theorem dX1_readTest_86 : decode cX1_readTest 86 = .ok (.aload_n 0, 1) := sorry
theorem dX1_readTest_87 : decode cX1_readTest 87 = .ok (.iconst 4, 1) := sorry
theorem dX1_readTest_88 : decode cX1_readTest 88 = .ok (.invokevirtual 67, 3) := sorry
theorem dX1_readTest_91 : decode cX1_readTest 91 = .ok (.istore 4, 2) := sorry
theorem dX1_readTest_93 : decode cX1_readTest 93 = .ok (.iload 4, 2) := sorry
theorem dX1_readTest_95 : decode cX1_readTest 95 = .ok (.ifCond .eq 7, 3) := sorry
theorem dX1_readTest_98 : decode cX1_readTest 98 = .ok (.iconst 0, 1) := sorry
theorem dX1_readTest_99 : decode cX1_readTest 99 = .ok (.goto 14, 3) := sorry
theorem dX1_readTest_102 : decode cX1_readTest 102 = .ok (.aload_n 0, 1) := sorry
theorem dX1_readTest_103 : decode cX1_readTest 103 = .ok (.aload_n 0, 1) := sorry
theorem dX1_readTest_104 : decode cX1_readTest 104 = .ok (.getfield 29, 3) := sorry
theorem dX1_readTest_107 : decode cX1_readTest 107 = .ok (.getfield 143, 3) := sorry
theorem dX1_readTest_110 : decode cX1_readTest 110 = .ok (.invokevirtual 173, 3) := sorry
theorem dX1_readTest_113 : decode cX1_readTest 113 = .ok (.istore_n 1, 1) := sorry
theorem dX1_readTest_114 : decode cX1_readTest 114 = .ok (.iload_n 1, 1) := sorry
theorem dX1_readTest_115 : decode cX1_readTest 115 = .ok (.ifCond .eq 5, 3) := sorry
theorem dX1_readTest_118 : decode cX1_readTest 118 = .ok (.iload_n 1, 1) := sorry
theorem dX1_readTest_119 : decode cX1_readTest 119 = .ok (.ireturn, 1) := sorry
def dtX1_readTest_120_2 : List (Nat × Instr × Nat) := [(120, .aload_n 0, 1), (121, .getfield 12, 3), (124, .getfield 71, 3), (127, .aload_n 0, 1), (128, .getfield 44, 3), (131, .iaload, 1), (132, .istore 5, 2), (134, .aload_n 0, 1), (135, .getfield 29, 3), (138, .iload_n 2, 1), (139, .iload_n 3, 1), (140, .iload 4, 2), (142, .ifCond .eq 7, 3), (145, .iconst (-1), 1), (146, .goto 5, 3), (149, .iload 5, 2), (151, .iload 5, 2), (153, .invokevirtual 176, 3), (156, .aload_n 0, 1), (157, .invokevirtual 75, 3), (160, .iconst 0, 1), (161, .ireturn, 1)]
theorem dtX1_readTest_120_2_ok : dcAll cX1_readTest dtX1_readTest_120_2 = true := sorry
theorem dX1_readTest_120 : decode cX1_readTest 120 = .ok (.aload_n 0, 1) := sorry
theorem dX1_readTest_121 : decode cX1_readTest 121 = .ok (.getfield 12, 3) := sorry
theorem dX1_readTest_124 : decode cX1_readTest 124 = .ok (.getfield 71, 3) := sorry
theorem dX1_readTest_127 : decode cX1_readTest 127 = .ok (.aload_n 0, 1) := sorry
theorem dX1_readTest_128 : decode cX1_readTest 128 = .ok (.getfield 44, 3) := sorry
theorem dX1_readTest_131 : decode cX1_readTest 131 = .ok (.iaload, 1) := sorry
theorem dX1_readTest_132 : decode cX1_readTest 132 = .ok (.istore 5, 2) := sorry
theorem dX1_readTest_134 : decode cX1_readTest 134 = .ok (.aload_n 0, 1) := sorry
theorem dX1_readTest_135 : decode cX1_readTest 135 = .ok (.getfield 29, 3) := sorry
theorem dX1_readTest_138 : decode cX1_readTest 138 = .ok (.iload_n 2, 1) := sorry
theorem dX1_readTest_139 : decode cX1_readTest 139 = .ok (.iload_n 3, 1) := sorry
theorem dX1_readTest_140 : decode cX1_readTest 140 = .ok (.iload 4, 2) := sorry
theorem dX1_readTest_142 : decode cX1_readTest 142 = .ok (.ifCond .eq 7, 3) := sorry
theorem dX1_readTest_145 : decode cX1_readTest 145 = .ok (.iconst (-1), 1) := sorry
theorem dX1_readTest_146 : decode cX1_readTest 146 = .ok (.goto 5, 3) := sorry
theorem dX1_readTest_149 : decode cX1_readTest 149 = .ok (.iload 5, 2) := sorry
theorem dX1_readTest_151 : decode cX1_readTest 151 = .ok (.iload 5, 2) := sorry
theorem dX1_readTest_153 : decode cX1_readTest 153 = .ok (.invokevirtual 176, 3) := sorry
theorem dX1_readTest_156 : decode cX1_readTest 156 = .ok (.aload_n 0, 1) := sorry
theorem dX1_readTest_157 : decode cX1_readTest 157 = .ok (.invokevirtual 75, 3) := sorry
theorem dX1_readTest_160 : decode cX1_readTest 160 = .ok (.iconst 0, 1) := sorry
theorem dX1_readTest_161 : decode cX1_readTest 161 = .ok (.ireturn, 1) := sorry
set_option maxRecDepth 20000 in
theorem ggX1_readProject_X1_readFirst : GoodIn wsX1_readProject wsX1_readFirst := sorry
set_option maxRecDepth 20000 in
theorem gX1_readProject_X1_readFirst : GoodIn wsX1_readProject (wsV RX1 161 RX1 yX1_readFirst wsX1_readFirst) := sorry
set_option maxRecDepth 20000 in
theorem ggX1_readProject_X1_readTerms : GoodIn wsX1_readProject wsX1_readTerms := sorry
set_option maxRecDepth 20000 in
theorem gX1_readProject_X1_readTerms : GoodIn wsX1_readProject (wsV RX1 180 RX1 yX1_readTerms wsX1_readTerms) := sorry
def dtX1_readProject_0_0 : List (Nat × Instr × Nat) := [(0, .aload_n 0, 1), (1, .invokevirtual 161, 3), (4, .istore_n 1, 1), (5, .iload_n 1, 1), (6, .ifCond .ne 15, 3), (9, .aload_n 0, 1), (10, .aload_n 0, 1), (11, .getfield 29, 3), (14, .getfield 143, 3), (17, .invokevirtual 180, 3), (20, .istore_n 1, 1), (21, .aload_n 0, 1), (22, .getfield 29, 3), (25, .aload_n 0, 1), (26, .getfield 29, 3), (29, .getfield 149, 3), (32, .putfield 136, 3), (35, .iload_n 1, 1), (36, .ireturn, 1)]
theorem dtX1_readProject_0_0_ok : dcAll cX1_readProject dtX1_readProject_0_0 = true := sorry
theorem dX1_readProject_0 : decode cX1_readProject 0 = .ok (.aload_n 0, 1) := sorry
theorem dX1_readProject_1 : decode cX1_readProject 1 = .ok (.invokevirtual 161, 3) := sorry
theorem dX1_readProject_4 : decode cX1_readProject 4 = .ok (.istore_n 1, 1) := sorry
theorem dX1_readProject_5 : decode cX1_readProject 5 = .ok (.iload_n 1, 1) := sorry
theorem dX1_readProject_6 : decode cX1_readProject 6 = .ok (.ifCond .ne 15, 3) := sorry
theorem dX1_readProject_9 : decode cX1_readProject 9 = .ok (.aload_n 0, 1) := sorry
theorem dX1_readProject_10 : decode cX1_readProject 10 = .ok (.aload_n 0, 1) := sorry
theorem dX1_readProject_11 : decode cX1_readProject 11 = .ok (.getfield 29, 3) := sorry
theorem dX1_readProject_14 : decode cX1_readProject 14 = .ok (.getfield 143, 3) := sorry
theorem dX1_readProject_17 : decode cX1_readProject 17 = .ok (.invokevirtual 180, 3) := sorry
theorem dX1_readProject_20 : decode cX1_readProject 20 = .ok (.istore_n 1, 1) := sorry
theorem dX1_readProject_21 : decode cX1_readProject 21 = .ok (.aload_n 0, 1) := sorry
theorem dX1_readProject_22 : decode cX1_readProject 22 = .ok (.getfield 29, 3) := sorry
theorem dX1_readProject_25 : decode cX1_readProject 25 = .ok (.aload_n 0, 1) := sorry
theorem dX1_readProject_26 : decode cX1_readProject 26 = .ok (.getfield 29, 3) := sorry
theorem dX1_readProject_29 : decode cX1_readProject 29 = .ok (.getfield 149, 3) := sorry
theorem dX1_readProject_32 : decode cX1_readProject 32 = .ok (.putfield 136, 3) := sorry
theorem dX1_readProject_35 : decode cX1_readProject 35 = .ok (.iload_n 1, 1) := sorry
theorem dX1_readProject_36 : decode cX1_readProject 36 = .ok (.ireturn, 1) := sorry
set_option maxRecDepth 20000 in
theorem ggX1_readTerms_X1_readTerm : GoodIn wsX1_readTerms wsX1_readTerm := sorry
set_option maxRecDepth 20000 in
theorem gX1_readTerms_X1_readTerm : GoodIn wsX1_readTerms (wsV RX1 183 RX1 yX1_readTerm wsX1_readTerm) := sorry
set_option maxRecDepth 20000 in
theorem ggX1_readTerms_X1_isKind : GoodIn wsX1_readTerms wsX1_isKind := sorry
set_option maxRecDepth 20000 in
theorem gX1_readTerms_X1_isKind : GoodIn wsX1_readTerms (wsV RX1 67 RX1 yX1_isKind wsX1_isKind) := sorry
set_option maxRecDepth 20000 in
theorem ggX1_readTerms_X1_step : GoodIn wsX1_readTerms wsX1_step := sorry
set_option maxRecDepth 20000 in
theorem gX1_readTerms_X1_step : GoodIn wsX1_readTerms (wsV RX1 75 RX1 yX1_step wsX1_step) := sorry
def dtX1_readTerms_0_0 : List (Nat × Instr × Nat) := [(0, .iconst 0, 1), (1, .istore_n 2, 1), (2, .iload_n 2, 1), (3, .iconst 4, 1), (4, .if_icmp .gt 34, 3), (7, .aload_n 0, 1), (8, .iload_n 1, 1), (9, .invokevirtual 183, 3), (12, .istore_n 3, 1), (13, .iload_n 3, 1), (14, .ifCond .ne 12, 3), (17, .aload_n 0, 1), (18, .bipush 44, 2), (20, .invokevirtual 67, 3), (23, .ifCond .ne 5, 3), (26, .iload_n 3, 1), (27, .ireturn, 1), (28, .aload_n 0, 1), (29, .invokevirtual 75, 3), (32, .iinc 2 1, 3), (35, .goto (-33), 3), (38, .iconst 4, 1), (39, .ireturn, 1)]
theorem dtX1_readTerms_0_0_ok : dcAll cX1_readTerms dtX1_readTerms_0_0 = true := sorry
theorem dX1_readTerms_0 : decode cX1_readTerms 0 = .ok (.iconst 0, 1) := sorry
theorem dX1_readTerms_1 : decode cX1_readTerms 1 = .ok (.istore_n 2, 1) := sorry
theorem dX1_readTerms_2 : decode cX1_readTerms 2 = .ok (.iload_n 2, 1) := sorry
theorem dX1_readTerms_3 : decode cX1_readTerms 3 = .ok (.iconst 4, 1) := sorry
theorem dX1_readTerms_4 : decode cX1_readTerms 4 = .ok (.if_icmp .gt 34, 3) := sorry
theorem dX1_readTerms_7 : decode cX1_readTerms 7 = .ok (.aload_n 0, 1) := sorry
theorem dX1_readTerms_8 : decode cX1_readTerms 8 = .ok (.iload_n 1, 1) := sorry
theorem dX1_readTerms_9 : decode cX1_readTerms 9 = .ok (.invokevirtual 183, 3) := sorry
theorem dX1_readTerms_12 : decode cX1_readTerms 12 = .ok (.istore_n 3, 1) := sorry
theorem dX1_readTerms_13 : decode cX1_readTerms 13 = .ok (.iload_n 3, 1) := sorry
theorem dX1_readTerms_14 : decode cX1_readTerms 14 = .ok (.ifCond .ne 12, 3) := sorry
theorem dX1_readTerms_17 : decode cX1_readTerms 17 = .ok (.aload_n 0, 1) := sorry
theorem dX1_readTerms_18 : decode cX1_readTerms 18 = .ok (.bipush 44, 2) := sorry
theorem dX1_readTerms_20 : decode cX1_readTerms 20 = .ok (.invokevirtual 67, 3) := sorry
theorem dX1_readTerms_23 : decode cX1_readTerms 23 = .ok (.ifCond .ne 5, 3) := sorry
theorem dX1_readTerms_26 : decode cX1_readTerms 26 = .ok (.iload_n 3, 1) := sorry
theorem dX1_readTerms_27 : decode cX1_readTerms 27 = .ok (.ireturn, 1) := sorry
theorem dX1_readTerms_28 : decode cX1_readTerms 28 = .ok (.aload_n 0, 1) := sorry
theorem dX1_readTerms_29 : decode cX1_readTerms 29 = .ok (.invokevirtual 75, 3) := sorry
theorem dX1_readTerms_32 : decode cX1_readTerms 32 = .ok (.iinc 2 1, 3) := sorry
theorem dX1_readTerms_35 : decode cX1_readTerms 35 = .ok (.goto (-33), 3) := sorry
theorem dX1_readTerms_38 : decode cX1_readTerms 38 = .ok (.iconst 4, 1) := sorry
theorem dX1_readTerms_39 : decode cX1_readTerms 39 = .ok (.ireturn, 1) := sorry
set_option maxRecDepth 20000 in
theorem ggX1_readTerm_X1_isKind : GoodIn wsX1_readTerm wsX1_isKind := sorry
set_option maxRecDepth 20000 in
theorem gX1_readTerm_X1_isKind : GoodIn wsX1_readTerm (wsV RX1 67 RX1 yX1_isKind wsX1_isKind) := sorry
set_option maxRecDepth 20000 in
theorem ggX1_readTerm_X1_seeColumn : GoodIn wsX1_readTerm wsX1_seeColumn := sorry
set_option maxRecDepth 20000 in
theorem gX1_readTerm_X1_seeColumn : GoodIn wsX1_readTerm (wsV RX1 173 RX1 yX1_seeColumn wsX1_seeColumn) := sorry
set_option maxRecDepth 20000 in
theorem ggX1_readTerm_X1_step : GoodIn wsX1_readTerm wsX1_step := sorry
set_option maxRecDepth 20000 in
theorem gX1_readTerm_X1_step : GoodIn wsX1_readTerm (wsV RX1 75 RX1 yX1_step wsX1_step) := sorry
set_option maxRecDepth 20000 in
theorem ggX1_readTerm_X0_addTwo : GoodIn wsX1_readTerm wsX0_addTwo := sorry
set_option maxRecDepth 20000 in
theorem gX1_readTerm_X0_addTwo : GoodIn wsX1_readTerm (wsV RX1 186 RX0 yX0_addTwo wsX0_addTwo) := sorry
def dtX1_readTerm_0_0 : List (Nat × Instr × Nat) := [(0, .aload_n 0, 1), (1, .iconst 4, 1), (2, .invokevirtual 67, 3), (5, .istore_n 2, 1), (6, .iload_n 2, 1), (7, .ifCond .eq 7, 3), (10, .iconst 0, 1), (11, .goto 8, 3), (14, .aload_n 0, 1), (15, .iload_n 1, 1), (16, .invokevirtual 173, 3), (19, .istore_n 3, 1), (20, .iload_n 3, 1), (21, .ifCond .eq 5, 3), (24, .iload_n 3, 1), (25, .ireturn, 1), (26, .aload_n 0, 1), (27, .getfield 29, 3), (30, .getfield 149, 3), (33, .iconst 4, 1), (34, .if_icmp .lt 5, 3), (37, .iconst 4, 1), (38, .ireturn, 1), (39, .aload_n 0, 1), (40, .getfield 12, 3), (43, .getfield 71, 3), (46, .aload_n 0, 1), (47, .getfield 44, 3), (50, .iaload, 1), (51, .istore 4, 2), (53, .aload_n 0, 1), (54, .invokevirtual 75, 3)]
theorem dtX1_readTerm_0_0_ok : dcAll cX1_readTerm dtX1_readTerm_0_0 = true := sorry
theorem dX1_readTerm_0 : decode cX1_readTerm 0 = .ok (.aload_n 0, 1) := sorry
theorem dX1_readTerm_1 : decode cX1_readTerm 1 = .ok (.iconst 4, 1) := sorry
theorem dX1_readTerm_2 : decode cX1_readTerm 2 = .ok (.invokevirtual 67, 3) := sorry
theorem dX1_readTerm_5 : decode cX1_readTerm 5 = .ok (.istore_n 2, 1) := sorry
theorem dX1_readTerm_6 : decode cX1_readTerm 6 = .ok (.iload_n 2, 1) := sorry
theorem dX1_readTerm_7 : decode cX1_readTerm 7 = .ok (.ifCond .eq 7, 3) := sorry
theorem dX1_readTerm_10 : decode cX1_readTerm 10 = .ok (.iconst 0, 1) := sorry
theorem dX1_readTerm_11 : decode cX1_readTerm 11 = .ok (.goto 8, 3) := sorry
theorem dX1_readTerm_14 : decode cX1_readTerm 14 = .ok (.aload_n 0, 1) := sorry
theorem dX1_readTerm_15 : decode cX1_readTerm 15 = .ok (.iload_n 1, 1) := sorry
theorem dX1_readTerm_16 : decode cX1_readTerm 16 = .ok (.invokevirtual 173, 3) := sorry
theorem dX1_readTerm_19 : decode cX1_readTerm 19 = .ok (.istore_n 3, 1) := sorry
theorem dX1_readTerm_20 : decode cX1_readTerm 20 = .ok (.iload_n 3, 1) := sorry
theorem dX1_readTerm_21 : decode cX1_readTerm 21 = .ok (.ifCond .eq 5, 3) := sorry
theorem dX1_readTerm_24 : decode cX1_readTerm 24 = .ok (.iload_n 3, 1) := sorry
theorem dX1_readTerm_25 : decode cX1_readTerm 25 = .ok (.ireturn, 1) := sorry
theorem dX1_readTerm_26 : decode cX1_readTerm 26 = .ok (.aload_n 0, 1) := sorry
theorem dX1_readTerm_27 : decode cX1_readTerm 27 = .ok (.getfield 29, 3) := sorry
theorem dX1_readTerm_30 : decode cX1_readTerm 30 = .ok (.getfield 149, 3) := sorry
theorem dX1_readTerm_33 : decode cX1_readTerm 33 = .ok (.iconst 4, 1) := sorry
theorem dX1_readTerm_34 : decode cX1_readTerm 34 = .ok (.if_icmp .lt 5, 3) := sorry
theorem dX1_readTerm_37 : decode cX1_readTerm 37 = .ok (.iconst 4, 1) := sorry
theorem dX1_readTerm_38 : decode cX1_readTerm 38 = .ok (.ireturn, 1) := sorry
theorem dX1_readTerm_39 : decode cX1_readTerm 39 = .ok (.aload_n 0, 1) := sorry
theorem dX1_readTerm_40 : decode cX1_readTerm 40 = .ok (.getfield 12, 3) := sorry
theorem dX1_readTerm_43 : decode cX1_readTerm 43 = .ok (.getfield 71, 3) := sorry
theorem dX1_readTerm_46 : decode cX1_readTerm 46 = .ok (.aload_n 0, 1) := sorry
theorem dX1_readTerm_47 : decode cX1_readTerm 47 = .ok (.getfield 44, 3) := sorry
theorem dX1_readTerm_50 : decode cX1_readTerm 50 = .ok (.iaload, 1) := sorry
theorem dX1_readTerm_51 : decode cX1_readTerm 51 = .ok (.istore 4, 2) := sorry
theorem dX1_readTerm_53 : decode cX1_readTerm 53 = .ok (.aload_n 0, 1) := sorry
theorem dX1_readTerm_54 : decode cX1_readTerm 54 = .ok (.invokevirtual 75, 3) := sorry
def dtX1_readTerm_57_1 : List (Nat × Instr × Nat) := [(57, .iload_n 2, 1), (58, .ifCond .eq 15, 3), (61, .aload_n 0, 1), (62, .getfield 29, 3), (65, .iconst (-1), 1), (66, .iload 4, 2), (68, .invokevirtual 186, 3), (71, .iconst 0, 1), (72, .ireturn, 1), (73, .aload_n 0, 1), (74, .getfield 12, 3), (77, .getfield 47, 3), (80, .aload_n 0, 1), (81, .getfield 44, 3), (84, .iaload, 1), (85, .istore 5, 2), (87, .iload 5, 2), (89, .bipush 43, 2), (91, .if_icmp .eq 22, 3), (94, .iload 5, 2), (96, .bipush 45, 2), (98, .if_icmp .eq 15, 3), (101, .aload_n 0, 1), (102, .getfield 29, 3), (105, .iload 4, 2), (107, .iconst 0, 1), (108, .invokevirtual 186, 3), (111, .iconst 0, 1), (112, .ireturn, 1), (113, .aload_n 0, 1), (114, .invokevirtual 75, 3), (117, .aload_n 0, 1)]
theorem dtX1_readTerm_57_1_ok : dcAll cX1_readTerm dtX1_readTerm_57_1 = true := sorry
theorem dX1_readTerm_57 : decode cX1_readTerm 57 = .ok (.iload_n 2, 1) := sorry
theorem dX1_readTerm_58 : decode cX1_readTerm 58 = .ok (.ifCond .eq 15, 3) := sorry
theorem dX1_readTerm_61 : decode cX1_readTerm 61 = .ok (.aload_n 0, 1) := sorry
theorem dX1_readTerm_62 : decode cX1_readTerm 62 = .ok (.getfield 29, 3) := sorry
theorem dX1_readTerm_65 : decode cX1_readTerm 65 = .ok (.iconst (-1), 1) := sorry
theorem dX1_readTerm_66 : decode cX1_readTerm 66 = .ok (.iload 4, 2) := sorry
theorem dX1_readTerm_68 : decode cX1_readTerm 68 = .ok (.invokevirtual 186, 3) := sorry
theorem dX1_readTerm_71 : decode cX1_readTerm 71 = .ok (.iconst 0, 1) := sorry
theorem dX1_readTerm_72 : decode cX1_readTerm 72 = .ok (.ireturn, 1) := sorry
theorem dX1_readTerm_73 : decode cX1_readTerm 73 = .ok (.aload_n 0, 1) := sorry
theorem dX1_readTerm_74 : decode cX1_readTerm 74 = .ok (.getfield 12, 3) := sorry
theorem dX1_readTerm_77 : decode cX1_readTerm 77 = .ok (.getfield 47, 3) := sorry
theorem dX1_readTerm_80 : decode cX1_readTerm 80 = .ok (.aload_n 0, 1) := sorry
theorem dX1_readTerm_81 : decode cX1_readTerm 81 = .ok (.getfield 44, 3) := sorry
theorem dX1_readTerm_84 : decode cX1_readTerm 84 = .ok (.iaload, 1) := sorry
theorem dX1_readTerm_85 : decode cX1_readTerm 85 = .ok (.istore 5, 2) := sorry
theorem dX1_readTerm_87 : decode cX1_readTerm 87 = .ok (.iload 5, 2) := sorry
theorem dX1_readTerm_89 : decode cX1_readTerm 89 = .ok (.bipush 43, 2) := sorry
theorem dX1_readTerm_91 : decode cX1_readTerm 91 = .ok (.if_icmp .eq 22, 3) := sorry
theorem dX1_readTerm_94 : decode cX1_readTerm 94 = .ok (.iload 5, 2) := sorry
theorem dX1_readTerm_96 : decode cX1_readTerm 96 = .ok (.bipush 45, 2) := sorry
theorem dX1_readTerm_98 : decode cX1_readTerm 98 = .ok (.if_icmp .eq 15, 3) := sorry
theorem dX1_readTerm_101 : decode cX1_readTerm 101 = .ok (.aload_n 0, 1) := sorry
theorem dX1_readTerm_102 : decode cX1_readTerm 102 = .ok (.getfield 29, 3) := sorry
theorem dX1_readTerm_105 : decode cX1_readTerm 105 = .ok (.iload 4, 2) := sorry
theorem dX1_readTerm_107 : decode cX1_readTerm 107 = .ok (.iconst 0, 1) := sorry
theorem dX1_readTerm_108 : decode cX1_readTerm 108 = .ok (.invokevirtual 186, 3) := sorry
theorem dX1_readTerm_111 : decode cX1_readTerm 111 = .ok (.iconst 0, 1) := sorry
theorem dX1_readTerm_112 : decode cX1_readTerm 112 = .ok (.ireturn, 1) := sorry
theorem dX1_readTerm_113 : decode cX1_readTerm 113 = .ok (.aload_n 0, 1) := sorry
theorem dX1_readTerm_114 : decode cX1_readTerm 114 = .ok (.invokevirtual 75, 3) := sorry
theorem dX1_readTerm_117 : decode cX1_readTerm 117 = .ok (.aload_n 0, 1) := sorry
def dtX1_readTerm_118_2 : List (Nat × Instr × Nat) := [(118, .iconst 4, 1), (119, .invokevirtual 67, 3), (122, .ifCond .ne 5, 3), (125, .iconst 1, 1), (126, .ireturn, 1), (127, .aload_n 0, 1), (128, .getfield 29, 3), (131, .iload 4, 2), (133, .iload 5, 2), (135, .bipush 43, 2), (137, .if_icmp .ne 18, 3), (140, .aload_n 0, 1), (141, .getfield 12, 3), (144, .getfield 71, 3), (147, .aload_n 0, 1), (148, .getfield 44, 3), (151, .iaload, 1), (152, .goto 16, 3), (155, .aload_n 0, 1), (156, .getfield 12, 3), (159, .getfield 71, 3), (162, .aload_n 0, 1), (163, .getfield 44, 3), (166, .iaload, 1), (167, .ineg, 1), (168, .invokevirtual 186, 3), (171, .aload_n 0, 1), (172, .invokevirtual 75, 3), (175, .iconst 0, 1), (176, .ireturn, 1)]
theorem dtX1_readTerm_118_2_ok : dcAll cX1_readTerm dtX1_readTerm_118_2 = true := sorry
theorem dX1_readTerm_118 : decode cX1_readTerm 118 = .ok (.iconst 4, 1) := sorry
theorem dX1_readTerm_119 : decode cX1_readTerm 119 = .ok (.invokevirtual 67, 3) := sorry
theorem dX1_readTerm_122 : decode cX1_readTerm 122 = .ok (.ifCond .ne 5, 3) := sorry
theorem dX1_readTerm_125 : decode cX1_readTerm 125 = .ok (.iconst 1, 1) := sorry
theorem dX1_readTerm_126 : decode cX1_readTerm 126 = .ok (.ireturn, 1) := sorry
theorem dX1_readTerm_127 : decode cX1_readTerm 127 = .ok (.aload_n 0, 1) := sorry
theorem dX1_readTerm_128 : decode cX1_readTerm 128 = .ok (.getfield 29, 3) := sorry
theorem dX1_readTerm_131 : decode cX1_readTerm 131 = .ok (.iload 4, 2) := sorry
theorem dX1_readTerm_133 : decode cX1_readTerm 133 = .ok (.iload 5, 2) := sorry
theorem dX1_readTerm_135 : decode cX1_readTerm 135 = .ok (.bipush 43, 2) := sorry
theorem dX1_readTerm_137 : decode cX1_readTerm 137 = .ok (.if_icmp .ne 18, 3) := sorry
theorem dX1_readTerm_140 : decode cX1_readTerm 140 = .ok (.aload_n 0, 1) := sorry
theorem dX1_readTerm_141 : decode cX1_readTerm 141 = .ok (.getfield 12, 3) := sorry
theorem dX1_readTerm_144 : decode cX1_readTerm 144 = .ok (.getfield 71, 3) := sorry
theorem dX1_readTerm_147 : decode cX1_readTerm 147 = .ok (.aload_n 0, 1) := sorry
theorem dX1_readTerm_148 : decode cX1_readTerm 148 = .ok (.getfield 44, 3) := sorry
theorem dX1_readTerm_151 : decode cX1_readTerm 151 = .ok (.iaload, 1) := sorry
theorem dX1_readTerm_152 : decode cX1_readTerm 152 = .ok (.goto 16, 3) := sorry
theorem dX1_readTerm_155 : decode cX1_readTerm 155 = .ok (.aload_n 0, 1) := sorry
theorem dX1_readTerm_156 : decode cX1_readTerm 156 = .ok (.getfield 12, 3) := sorry
theorem dX1_readTerm_159 : decode cX1_readTerm 159 = .ok (.getfield 71, 3) := sorry
theorem dX1_readTerm_162 : decode cX1_readTerm 162 = .ok (.aload_n 0, 1) := sorry
theorem dX1_readTerm_163 : decode cX1_readTerm 163 = .ok (.getfield 44, 3) := sorry
theorem dX1_readTerm_166 : decode cX1_readTerm 166 = .ok (.iaload, 1) := sorry
theorem dX1_readTerm_167 : decode cX1_readTerm 167 = .ok (.ineg, 1) := sorry
theorem dX1_readTerm_168 : decode cX1_readTerm 168 = .ok (.invokevirtual 186, 3) := sorry
theorem dX1_readTerm_171 : decode cX1_readTerm 171 = .ok (.aload_n 0, 1) := sorry
theorem dX1_readTerm_172 : decode cX1_readTerm 172 = .ok (.invokevirtual 75, 3) := sorry
theorem dX1_readTerm_175 : decode cX1_readTerm 175 = .ok (.iconst 0, 1) := sorry
theorem dX1_readTerm_176 : decode cX1_readTerm 176 = .ok (.ireturn, 1) := sorry
set_option maxRecDepth 20000 in
theorem ggX1_readJoin_X1_readFirst : GoodIn wsX1_readJoin wsX1_readFirst := sorry
set_option maxRecDepth 20000 in
theorem gX1_readJoin_X1_readFirst : GoodIn wsX1_readJoin (wsV RX1 161 RX1 yX1_readFirst wsX1_readFirst) := sorry
set_option maxRecDepth 20000 in
theorem ggX1_readJoin_X1_readSecond : GoodIn wsX1_readJoin wsX1_readSecond := sorry
set_option maxRecDepth 20000 in
theorem gX1_readJoin_X1_readSecond : GoodIn wsX1_readJoin (wsV RX1 190 RX1 yX1_readSecond wsX1_readSecond) := sorry
set_option maxRecDepth 20000 in
theorem ggX1_readJoin_X1_takeWord : GoodIn wsX1_readJoin wsX1_takeWord := sorry
set_option maxRecDepth 20000 in
theorem gX1_readJoin_X1_takeWord : GoodIn wsX1_readJoin (wsV RX1 164 RX1 yX1_takeWord wsX1_takeWord) := sorry
set_option maxRecDepth 20000 in
theorem ggX1_readJoin_X1_readPairs : GoodIn wsX1_readJoin wsX1_readPairs := sorry
set_option maxRecDepth 20000 in
theorem gX1_readJoin_X1_readPairs : GoodIn wsX1_readJoin (wsV RX1 193 RX1 yX1_readPairs wsX1_readPairs) := sorry
set_option maxRecDepth 20000 in
theorem ggX1_readJoin_X0_columnsOfJoin : GoodIn wsX1_readJoin wsX0_columnsOfJoin := sorry
set_option maxRecDepth 20000 in
theorem gX1_readJoin_X0_columnsOfJoin : GoodIn wsX1_readJoin (wsV RX1 196 RX0 yX0_columnsOfJoin wsX0_columnsOfJoin) := sorry
def dtX1_readJoin_0_0 : List (Nat × Instr × Nat) := [(0, .aload_n 0, 1), (1, .invokevirtual 161, 3), (4, .istore_n 1, 1), (5, .iload_n 1, 1), (6, .ifCond .ne 8, 3), (9, .aload_n 0, 1), (10, .invokevirtual 190, 3), (13, .istore_n 1, 1), (14, .iload_n 1, 1), (15, .ifCond .ne 10, 3), (18, .aload_n 0, 1), (19, .bipush 12, 2), (21, .invokevirtual 164, 3), (24, .istore_n 1, 1), (25, .iload_n 1, 1), (26, .ifCond .ne 8, 3), (29, .aload_n 0, 1), (30, .invokevirtual 193, 3), (33, .istore_n 1, 1), (34, .aload_n 0, 1), (35, .getfield 29, 3), (38, .aload_n 0, 1), (39, .getfield 29, 3), (42, .invokevirtual 196, 3), (45, .putfield 136, 3), (48, .iload_n 1, 1), (49, .ireturn, 1)]
theorem dtX1_readJoin_0_0_ok : dcAll cX1_readJoin dtX1_readJoin_0_0 = true := sorry
theorem dX1_readJoin_0 : decode cX1_readJoin 0 = .ok (.aload_n 0, 1) := sorry
theorem dX1_readJoin_1 : decode cX1_readJoin 1 = .ok (.invokevirtual 161, 3) := sorry
theorem dX1_readJoin_4 : decode cX1_readJoin 4 = .ok (.istore_n 1, 1) := sorry
theorem dX1_readJoin_5 : decode cX1_readJoin 5 = .ok (.iload_n 1, 1) := sorry
theorem dX1_readJoin_6 : decode cX1_readJoin 6 = .ok (.ifCond .ne 8, 3) := sorry
theorem dX1_readJoin_9 : decode cX1_readJoin 9 = .ok (.aload_n 0, 1) := sorry
theorem dX1_readJoin_10 : decode cX1_readJoin 10 = .ok (.invokevirtual 190, 3) := sorry
theorem dX1_readJoin_13 : decode cX1_readJoin 13 = .ok (.istore_n 1, 1) := sorry
theorem dX1_readJoin_14 : decode cX1_readJoin 14 = .ok (.iload_n 1, 1) := sorry
theorem dX1_readJoin_15 : decode cX1_readJoin 15 = .ok (.ifCond .ne 10, 3) := sorry
theorem dX1_readJoin_18 : decode cX1_readJoin 18 = .ok (.aload_n 0, 1) := sorry
theorem dX1_readJoin_19 : decode cX1_readJoin 19 = .ok (.bipush 12, 2) := sorry
theorem dX1_readJoin_21 : decode cX1_readJoin 21 = .ok (.invokevirtual 164, 3) := sorry
theorem dX1_readJoin_24 : decode cX1_readJoin 24 = .ok (.istore_n 1, 1) := sorry
theorem dX1_readJoin_25 : decode cX1_readJoin 25 = .ok (.iload_n 1, 1) := sorry
theorem dX1_readJoin_26 : decode cX1_readJoin 26 = .ok (.ifCond .ne 8, 3) := sorry
theorem dX1_readJoin_29 : decode cX1_readJoin 29 = .ok (.aload_n 0, 1) := sorry
theorem dX1_readJoin_30 : decode cX1_readJoin 30 = .ok (.invokevirtual 193, 3) := sorry
theorem dX1_readJoin_33 : decode cX1_readJoin 33 = .ok (.istore_n 1, 1) := sorry
theorem dX1_readJoin_34 : decode cX1_readJoin 34 = .ok (.aload_n 0, 1) := sorry
theorem dX1_readJoin_35 : decode cX1_readJoin 35 = .ok (.getfield 29, 3) := sorry
theorem dX1_readJoin_38 : decode cX1_readJoin 38 = .ok (.aload_n 0, 1) := sorry
theorem dX1_readJoin_39 : decode cX1_readJoin 39 = .ok (.getfield 29, 3) := sorry
theorem dX1_readJoin_42 : decode cX1_readJoin 42 = .ok (.invokevirtual 196, 3) := sorry
theorem dX1_readJoin_45 : decode cX1_readJoin 45 = .ok (.putfield 136, 3) := sorry
theorem dX1_readJoin_48 : decode cX1_readJoin 48 = .ok (.iload_n 1, 1) := sorry
theorem dX1_readJoin_49 : decode cX1_readJoin 49 = .ok (.ireturn, 1) := sorry
set_option maxRecDepth 20000 in
theorem ggX1_readPairs_X1_readPair : GoodIn wsX1_readPairs wsX1_readPair := sorry
set_option maxRecDepth 20000 in
theorem gX1_readPairs_X1_readPair : GoodIn wsX1_readPairs (wsV RX1 199 RX1 yX1_readPair wsX1_readPair) := sorry
set_option maxRecDepth 20000 in
theorem ggX1_readPairs_X0_addTwo : GoodIn wsX1_readPairs wsX0_addTwo := sorry
set_option maxRecDepth 20000 in
theorem gX1_readPairs_X0_addTwo : GoodIn wsX1_readPairs (wsV RX1 186 RX0 yX0_addTwo wsX0_addTwo) := sorry
set_option maxRecDepth 20000 in
theorem ggX1_readPairs_X1_isKind : GoodIn wsX1_readPairs wsX1_isKind := sorry
set_option maxRecDepth 20000 in
theorem gX1_readPairs_X1_isKind : GoodIn wsX1_readPairs (wsV RX1 67 RX1 yX1_isKind wsX1_isKind) := sorry
set_option maxRecDepth 20000 in
theorem ggX1_readPairs_X1_step : GoodIn wsX1_readPairs wsX1_step := sorry
set_option maxRecDepth 20000 in
theorem gX1_readPairs_X1_step : GoodIn wsX1_readPairs (wsV RX1 75 RX1 yX1_step wsX1_step) := sorry
def dtX1_readPairs_0_0 : List (Nat × Instr × Nat) := [(0, .iconst 0, 1), (1, .istore_n 1, 1), (2, .iload_n 1, 1), (3, .iconst 4, 1), (4, .if_icmp .gt 57, 3), (7, .aload_n 0, 1), (8, .iconst 4, 1), (9, .invokevirtual 199, 3), (12, .istore_n 2, 1), (13, .iload_n 2, 1), (14, .ifCond .eq 5, 3), (17, .iload_n 2, 1), (18, .ireturn, 1), (19, .aload_n 0, 1), (20, .getfield 29, 3), (23, .aload_n 0, 1), (24, .getfield 29, 3), (27, .getfield 202, 3), (30, .aload_n 0, 1), (31, .getfield 29, 3), (34, .getfield 205, 3), (37, .invokevirtual 186, 3), (40, .aload_n 0, 1), (41, .bipush 44, 2), (43, .invokevirtual 67, 3), (46, .ifCond .ne 5, 3), (49, .iconst 0, 1), (50, .ireturn, 1), (51, .aload_n 0, 1), (52, .invokevirtual 75, 3), (55, .iinc 1 1, 3), (58, .goto (-56), 3)]
theorem dtX1_readPairs_0_0_ok : dcAll cX1_readPairs dtX1_readPairs_0_0 = true := sorry
theorem dX1_readPairs_0 : decode cX1_readPairs 0 = .ok (.iconst 0, 1) := sorry
theorem dX1_readPairs_1 : decode cX1_readPairs 1 = .ok (.istore_n 1, 1) := sorry
theorem dX1_readPairs_2 : decode cX1_readPairs 2 = .ok (.iload_n 1, 1) := sorry
theorem dX1_readPairs_3 : decode cX1_readPairs 3 = .ok (.iconst 4, 1) := sorry
theorem dX1_readPairs_4 : decode cX1_readPairs 4 = .ok (.if_icmp .gt 57, 3) := sorry
theorem dX1_readPairs_7 : decode cX1_readPairs 7 = .ok (.aload_n 0, 1) := sorry
theorem dX1_readPairs_8 : decode cX1_readPairs 8 = .ok (.iconst 4, 1) := sorry
theorem dX1_readPairs_9 : decode cX1_readPairs 9 = .ok (.invokevirtual 199, 3) := sorry
theorem dX1_readPairs_12 : decode cX1_readPairs 12 = .ok (.istore_n 2, 1) := sorry
theorem dX1_readPairs_13 : decode cX1_readPairs 13 = .ok (.iload_n 2, 1) := sorry
theorem dX1_readPairs_14 : decode cX1_readPairs 14 = .ok (.ifCond .eq 5, 3) := sorry
theorem dX1_readPairs_17 : decode cX1_readPairs 17 = .ok (.iload_n 2, 1) := sorry
theorem dX1_readPairs_18 : decode cX1_readPairs 18 = .ok (.ireturn, 1) := sorry
theorem dX1_readPairs_19 : decode cX1_readPairs 19 = .ok (.aload_n 0, 1) := sorry
theorem dX1_readPairs_20 : decode cX1_readPairs 20 = .ok (.getfield 29, 3) := sorry
theorem dX1_readPairs_23 : decode cX1_readPairs 23 = .ok (.aload_n 0, 1) := sorry
theorem dX1_readPairs_24 : decode cX1_readPairs 24 = .ok (.getfield 29, 3) := sorry
theorem dX1_readPairs_27 : decode cX1_readPairs 27 = .ok (.getfield 202, 3) := sorry
theorem dX1_readPairs_30 : decode cX1_readPairs 30 = .ok (.aload_n 0, 1) := sorry
theorem dX1_readPairs_31 : decode cX1_readPairs 31 = .ok (.getfield 29, 3) := sorry
theorem dX1_readPairs_34 : decode cX1_readPairs 34 = .ok (.getfield 205, 3) := sorry
theorem dX1_readPairs_37 : decode cX1_readPairs 37 = .ok (.invokevirtual 186, 3) := sorry
theorem dX1_readPairs_40 : decode cX1_readPairs 40 = .ok (.aload_n 0, 1) := sorry
theorem dX1_readPairs_41 : decode cX1_readPairs 41 = .ok (.bipush 44, 2) := sorry
theorem dX1_readPairs_43 : decode cX1_readPairs 43 = .ok (.invokevirtual 67, 3) := sorry
theorem dX1_readPairs_46 : decode cX1_readPairs 46 = .ok (.ifCond .ne 5, 3) := sorry
theorem dX1_readPairs_49 : decode cX1_readPairs 49 = .ok (.iconst 0, 1) := sorry
theorem dX1_readPairs_50 : decode cX1_readPairs 50 = .ok (.ireturn, 1) := sorry
theorem dX1_readPairs_51 : decode cX1_readPairs 51 = .ok (.aload_n 0, 1) := sorry
theorem dX1_readPairs_52 : decode cX1_readPairs 52 = .ok (.invokevirtual 75, 3) := sorry
theorem dX1_readPairs_55 : decode cX1_readPairs 55 = .ok (.iinc 1 1, 3) := sorry
theorem dX1_readPairs_58 : decode cX1_readPairs 58 = .ok (.goto (-56), 3) := sorry
def dtX1_readPairs_61_1 : List (Nat × Instr × Nat) := [(61, .iconst 4, 1), (62, .ireturn, 1)]
theorem dtX1_readPairs_61_1_ok : dcAll cX1_readPairs dtX1_readPairs_61_1 = true := sorry
theorem dX1_readPairs_61 : decode cX1_readPairs 61 = .ok (.iconst 4, 1) := sorry
theorem dX1_readPairs_62 : decode cX1_readPairs 62 = .ok (.ireturn, 1) := sorry
set_option maxRecDepth 20000 in
theorem ggX1_readPair_X1_seeColumn : GoodIn wsX1_readPair wsX1_seeColumn := sorry
set_option maxRecDepth 20000 in
theorem gX1_readPair_X1_seeColumn : GoodIn wsX1_readPair (wsV RX1 173 RX1 yX1_seeColumn wsX1_seeColumn) := sorry
set_option maxRecDepth 20000 in
theorem ggX1_readPair_X1_step : GoodIn wsX1_readPair wsX1_step := sorry
set_option maxRecDepth 20000 in
theorem gX1_readPair_X1_step : GoodIn wsX1_readPair (wsV RX1 75 RX1 yX1_step wsX1_step) := sorry
set_option maxRecDepth 20000 in
theorem ggX1_readPair_X1_takeKind : GoodIn wsX1_readPair wsX1_takeKind := sorry
set_option maxRecDepth 20000 in
theorem gX1_readPair_X1_takeKind : GoodIn wsX1_readPair (wsV RX1 105 RX1 yX1_takeKind wsX1_takeKind) := sorry
def dtX1_readPair_0_0 : List (Nat × Instr × Nat) := [(0, .aload_n 0, 1), (1, .aload_n 0, 1), (2, .getfield 29, 3), (5, .getfield 143, 3), (8, .invokevirtual 173, 3), (11, .istore_n 2, 1), (12, .iload_n 2, 1), (13, .ifCond .eq 5, 3), (16, .iload_n 2, 1), (17, .ireturn, 1), (18, .aload_n 0, 1), (19, .getfield 29, 3), (22, .getfield 149, 3), (25, .iload_n 1, 1), (26, .if_icmp .lt 5, 3), (29, .iconst 4, 1), (30, .ireturn, 1), (31, .aload_n 0, 1), (32, .getfield 29, 3), (35, .aload_n 0, 1), (36, .getfield 12, 3), (39, .getfield 71, 3), (42, .aload_n 0, 1), (43, .getfield 44, 3), (46, .iaload, 1), (47, .putfield 202, 3), (50, .aload_n 0, 1), (51, .invokevirtual 75, 3), (54, .aload_n 0, 1), (55, .bipush 61, 2), (57, .invokevirtual 105, 3), (60, .istore_n 2, 1)]
theorem dtX1_readPair_0_0_ok : dcAll cX1_readPair dtX1_readPair_0_0 = true := sorry
theorem dX1_readPair_0 : decode cX1_readPair 0 = .ok (.aload_n 0, 1) := sorry
theorem dX1_readPair_1 : decode cX1_readPair 1 = .ok (.aload_n 0, 1) := sorry
theorem dX1_readPair_2 : decode cX1_readPair 2 = .ok (.getfield 29, 3) := sorry
theorem dX1_readPair_5 : decode cX1_readPair 5 = .ok (.getfield 143, 3) := sorry
theorem dX1_readPair_8 : decode cX1_readPair 8 = .ok (.invokevirtual 173, 3) := sorry
theorem dX1_readPair_11 : decode cX1_readPair 11 = .ok (.istore_n 2, 1) := sorry
theorem dX1_readPair_12 : decode cX1_readPair 12 = .ok (.iload_n 2, 1) := sorry
theorem dX1_readPair_13 : decode cX1_readPair 13 = .ok (.ifCond .eq 5, 3) := sorry
theorem dX1_readPair_16 : decode cX1_readPair 16 = .ok (.iload_n 2, 1) := sorry
theorem dX1_readPair_17 : decode cX1_readPair 17 = .ok (.ireturn, 1) := sorry
theorem dX1_readPair_18 : decode cX1_readPair 18 = .ok (.aload_n 0, 1) := sorry
theorem dX1_readPair_19 : decode cX1_readPair 19 = .ok (.getfield 29, 3) := sorry
theorem dX1_readPair_22 : decode cX1_readPair 22 = .ok (.getfield 149, 3) := sorry
theorem dX1_readPair_25 : decode cX1_readPair 25 = .ok (.iload_n 1, 1) := sorry
theorem dX1_readPair_26 : decode cX1_readPair 26 = .ok (.if_icmp .lt 5, 3) := sorry
theorem dX1_readPair_29 : decode cX1_readPair 29 = .ok (.iconst 4, 1) := sorry
theorem dX1_readPair_30 : decode cX1_readPair 30 = .ok (.ireturn, 1) := sorry
theorem dX1_readPair_31 : decode cX1_readPair 31 = .ok (.aload_n 0, 1) := sorry
theorem dX1_readPair_32 : decode cX1_readPair 32 = .ok (.getfield 29, 3) := sorry
theorem dX1_readPair_35 : decode cX1_readPair 35 = .ok (.aload_n 0, 1) := sorry
theorem dX1_readPair_36 : decode cX1_readPair 36 = .ok (.getfield 12, 3) := sorry
theorem dX1_readPair_39 : decode cX1_readPair 39 = .ok (.getfield 71, 3) := sorry
theorem dX1_readPair_42 : decode cX1_readPair 42 = .ok (.aload_n 0, 1) := sorry
theorem dX1_readPair_43 : decode cX1_readPair 43 = .ok (.getfield 44, 3) := sorry
theorem dX1_readPair_46 : decode cX1_readPair 46 = .ok (.iaload, 1) := sorry
theorem dX1_readPair_47 : decode cX1_readPair 47 = .ok (.putfield 202, 3) := sorry
theorem dX1_readPair_50 : decode cX1_readPair 50 = .ok (.aload_n 0, 1) := sorry
theorem dX1_readPair_51 : decode cX1_readPair 51 = .ok (.invokevirtual 75, 3) := sorry
theorem dX1_readPair_54 : decode cX1_readPair 54 = .ok (.aload_n 0, 1) := sorry
theorem dX1_readPair_55 : decode cX1_readPair 55 = .ok (.bipush 61, 2) := sorry
theorem dX1_readPair_57 : decode cX1_readPair 57 = .ok (.invokevirtual 105, 3) := sorry
theorem dX1_readPair_60 : decode cX1_readPair 60 = .ok (.istore_n 2, 1) := sorry
def dtX1_readPair_61_1 : List (Nat × Instr × Nat) := [(61, .iload_n 2, 1), (62, .ifCond .ne 15, 3), (65, .aload_n 0, 1), (66, .aload_n 0, 1), (67, .getfield 29, 3), (70, .getfield 146, 3), (73, .invokevirtual 173, 3), (76, .istore_n 2, 1), (77, .iload_n 2, 1), (78, .ifCond .ne 26, 3), (81, .aload_n 0, 1), (82, .getfield 29, 3), (85, .aload_n 0, 1), (86, .getfield 12, 3), (89, .getfield 71, 3), (92, .aload_n 0, 1), (93, .getfield 44, 3), (96, .iaload, 1), (97, .putfield 205, 3), (100, .aload_n 0, 1), (101, .invokevirtual 75, 3), (104, .iload_n 2, 1), (105, .ireturn, 1)]
theorem dtX1_readPair_61_1_ok : dcAll cX1_readPair dtX1_readPair_61_1 = true := sorry
theorem dX1_readPair_61 : decode cX1_readPair 61 = .ok (.iload_n 2, 1) := sorry
theorem dX1_readPair_62 : decode cX1_readPair 62 = .ok (.ifCond .ne 15, 3) := sorry
theorem dX1_readPair_65 : decode cX1_readPair 65 = .ok (.aload_n 0, 1) := sorry
theorem dX1_readPair_66 : decode cX1_readPair 66 = .ok (.aload_n 0, 1) := sorry
theorem dX1_readPair_67 : decode cX1_readPair 67 = .ok (.getfield 29, 3) := sorry
theorem dX1_readPair_70 : decode cX1_readPair 70 = .ok (.getfield 146, 3) := sorry
theorem dX1_readPair_73 : decode cX1_readPair 73 = .ok (.invokevirtual 173, 3) := sorry
theorem dX1_readPair_76 : decode cX1_readPair 76 = .ok (.istore_n 2, 1) := sorry
theorem dX1_readPair_77 : decode cX1_readPair 77 = .ok (.iload_n 2, 1) := sorry
theorem dX1_readPair_78 : decode cX1_readPair 78 = .ok (.ifCond .ne 26, 3) := sorry
theorem dX1_readPair_81 : decode cX1_readPair 81 = .ok (.aload_n 0, 1) := sorry
theorem dX1_readPair_82 : decode cX1_readPair 82 = .ok (.getfield 29, 3) := sorry
theorem dX1_readPair_85 : decode cX1_readPair 85 = .ok (.aload_n 0, 1) := sorry
theorem dX1_readPair_86 : decode cX1_readPair 86 = .ok (.getfield 12, 3) := sorry
theorem dX1_readPair_89 : decode cX1_readPair 89 = .ok (.getfield 71, 3) := sorry
theorem dX1_readPair_92 : decode cX1_readPair 92 = .ok (.aload_n 0, 1) := sorry
theorem dX1_readPair_93 : decode cX1_readPair 93 = .ok (.getfield 44, 3) := sorry
theorem dX1_readPair_96 : decode cX1_readPair 96 = .ok (.iaload, 1) := sorry
theorem dX1_readPair_97 : decode cX1_readPair 97 = .ok (.putfield 205, 3) := sorry
theorem dX1_readPair_100 : decode cX1_readPair 100 = .ok (.aload_n 0, 1) := sorry
theorem dX1_readPair_101 : decode cX1_readPair 101 = .ok (.invokevirtual 75, 3) := sorry
theorem dX1_readPair_104 : decode cX1_readPair 104 = .ok (.iload_n 2, 1) := sorry
theorem dX1_readPair_105 : decode cX1_readPair 105 = .ok (.ireturn, 1) := sorry
set_option maxRecDepth 20000 in
theorem ggX1_readTwoAlike_X1_readFirst : GoodIn wsX1_readTwoAlike wsX1_readFirst := sorry
set_option maxRecDepth 20000 in
theorem gX1_readTwoAlike_X1_readFirst : GoodIn wsX1_readTwoAlike (wsV RX1 161 RX1 yX1_readFirst wsX1_readFirst) := sorry
set_option maxRecDepth 20000 in
theorem ggX1_readTwoAlike_X1_seeRelation : GoodIn wsX1_readTwoAlike wsX1_seeRelation := sorry
set_option maxRecDepth 20000 in
theorem gX1_readTwoAlike_X1_seeRelation : GoodIn wsX1_readTwoAlike (wsV RX1 152 RX1 yX1_seeRelation wsX1_seeRelation) := sorry
set_option maxRecDepth 20000 in
theorem ggX1_readTwoAlike_X2_relationOf : GoodIn wsX1_readTwoAlike wsX2_relationOf := sorry
set_option maxRecDepth 20000 in
theorem gX1_readTwoAlike_X2_relationOf : GoodIn wsX1_readTwoAlike (wsV RX1 97 RX2 yX2_relationOf wsX2_relationOf) := sorry
set_option maxRecDepth 20000 in
theorem ggX1_readTwoAlike_X1_readSecond : GoodIn wsX1_readTwoAlike wsX1_readSecond := sorry
set_option maxRecDepth 20000 in
theorem gX1_readTwoAlike_X1_readSecond : GoodIn wsX1_readTwoAlike (wsV RX1 190 RX1 yX1_readSecond wsX1_readSecond) := sorry
def dtX1_readTwoAlike_0_0 : List (Nat × Instr × Nat) := [(0, .aload_n 0, 1), (1, .invokevirtual 161, 3), (4, .istore_n 1, 1), (5, .iload_n 1, 1), (6, .ifCond .ne 8, 3), (9, .aload_n 0, 1), (10, .invokevirtual 152, 3), (13, .istore_n 1, 1), (14, .iload_n 1, 1), (15, .ifCond .eq 5, 3), (18, .iload_n 1, 1), (19, .ireturn, 1), (20, .aload_n 0, 1), (21, .getfield 21, 3), (24, .aload_n 0, 1), (25, .getfield 12, 3), (28, .getfield 93, 3), (31, .aload_n 0, 1), (32, .getfield 44, 3), (35, .laload, 1), (36, .invokevirtual 97, 3), (39, .istore_n 2, 1), (40, .aload_n 0, 1), (41, .getfield 21, 3), (44, .getfield 25, 3), (47, .iload_n 2, 1), (48, .aaload, 1), (49, .getfield 136, 3), (52, .aload_n 0, 1), (53, .getfield 29, 3), (56, .getfield 143, 3), (59, .if_icmp .eq 5, 3)]
theorem dtX1_readTwoAlike_0_0_ok : dcAll cX1_readTwoAlike dtX1_readTwoAlike_0_0 = true := sorry
theorem dX1_readTwoAlike_0 : decode cX1_readTwoAlike 0 = .ok (.aload_n 0, 1) := sorry
theorem dX1_readTwoAlike_1 : decode cX1_readTwoAlike 1 = .ok (.invokevirtual 161, 3) := sorry
theorem dX1_readTwoAlike_4 : decode cX1_readTwoAlike 4 = .ok (.istore_n 1, 1) := sorry
theorem dX1_readTwoAlike_5 : decode cX1_readTwoAlike 5 = .ok (.iload_n 1, 1) := sorry
theorem dX1_readTwoAlike_6 : decode cX1_readTwoAlike 6 = .ok (.ifCond .ne 8, 3) := sorry
theorem dX1_readTwoAlike_9 : decode cX1_readTwoAlike 9 = .ok (.aload_n 0, 1) := sorry
theorem dX1_readTwoAlike_10 : decode cX1_readTwoAlike 10 = .ok (.invokevirtual 152, 3) := sorry
theorem dX1_readTwoAlike_13 : decode cX1_readTwoAlike 13 = .ok (.istore_n 1, 1) := sorry
theorem dX1_readTwoAlike_14 : decode cX1_readTwoAlike 14 = .ok (.iload_n 1, 1) := sorry
theorem dX1_readTwoAlike_15 : decode cX1_readTwoAlike 15 = .ok (.ifCond .eq 5, 3) := sorry
theorem dX1_readTwoAlike_18 : decode cX1_readTwoAlike 18 = .ok (.iload_n 1, 1) := sorry
theorem dX1_readTwoAlike_19 : decode cX1_readTwoAlike 19 = .ok (.ireturn, 1) := sorry
theorem dX1_readTwoAlike_20 : decode cX1_readTwoAlike 20 = .ok (.aload_n 0, 1) := sorry
theorem dX1_readTwoAlike_21 : decode cX1_readTwoAlike 21 = .ok (.getfield 21, 3) := sorry
theorem dX1_readTwoAlike_24 : decode cX1_readTwoAlike 24 = .ok (.aload_n 0, 1) := sorry
theorem dX1_readTwoAlike_25 : decode cX1_readTwoAlike 25 = .ok (.getfield 12, 3) := sorry
theorem dX1_readTwoAlike_28 : decode cX1_readTwoAlike 28 = .ok (.getfield 93, 3) := sorry
theorem dX1_readTwoAlike_31 : decode cX1_readTwoAlike 31 = .ok (.aload_n 0, 1) := sorry
theorem dX1_readTwoAlike_32 : decode cX1_readTwoAlike 32 = .ok (.getfield 44, 3) := sorry
theorem dX1_readTwoAlike_35 : decode cX1_readTwoAlike 35 = .ok (.laload, 1) := sorry
theorem dX1_readTwoAlike_36 : decode cX1_readTwoAlike 36 = .ok (.invokevirtual 97, 3) := sorry
theorem dX1_readTwoAlike_39 : decode cX1_readTwoAlike 39 = .ok (.istore_n 2, 1) := sorry
theorem dX1_readTwoAlike_40 : decode cX1_readTwoAlike 40 = .ok (.aload_n 0, 1) := sorry
theorem dX1_readTwoAlike_41 : decode cX1_readTwoAlike 41 = .ok (.getfield 21, 3) := sorry
theorem dX1_readTwoAlike_44 : decode cX1_readTwoAlike 44 = .ok (.getfield 25, 3) := sorry
theorem dX1_readTwoAlike_47 : decode cX1_readTwoAlike 47 = .ok (.iload_n 2, 1) := sorry
theorem dX1_readTwoAlike_48 : decode cX1_readTwoAlike 48 = .ok (.aaload, 1) := sorry
theorem dX1_readTwoAlike_49 : decode cX1_readTwoAlike 49 = .ok (.getfield 136, 3) := sorry
theorem dX1_readTwoAlike_52 : decode cX1_readTwoAlike 52 = .ok (.aload_n 0, 1) := sorry
theorem dX1_readTwoAlike_53 : decode cX1_readTwoAlike 53 = .ok (.getfield 29, 3) := sorry
theorem dX1_readTwoAlike_56 : decode cX1_readTwoAlike 56 = .ok (.getfield 143, 3) := sorry
theorem dX1_readTwoAlike_59 : decode cX1_readTwoAlike 59 = .ok (.if_icmp .eq 5, 3) := sorry
def dtX1_readTwoAlike_62_1 : List (Nat × Instr × Nat) := [(62, .iconst 5, 1), (63, .ireturn, 1), (64, .aload_n 0, 1), (65, .getfield 29, 3), (68, .aload_n 0, 1), (69, .getfield 29, 3), (72, .getfield 143, 3), (75, .putfield 136, 3), (78, .aload_n 0, 1), (79, .invokevirtual 190, 3), (82, .ireturn, 1)]
theorem dtX1_readTwoAlike_62_1_ok : dcAll cX1_readTwoAlike dtX1_readTwoAlike_62_1 = true := sorry
theorem dX1_readTwoAlike_62 : decode cX1_readTwoAlike 62 = .ok (.iconst 5, 1) := sorry
theorem dX1_readTwoAlike_63 : decode cX1_readTwoAlike 63 = .ok (.ireturn, 1) := sorry
theorem dX1_readTwoAlike_64 : decode cX1_readTwoAlike 64 = .ok (.aload_n 0, 1) := sorry
theorem dX1_readTwoAlike_65 : decode cX1_readTwoAlike 65 = .ok (.getfield 29, 3) := sorry
theorem dX1_readTwoAlike_68 : decode cX1_readTwoAlike 68 = .ok (.aload_n 0, 1) := sorry
theorem dX1_readTwoAlike_69 : decode cX1_readTwoAlike 69 = .ok (.getfield 29, 3) := sorry
theorem dX1_readTwoAlike_72 : decode cX1_readTwoAlike 72 = .ok (.getfield 143, 3) := sorry
theorem dX1_readTwoAlike_75 : decode cX1_readTwoAlike 75 = .ok (.putfield 136, 3) := sorry
theorem dX1_readTwoAlike_78 : decode cX1_readTwoAlike 78 = .ok (.aload_n 0, 1) := sorry
theorem dX1_readTwoAlike_79 : decode cX1_readTwoAlike 79 = .ok (.invokevirtual 190, 3) := sorry
theorem dX1_readTwoAlike_82 : decode cX1_readTwoAlike 82 = .ok (.ireturn, 1) := sorry
set_option maxRecDepth 20000 in
theorem ggX1_readDistinct_X1_readFirst : GoodIn wsX1_readDistinct wsX1_readFirst := sorry
set_option maxRecDepth 20000 in
theorem gX1_readDistinct_X1_readFirst : GoodIn wsX1_readDistinct (wsV RX1 161 RX1 yX1_readFirst wsX1_readFirst) := sorry
def dtX1_readDistinct_0_0 : List (Nat × Instr × Nat) := [(0, .aload_n 0, 1), (1, .invokevirtual 161, 3), (4, .istore_n 1, 1), (5, .aload_n 0, 1), (6, .getfield 29, 3), (9, .aload_n 0, 1), (10, .getfield 29, 3), (13, .getfield 143, 3), (16, .putfield 136, 3), (19, .iload_n 1, 1), (20, .ireturn, 1)]
theorem dtX1_readDistinct_0_0_ok : dcAll cX1_readDistinct dtX1_readDistinct_0_0 = true := sorry
theorem dX1_readDistinct_0 : decode cX1_readDistinct 0 = .ok (.aload_n 0, 1) := sorry
theorem dX1_readDistinct_1 : decode cX1_readDistinct 1 = .ok (.invokevirtual 161, 3) := sorry
theorem dX1_readDistinct_4 : decode cX1_readDistinct 4 = .ok (.istore_n 1, 1) := sorry
theorem dX1_readDistinct_5 : decode cX1_readDistinct 5 = .ok (.aload_n 0, 1) := sorry
theorem dX1_readDistinct_6 : decode cX1_readDistinct 6 = .ok (.getfield 29, 3) := sorry
theorem dX1_readDistinct_9 : decode cX1_readDistinct 9 = .ok (.aload_n 0, 1) := sorry
theorem dX1_readDistinct_10 : decode cX1_readDistinct 10 = .ok (.getfield 29, 3) := sorry
theorem dX1_readDistinct_13 : decode cX1_readDistinct 13 = .ok (.getfield 143, 3) := sorry
theorem dX1_readDistinct_16 : decode cX1_readDistinct 16 = .ok (.putfield 136, 3) := sorry
theorem dX1_readDistinct_19 : decode cX1_readDistinct 19 = .ok (.iload_n 1, 1) := sorry
theorem dX1_readDistinct_20 : decode cX1_readDistinct 20 = .ok (.ireturn, 1) := sorry
set_option maxRecDepth 20000 in
theorem ggX1_readGroup_X1_readFirst : GoodIn wsX1_readGroup wsX1_readFirst := sorry
set_option maxRecDepth 20000 in
theorem gX1_readGroup_X1_readFirst : GoodIn wsX1_readGroup (wsV RX1 161 RX1 yX1_readFirst wsX1_readFirst) := sorry
set_option maxRecDepth 20000 in
theorem ggX1_readGroup_X1_takeWord : GoodIn wsX1_readGroup wsX1_takeWord := sorry
set_option maxRecDepth 20000 in
theorem gX1_readGroup_X1_takeWord : GoodIn wsX1_readGroup (wsV RX1 164 RX1 yX1_takeWord wsX1_takeWord) := sorry
set_option maxRecDepth 20000 in
theorem ggX1_readGroup_X1_readByColumns : GoodIn wsX1_readGroup wsX1_readByColumns := sorry
set_option maxRecDepth 20000 in
theorem gX1_readGroup_X1_readByColumns : GoodIn wsX1_readGroup (wsV RX1 208 RX1 yX1_readByColumns wsX1_readByColumns) := sorry
set_option maxRecDepth 20000 in
theorem ggX1_readGroup_X1_readFold : GoodIn wsX1_readGroup wsX1_readFold := sorry
set_option maxRecDepth 20000 in
theorem gX1_readGroup_X1_readFold : GoodIn wsX1_readGroup (wsV RX1 211 RX1 yX1_readFold wsX1_readFold) := sorry
def dtX1_readGroup_0_0 : List (Nat × Instr × Nat) := [(0, .aload_n 0, 1), (1, .invokevirtual 161, 3), (4, .istore_n 1, 1), (5, .iload_n 1, 1), (6, .ifCond .ne 10, 3), (9, .aload_n 0, 1), (10, .bipush 13, 2), (12, .invokevirtual 164, 3), (15, .istore_n 1, 1), (16, .iload_n 1, 1), (17, .ifCond .ne 8, 3), (20, .aload_n 0, 1), (21, .invokevirtual 208, 3), (24, .istore_n 1, 1), (25, .iload_n 1, 1), (26, .ifCond .ne 8, 3), (29, .aload_n 0, 1), (30, .invokevirtual 211, 3), (33, .istore_n 1, 1), (34, .aload_n 0, 1), (35, .getfield 29, 3), (38, .aload_n 0, 1), (39, .getfield 29, 3), (42, .getfield 149, 3), (45, .iconst 1, 1), (46, .iadd, 1), (47, .putfield 136, 3), (50, .iload_n 1, 1), (51, .ireturn, 1)]
theorem dtX1_readGroup_0_0_ok : dcAll cX1_readGroup dtX1_readGroup_0_0 = true := sorry
theorem dX1_readGroup_0 : decode cX1_readGroup 0 = .ok (.aload_n 0, 1) := sorry
theorem dX1_readGroup_1 : decode cX1_readGroup 1 = .ok (.invokevirtual 161, 3) := sorry
theorem dX1_readGroup_4 : decode cX1_readGroup 4 = .ok (.istore_n 1, 1) := sorry
theorem dX1_readGroup_5 : decode cX1_readGroup 5 = .ok (.iload_n 1, 1) := sorry
theorem dX1_readGroup_6 : decode cX1_readGroup 6 = .ok (.ifCond .ne 10, 3) := sorry
theorem dX1_readGroup_9 : decode cX1_readGroup 9 = .ok (.aload_n 0, 1) := sorry
theorem dX1_readGroup_10 : decode cX1_readGroup 10 = .ok (.bipush 13, 2) := sorry
theorem dX1_readGroup_12 : decode cX1_readGroup 12 = .ok (.invokevirtual 164, 3) := sorry
theorem dX1_readGroup_15 : decode cX1_readGroup 15 = .ok (.istore_n 1, 1) := sorry
theorem dX1_readGroup_16 : decode cX1_readGroup 16 = .ok (.iload_n 1, 1) := sorry
theorem dX1_readGroup_17 : decode cX1_readGroup 17 = .ok (.ifCond .ne 8, 3) := sorry
theorem dX1_readGroup_20 : decode cX1_readGroup 20 = .ok (.aload_n 0, 1) := sorry
theorem dX1_readGroup_21 : decode cX1_readGroup 21 = .ok (.invokevirtual 208, 3) := sorry
theorem dX1_readGroup_24 : decode cX1_readGroup 24 = .ok (.istore_n 1, 1) := sorry
theorem dX1_readGroup_25 : decode cX1_readGroup 25 = .ok (.iload_n 1, 1) := sorry
theorem dX1_readGroup_26 : decode cX1_readGroup 26 = .ok (.ifCond .ne 8, 3) := sorry
theorem dX1_readGroup_29 : decode cX1_readGroup 29 = .ok (.aload_n 0, 1) := sorry
theorem dX1_readGroup_30 : decode cX1_readGroup 30 = .ok (.invokevirtual 211, 3) := sorry
theorem dX1_readGroup_33 : decode cX1_readGroup 33 = .ok (.istore_n 1, 1) := sorry
theorem dX1_readGroup_34 : decode cX1_readGroup 34 = .ok (.aload_n 0, 1) := sorry
theorem dX1_readGroup_35 : decode cX1_readGroup 35 = .ok (.getfield 29, 3) := sorry
theorem dX1_readGroup_38 : decode cX1_readGroup 38 = .ok (.aload_n 0, 1) := sorry
theorem dX1_readGroup_39 : decode cX1_readGroup 39 = .ok (.getfield 29, 3) := sorry
theorem dX1_readGroup_42 : decode cX1_readGroup 42 = .ok (.getfield 149, 3) := sorry
theorem dX1_readGroup_45 : decode cX1_readGroup 45 = .ok (.iconst 1, 1) := sorry
theorem dX1_readGroup_46 : decode cX1_readGroup 46 = .ok (.iadd, 1) := sorry
theorem dX1_readGroup_47 : decode cX1_readGroup 47 = .ok (.putfield 136, 3) := sorry
theorem dX1_readGroup_50 : decode cX1_readGroup 50 = .ok (.iload_n 1, 1) := sorry
theorem dX1_readGroup_51 : decode cX1_readGroup 51 = .ok (.ireturn, 1) := sorry
set_option maxRecDepth 20000 in
theorem ggX1_readByColumns_X1_readByColumn : GoodIn wsX1_readByColumns wsX1_readByColumn := sorry
set_option maxRecDepth 20000 in
theorem gX1_readByColumns_X1_readByColumn : GoodIn wsX1_readByColumns (wsV RX1 214 RX1 yX1_readByColumn wsX1_readByColumn) := sorry
set_option maxRecDepth 20000 in
theorem ggX1_readByColumns_X1_isKind : GoodIn wsX1_readByColumns wsX1_isKind := sorry
set_option maxRecDepth 20000 in
theorem gX1_readByColumns_X1_isKind : GoodIn wsX1_readByColumns (wsV RX1 67 RX1 yX1_isKind wsX1_isKind) := sorry
set_option maxRecDepth 20000 in
theorem ggX1_readByColumns_X1_step : GoodIn wsX1_readByColumns wsX1_step := sorry
set_option maxRecDepth 20000 in
theorem gX1_readByColumns_X1_step : GoodIn wsX1_readByColumns (wsV RX1 75 RX1 yX1_step wsX1_step) := sorry
def dtX1_readByColumns_0_0 : List (Nat × Instr × Nat) := [(0, .iconst 0, 1), (1, .istore_n 1, 1), (2, .iload_n 1, 1), (3, .iconst 3, 1), (4, .if_icmp .gt 33, 3), (7, .aload_n 0, 1), (8, .invokevirtual 214, 3), (11, .istore_n 2, 1), (12, .iload_n 2, 1), (13, .ifCond .ne 12, 3), (16, .aload_n 0, 1), (17, .bipush 44, 2), (19, .invokevirtual 67, 3), (22, .ifCond .ne 5, 3), (25, .iload_n 2, 1), (26, .ireturn, 1), (27, .aload_n 0, 1), (28, .invokevirtual 75, 3), (31, .iinc 1 1, 3), (34, .goto (-32), 3), (37, .iconst 4, 1), (38, .ireturn, 1)]
theorem dtX1_readByColumns_0_0_ok : dcAll cX1_readByColumns dtX1_readByColumns_0_0 = true := sorry
theorem dX1_readByColumns_0 : decode cX1_readByColumns 0 = .ok (.iconst 0, 1) := sorry
theorem dX1_readByColumns_1 : decode cX1_readByColumns 1 = .ok (.istore_n 1, 1) := sorry
theorem dX1_readByColumns_2 : decode cX1_readByColumns 2 = .ok (.iload_n 1, 1) := sorry
theorem dX1_readByColumns_3 : decode cX1_readByColumns 3 = .ok (.iconst 3, 1) := sorry
theorem dX1_readByColumns_4 : decode cX1_readByColumns 4 = .ok (.if_icmp .gt 33, 3) := sorry
theorem dX1_readByColumns_7 : decode cX1_readByColumns 7 = .ok (.aload_n 0, 1) := sorry
theorem dX1_readByColumns_8 : decode cX1_readByColumns 8 = .ok (.invokevirtual 214, 3) := sorry
theorem dX1_readByColumns_11 : decode cX1_readByColumns 11 = .ok (.istore_n 2, 1) := sorry
theorem dX1_readByColumns_12 : decode cX1_readByColumns 12 = .ok (.iload_n 2, 1) := sorry
theorem dX1_readByColumns_13 : decode cX1_readByColumns 13 = .ok (.ifCond .ne 12, 3) := sorry
theorem dX1_readByColumns_16 : decode cX1_readByColumns 16 = .ok (.aload_n 0, 1) := sorry
theorem dX1_readByColumns_17 : decode cX1_readByColumns 17 = .ok (.bipush 44, 2) := sorry
theorem dX1_readByColumns_19 : decode cX1_readByColumns 19 = .ok (.invokevirtual 67, 3) := sorry
theorem dX1_readByColumns_22 : decode cX1_readByColumns 22 = .ok (.ifCond .ne 5, 3) := sorry
theorem dX1_readByColumns_25 : decode cX1_readByColumns 25 = .ok (.iload_n 2, 1) := sorry
theorem dX1_readByColumns_26 : decode cX1_readByColumns 26 = .ok (.ireturn, 1) := sorry
theorem dX1_readByColumns_27 : decode cX1_readByColumns 27 = .ok (.aload_n 0, 1) := sorry
theorem dX1_readByColumns_28 : decode cX1_readByColumns 28 = .ok (.invokevirtual 75, 3) := sorry
theorem dX1_readByColumns_31 : decode cX1_readByColumns 31 = .ok (.iinc 1 1, 3) := sorry
theorem dX1_readByColumns_34 : decode cX1_readByColumns 34 = .ok (.goto (-32), 3) := sorry
theorem dX1_readByColumns_37 : decode cX1_readByColumns 37 = .ok (.iconst 4, 1) := sorry
theorem dX1_readByColumns_38 : decode cX1_readByColumns 38 = .ok (.ireturn, 1) := sorry
set_option maxRecDepth 20000 in
theorem ggX1_readByColumn_X1_seeColumn : GoodIn wsX1_readByColumn wsX1_seeColumn := sorry
set_option maxRecDepth 20000 in
theorem gX1_readByColumn_X1_seeColumn : GoodIn wsX1_readByColumn (wsV RX1 173 RX1 yX1_seeColumn wsX1_seeColumn) := sorry
set_option maxRecDepth 20000 in
theorem ggX1_readByColumn_X0_hasColumn : GoodIn wsX1_readByColumn wsX0_hasColumn := sorry
set_option maxRecDepth 20000 in
theorem gX1_readByColumn_X0_hasColumn : GoodIn wsX1_readByColumn (wsV RX1 217 RX0 yX0_hasColumn wsX0_hasColumn) := sorry
set_option maxRecDepth 20000 in
theorem ggX1_readByColumn_X0_addColumn : GoodIn wsX1_readByColumn wsX0_addColumn := sorry
set_option maxRecDepth 20000 in
theorem gX1_readByColumn_X0_addColumn : GoodIn wsX1_readByColumn (wsV RX1 220 RX0 yX0_addColumn wsX0_addColumn) := sorry
set_option maxRecDepth 20000 in
theorem ggX1_readByColumn_X1_step : GoodIn wsX1_readByColumn wsX1_step := sorry
set_option maxRecDepth 20000 in
theorem gX1_readByColumn_X1_step : GoodIn wsX1_readByColumn (wsV RX1 75 RX1 yX1_step wsX1_step) := sorry
def dtX1_readByColumn_0_0 : List (Nat × Instr × Nat) := [(0, .aload_n 0, 1), (1, .aload_n 0, 1), (2, .getfield 29, 3), (5, .getfield 143, 3), (8, .invokevirtual 173, 3), (11, .istore_n 1, 1), (12, .iload_n 1, 1), (13, .ifCond .eq 5, 3), (16, .iload_n 1, 1), (17, .ireturn, 1), (18, .aload_n 0, 1), (19, .getfield 12, 3), (22, .getfield 71, 3), (25, .aload_n 0, 1), (26, .getfield 44, 3), (29, .iaload, 1), (30, .istore_n 2, 1), (31, .aload_n 0, 1), (32, .getfield 29, 3), (35, .iload_n 2, 1), (36, .invokevirtual 217, 3), (39, .ifCond .eq 5, 3), (42, .iconst 2, 1), (43, .ireturn, 1), (44, .aload_n 0, 1), (45, .getfield 29, 3), (48, .getfield 149, 3), (51, .iconst 3, 1), (52, .if_icmp .lt 5, 3), (55, .iconst 4, 1), (56, .ireturn, 1), (57, .aload_n 0, 1)]
theorem dtX1_readByColumn_0_0_ok : dcAll cX1_readByColumn dtX1_readByColumn_0_0 = true := sorry
theorem dX1_readByColumn_0 : decode cX1_readByColumn 0 = .ok (.aload_n 0, 1) := sorry
theorem dX1_readByColumn_1 : decode cX1_readByColumn 1 = .ok (.aload_n 0, 1) := sorry
theorem dX1_readByColumn_2 : decode cX1_readByColumn 2 = .ok (.getfield 29, 3) := sorry
theorem dX1_readByColumn_5 : decode cX1_readByColumn 5 = .ok (.getfield 143, 3) := sorry
theorem dX1_readByColumn_8 : decode cX1_readByColumn 8 = .ok (.invokevirtual 173, 3) := sorry
theorem dX1_readByColumn_11 : decode cX1_readByColumn 11 = .ok (.istore_n 1, 1) := sorry
theorem dX1_readByColumn_12 : decode cX1_readByColumn 12 = .ok (.iload_n 1, 1) := sorry
theorem dX1_readByColumn_13 : decode cX1_readByColumn 13 = .ok (.ifCond .eq 5, 3) := sorry
theorem dX1_readByColumn_16 : decode cX1_readByColumn 16 = .ok (.iload_n 1, 1) := sorry
theorem dX1_readByColumn_17 : decode cX1_readByColumn 17 = .ok (.ireturn, 1) := sorry
theorem dX1_readByColumn_18 : decode cX1_readByColumn 18 = .ok (.aload_n 0, 1) := sorry
theorem dX1_readByColumn_19 : decode cX1_readByColumn 19 = .ok (.getfield 12, 3) := sorry
theorem dX1_readByColumn_22 : decode cX1_readByColumn 22 = .ok (.getfield 71, 3) := sorry
theorem dX1_readByColumn_25 : decode cX1_readByColumn 25 = .ok (.aload_n 0, 1) := sorry
theorem dX1_readByColumn_26 : decode cX1_readByColumn 26 = .ok (.getfield 44, 3) := sorry
theorem dX1_readByColumn_29 : decode cX1_readByColumn 29 = .ok (.iaload, 1) := sorry
theorem dX1_readByColumn_30 : decode cX1_readByColumn 30 = .ok (.istore_n 2, 1) := sorry
theorem dX1_readByColumn_31 : decode cX1_readByColumn 31 = .ok (.aload_n 0, 1) := sorry
theorem dX1_readByColumn_32 : decode cX1_readByColumn 32 = .ok (.getfield 29, 3) := sorry
theorem dX1_readByColumn_35 : decode cX1_readByColumn 35 = .ok (.iload_n 2, 1) := sorry
theorem dX1_readByColumn_36 : decode cX1_readByColumn 36 = .ok (.invokevirtual 217, 3) := sorry
theorem dX1_readByColumn_39 : decode cX1_readByColumn 39 = .ok (.ifCond .eq 5, 3) := sorry
theorem dX1_readByColumn_42 : decode cX1_readByColumn 42 = .ok (.iconst 2, 1) := sorry
theorem dX1_readByColumn_43 : decode cX1_readByColumn 43 = .ok (.ireturn, 1) := sorry
theorem dX1_readByColumn_44 : decode cX1_readByColumn 44 = .ok (.aload_n 0, 1) := sorry
theorem dX1_readByColumn_45 : decode cX1_readByColumn 45 = .ok (.getfield 29, 3) := sorry
theorem dX1_readByColumn_48 : decode cX1_readByColumn 48 = .ok (.getfield 149, 3) := sorry
theorem dX1_readByColumn_51 : decode cX1_readByColumn 51 = .ok (.iconst 3, 1) := sorry
theorem dX1_readByColumn_52 : decode cX1_readByColumn 52 = .ok (.if_icmp .lt 5, 3) := sorry
theorem dX1_readByColumn_55 : decode cX1_readByColumn 55 = .ok (.iconst 4, 1) := sorry
theorem dX1_readByColumn_56 : decode cX1_readByColumn 56 = .ok (.ireturn, 1) := sorry
theorem dX1_readByColumn_57 : decode cX1_readByColumn 57 = .ok (.aload_n 0, 1) := sorry
def dtX1_readByColumn_58_1 : List (Nat × Instr × Nat) := [(58, .getfield 29, 3), (61, .iload_n 2, 1), (62, .invokevirtual 220, 3), (65, .aload_n 0, 1), (66, .invokevirtual 75, 3), (69, .iconst 0, 1), (70, .ireturn, 1)]
theorem dtX1_readByColumn_58_1_ok : dcAll cX1_readByColumn dtX1_readByColumn_58_1 = true := sorry
theorem dX1_readByColumn_58 : decode cX1_readByColumn 58 = .ok (.getfield 29, 3) := sorry
theorem dX1_readByColumn_61 : decode cX1_readByColumn 61 = .ok (.iload_n 2, 1) := sorry
theorem dX1_readByColumn_62 : decode cX1_readByColumn 62 = .ok (.invokevirtual 220, 3) := sorry
theorem dX1_readByColumn_65 : decode cX1_readByColumn 65 = .ok (.aload_n 0, 1) := sorry
theorem dX1_readByColumn_66 : decode cX1_readByColumn 66 = .ok (.invokevirtual 75, 3) := sorry
theorem dX1_readByColumn_69 : decode cX1_readByColumn 69 = .ok (.iconst 0, 1) := sorry
theorem dX1_readByColumn_70 : decode cX1_readByColumn 70 = .ok (.ireturn, 1) := sorry
set_option maxRecDepth 20000 in
theorem ggX1_readFold_X1_isKind : GoodIn wsX1_readFold wsX1_isKind := sorry
set_option maxRecDepth 20000 in
theorem gX1_readFold_X1_isKind : GoodIn wsX1_readFold (wsV RX1 67 RX1 yX1_isKind wsX1_isKind) := sorry
set_option maxRecDepth 20000 in
theorem ggX1_readFold_X1_step : GoodIn wsX1_readFold wsX1_step := sorry
set_option maxRecDepth 20000 in
theorem gX1_readFold_X1_step : GoodIn wsX1_readFold (wsV RX1 75 RX1 yX1_step wsX1_step) := sorry
set_option maxRecDepth 20000 in
theorem ggX1_readFold_X1_seeColumn : GoodIn wsX1_readFold wsX1_seeColumn := sorry
set_option maxRecDepth 20000 in
theorem gX1_readFold_X1_seeColumn : GoodIn wsX1_readFold (wsV RX1 173 RX1 yX1_seeColumn wsX1_seeColumn) := sorry
def dtX1_readFold_0_0 : List (Nat × Instr × Nat) := [(0, .aload_n 0, 1), (1, .getfield 12, 3), (4, .getfield 71, 3), (7, .aload_n 0, 1), (8, .getfield 44, 3), (11, .iaload, 1), (12, .istore_n 1, 1), (13, .aload_n 0, 1), (14, .iconst 3, 1), (15, .invokevirtual 67, 3), (18, .ifCond .eq 15, 3), (21, .iload_n 1, 1), (22, .bipush 16, 2), (24, .if_icmp .lt 9, 3), (27, .iload_n 1, 1), (28, .bipush 19, 2), (30, .if_icmp .le 5, 3), (33, .iconst 1, 1), (34, .ireturn, 1), (35, .aload_n 0, 1), (36, .getfield 29, 3), (39, .iload_n 1, 1), (40, .putfield 223, 3), (43, .aload_n 0, 1), (44, .getfield 29, 3), (47, .iconst 0, 1), (48, .putfield 226, 3), (51, .aload_n 0, 1), (52, .invokevirtual 75, 3), (55, .iload_n 1, 1), (56, .bipush 16, 2), (58, .if_icmp .ne 5, 3)]
theorem dtX1_readFold_0_0_ok : dcAll cX1_readFold dtX1_readFold_0_0 = true := sorry
theorem dX1_readFold_0 : decode cX1_readFold 0 = .ok (.aload_n 0, 1) := sorry
theorem dX1_readFold_1 : decode cX1_readFold 1 = .ok (.getfield 12, 3) := sorry
theorem dX1_readFold_4 : decode cX1_readFold 4 = .ok (.getfield 71, 3) := sorry
theorem dX1_readFold_7 : decode cX1_readFold 7 = .ok (.aload_n 0, 1) := sorry
theorem dX1_readFold_8 : decode cX1_readFold 8 = .ok (.getfield 44, 3) := sorry
theorem dX1_readFold_11 : decode cX1_readFold 11 = .ok (.iaload, 1) := sorry
theorem dX1_readFold_12 : decode cX1_readFold 12 = .ok (.istore_n 1, 1) := sorry
theorem dX1_readFold_13 : decode cX1_readFold 13 = .ok (.aload_n 0, 1) := sorry
theorem dX1_readFold_14 : decode cX1_readFold 14 = .ok (.iconst 3, 1) := sorry
theorem dX1_readFold_15 : decode cX1_readFold 15 = .ok (.invokevirtual 67, 3) := sorry
theorem dX1_readFold_18 : decode cX1_readFold 18 = .ok (.ifCond .eq 15, 3) := sorry
theorem dX1_readFold_21 : decode cX1_readFold 21 = .ok (.iload_n 1, 1) := sorry
theorem dX1_readFold_22 : decode cX1_readFold 22 = .ok (.bipush 16, 2) := sorry
theorem dX1_readFold_24 : decode cX1_readFold 24 = .ok (.if_icmp .lt 9, 3) := sorry
theorem dX1_readFold_27 : decode cX1_readFold 27 = .ok (.iload_n 1, 1) := sorry
theorem dX1_readFold_28 : decode cX1_readFold 28 = .ok (.bipush 19, 2) := sorry
theorem dX1_readFold_30 : decode cX1_readFold 30 = .ok (.if_icmp .le 5, 3) := sorry
theorem dX1_readFold_33 : decode cX1_readFold 33 = .ok (.iconst 1, 1) := sorry
theorem dX1_readFold_34 : decode cX1_readFold 34 = .ok (.ireturn, 1) := sorry
theorem dX1_readFold_35 : decode cX1_readFold 35 = .ok (.aload_n 0, 1) := sorry
theorem dX1_readFold_36 : decode cX1_readFold 36 = .ok (.getfield 29, 3) := sorry
theorem dX1_readFold_39 : decode cX1_readFold 39 = .ok (.iload_n 1, 1) := sorry
theorem dX1_readFold_40 : decode cX1_readFold 40 = .ok (.putfield 223, 3) := sorry
theorem dX1_readFold_43 : decode cX1_readFold 43 = .ok (.aload_n 0, 1) := sorry
theorem dX1_readFold_44 : decode cX1_readFold 44 = .ok (.getfield 29, 3) := sorry
theorem dX1_readFold_47 : decode cX1_readFold 47 = .ok (.iconst 0, 1) := sorry
theorem dX1_readFold_48 : decode cX1_readFold 48 = .ok (.putfield 226, 3) := sorry
theorem dX1_readFold_51 : decode cX1_readFold 51 = .ok (.aload_n 0, 1) := sorry
theorem dX1_readFold_52 : decode cX1_readFold 52 = .ok (.invokevirtual 75, 3) := sorry
theorem dX1_readFold_55 : decode cX1_readFold 55 = .ok (.iload_n 1, 1) := sorry
theorem dX1_readFold_56 : decode cX1_readFold 56 = .ok (.bipush 16, 2) := sorry
theorem dX1_readFold_58 : decode cX1_readFold 58 = .ok (.if_icmp .ne 5, 3) := sorry
def dtX1_readFold_61_1 : List (Nat × Instr × Nat) := [(61, .iconst 0, 1), (62, .ireturn, 1), (63, .aload_n 0, 1), (64, .aload_n 0, 1), (65, .getfield 29, 3), (68, .getfield 143, 3), (71, .invokevirtual 173, 3), (74, .istore_n 2, 1), (75, .iload_n 2, 1), (76, .ifCond .ne 26, 3), (79, .aload_n 0, 1), (80, .getfield 29, 3), (83, .aload_n 0, 1), (84, .getfield 12, 3), (87, .getfield 71, 3), (90, .aload_n 0, 1), (91, .getfield 44, 3), (94, .iaload, 1), (95, .putfield 226, 3), (98, .aload_n 0, 1), (99, .invokevirtual 75, 3), (102, .iload_n 2, 1), (103, .ireturn, 1)]
theorem dtX1_readFold_61_1_ok : dcAll cX1_readFold dtX1_readFold_61_1 = true := sorry
theorem dX1_readFold_61 : decode cX1_readFold 61 = .ok (.iconst 0, 1) := sorry
theorem dX1_readFold_62 : decode cX1_readFold 62 = .ok (.ireturn, 1) := sorry
theorem dX1_readFold_63 : decode cX1_readFold 63 = .ok (.aload_n 0, 1) := sorry
theorem dX1_readFold_64 : decode cX1_readFold 64 = .ok (.aload_n 0, 1) := sorry
theorem dX1_readFold_65 : decode cX1_readFold 65 = .ok (.getfield 29, 3) := sorry
theorem dX1_readFold_68 : decode cX1_readFold 68 = .ok (.getfield 143, 3) := sorry
theorem dX1_readFold_71 : decode cX1_readFold 71 = .ok (.invokevirtual 173, 3) := sorry
theorem dX1_readFold_74 : decode cX1_readFold 74 = .ok (.istore_n 2, 1) := sorry
theorem dX1_readFold_75 : decode cX1_readFold 75 = .ok (.iload_n 2, 1) := sorry
theorem dX1_readFold_76 : decode cX1_readFold 76 = .ok (.ifCond .ne 26, 3) := sorry
theorem dX1_readFold_79 : decode cX1_readFold 79 = .ok (.aload_n 0, 1) := sorry
theorem dX1_readFold_80 : decode cX1_readFold 80 = .ok (.getfield 29, 3) := sorry
theorem dX1_readFold_83 : decode cX1_readFold 83 = .ok (.aload_n 0, 1) := sorry
theorem dX1_readFold_84 : decode cX1_readFold 84 = .ok (.getfield 12, 3) := sorry
theorem dX1_readFold_87 : decode cX1_readFold 87 = .ok (.getfield 71, 3) := sorry
theorem dX1_readFold_90 : decode cX1_readFold 90 = .ok (.aload_n 0, 1) := sorry
theorem dX1_readFold_91 : decode cX1_readFold 91 = .ok (.getfield 44, 3) := sorry
theorem dX1_readFold_94 : decode cX1_readFold 94 = .ok (.iaload, 1) := sorry
theorem dX1_readFold_95 : decode cX1_readFold 95 = .ok (.putfield 226, 3) := sorry
theorem dX1_readFold_98 : decode cX1_readFold 98 = .ok (.aload_n 0, 1) := sorry
theorem dX1_readFold_99 : decode cX1_readFold 99 = .ok (.invokevirtual 75, 3) := sorry
theorem dX1_readFold_102 : decode cX1_readFold 102 = .ok (.iload_n 2, 1) := sorry
theorem dX1_readFold_103 : decode cX1_readFold 103 = .ok (.ireturn, 1) := sorry
set_option maxRecDepth 20000 in
theorem ggX1_readRing_X1_readFirst : GoodIn wsX1_readRing wsX1_readFirst := sorry
set_option maxRecDepth 20000 in
theorem gX1_readRing_X1_readFirst : GoodIn wsX1_readRing (wsV RX1 161 RX1 yX1_readFirst wsX1_readFirst) := sorry
set_option maxRecDepth 20000 in
theorem ggX1_readRing_X1_takeWord : GoodIn wsX1_readRing wsX1_takeWord := sorry
set_option maxRecDepth 20000 in
theorem gX1_readRing_X1_takeWord : GoodIn wsX1_readRing (wsV RX1 164 RX1 yX1_takeWord wsX1_takeWord) := sorry
set_option maxRecDepth 20000 in
theorem ggX1_readRing_X1_readSecond : GoodIn wsX1_readRing wsX1_readSecond := sorry
set_option maxRecDepth 20000 in
theorem gX1_readRing_X1_readSecond : GoodIn wsX1_readRing (wsV RX1 190 RX1 yX1_readSecond wsX1_readSecond) := sorry
set_option maxRecDepth 20000 in
theorem ggX1_readRing_X1_readPair : GoodIn wsX1_readRing wsX1_readPair := sorry
set_option maxRecDepth 20000 in
theorem gX1_readRing_X1_readPair : GoodIn wsX1_readRing (wsV RX1 199 RX1 yX1_readPair wsX1_readPair) := sorry
set_option maxRecDepth 20000 in
theorem ggX1_readRing_X1_readTerms : GoodIn wsX1_readRing wsX1_readTerms := sorry
set_option maxRecDepth 20000 in
theorem gX1_readRing_X1_readTerms : GoodIn wsX1_readRing (wsV RX1 180 RX1 yX1_readTerms wsX1_readTerms) := sorry
def dtX1_readRing_0_0 : List (Nat × Instr × Nat) := [(0, .aload_n 0, 1), (1, .invokevirtual 161, 3), (4, .istore_n 1, 1), (5, .iload_n 1, 1), (6, .ifCond .ne 10, 3), (9, .aload_n 0, 1), (10, .bipush 14, 2), (12, .invokevirtual 164, 3), (15, .istore_n 1, 1), (16, .iload_n 1, 1), (17, .ifCond .ne 8, 3), (20, .aload_n 0, 1), (21, .invokevirtual 190, 3), (24, .istore_n 1, 1), (25, .iload_n 1, 1), (26, .ifCond .ne 10, 3), (29, .aload_n 0, 1), (30, .bipush 12, 2), (32, .invokevirtual 164, 3), (35, .istore_n 1, 1), (36, .iload_n 1, 1), (37, .ifCond .ne 9, 3), (40, .aload_n 0, 1), (41, .iconst 1, 1), (42, .invokevirtual 199, 3), (45, .istore_n 1, 1), (46, .iload_n 1, 1), (47, .ifCond .ne 10, 3), (50, .aload_n 0, 1), (51, .bipush 15, 2), (53, .invokevirtual 164, 3), (56, .istore_n 1, 1)]
theorem dtX1_readRing_0_0_ok : dcAll cX1_readRing dtX1_readRing_0_0 = true := sorry
theorem dX1_readRing_0 : decode cX1_readRing 0 = .ok (.aload_n 0, 1) := sorry
theorem dX1_readRing_1 : decode cX1_readRing 1 = .ok (.invokevirtual 161, 3) := sorry
theorem dX1_readRing_4 : decode cX1_readRing 4 = .ok (.istore_n 1, 1) := sorry
theorem dX1_readRing_5 : decode cX1_readRing 5 = .ok (.iload_n 1, 1) := sorry
theorem dX1_readRing_6 : decode cX1_readRing 6 = .ok (.ifCond .ne 10, 3) := sorry
theorem dX1_readRing_9 : decode cX1_readRing 9 = .ok (.aload_n 0, 1) := sorry
theorem dX1_readRing_10 : decode cX1_readRing 10 = .ok (.bipush 14, 2) := sorry
theorem dX1_readRing_12 : decode cX1_readRing 12 = .ok (.invokevirtual 164, 3) := sorry
theorem dX1_readRing_15 : decode cX1_readRing 15 = .ok (.istore_n 1, 1) := sorry
theorem dX1_readRing_16 : decode cX1_readRing 16 = .ok (.iload_n 1, 1) := sorry
theorem dX1_readRing_17 : decode cX1_readRing 17 = .ok (.ifCond .ne 8, 3) := sorry
theorem dX1_readRing_20 : decode cX1_readRing 20 = .ok (.aload_n 0, 1) := sorry
theorem dX1_readRing_21 : decode cX1_readRing 21 = .ok (.invokevirtual 190, 3) := sorry
theorem dX1_readRing_24 : decode cX1_readRing 24 = .ok (.istore_n 1, 1) := sorry
theorem dX1_readRing_25 : decode cX1_readRing 25 = .ok (.iload_n 1, 1) := sorry
theorem dX1_readRing_26 : decode cX1_readRing 26 = .ok (.ifCond .ne 10, 3) := sorry
theorem dX1_readRing_29 : decode cX1_readRing 29 = .ok (.aload_n 0, 1) := sorry
theorem dX1_readRing_30 : decode cX1_readRing 30 = .ok (.bipush 12, 2) := sorry
theorem dX1_readRing_32 : decode cX1_readRing 32 = .ok (.invokevirtual 164, 3) := sorry
theorem dX1_readRing_35 : decode cX1_readRing 35 = .ok (.istore_n 1, 1) := sorry
theorem dX1_readRing_36 : decode cX1_readRing 36 = .ok (.iload_n 1, 1) := sorry
theorem dX1_readRing_37 : decode cX1_readRing 37 = .ok (.ifCond .ne 9, 3) := sorry
theorem dX1_readRing_40 : decode cX1_readRing 40 = .ok (.aload_n 0, 1) := sorry
theorem dX1_readRing_41 : decode cX1_readRing 41 = .ok (.iconst 1, 1) := sorry
theorem dX1_readRing_42 : decode cX1_readRing 42 = .ok (.invokevirtual 199, 3) := sorry
theorem dX1_readRing_45 : decode cX1_readRing 45 = .ok (.istore_n 1, 1) := sorry
theorem dX1_readRing_46 : decode cX1_readRing 46 = .ok (.iload_n 1, 1) := sorry
theorem dX1_readRing_47 : decode cX1_readRing 47 = .ok (.ifCond .ne 10, 3) := sorry
theorem dX1_readRing_50 : decode cX1_readRing 50 = .ok (.aload_n 0, 1) := sorry
theorem dX1_readRing_51 : decode cX1_readRing 51 = .ok (.bipush 15, 2) := sorry
theorem dX1_readRing_53 : decode cX1_readRing 53 = .ok (.invokevirtual 164, 3) := sorry
theorem dX1_readRing_56 : decode cX1_readRing 56 = .ok (.istore_n 1, 1) := sorry
def dtX1_readRing_57_1 : List (Nat × Instr × Nat) := [(57, .iload_n 1, 1), (58, .ifCond .ne 23, 3), (61, .aload_n 0, 1), (62, .aload_n 0, 1), (63, .getfield 29, 3), (66, .getfield 143, 3), (69, .aload_n 0, 1), (70, .getfield 29, 3), (73, .getfield 146, 3), (76, .iadd, 1), (77, .invokevirtual 180, 3), (80, .istore_n 1, 1), (81, .aload_n 0, 1), (82, .getfield 29, 3), (85, .aload_n 0, 1), (86, .getfield 29, 3), (89, .getfield 143, 3), (92, .putfield 136, 3), (95, .iload_n 1, 1), (96, .ireturn, 1)]
theorem dtX1_readRing_57_1_ok : dcAll cX1_readRing dtX1_readRing_57_1 = true := sorry
theorem dX1_readRing_57 : decode cX1_readRing 57 = .ok (.iload_n 1, 1) := sorry
theorem dX1_readRing_58 : decode cX1_readRing 58 = .ok (.ifCond .ne 23, 3) := sorry
theorem dX1_readRing_61 : decode cX1_readRing 61 = .ok (.aload_n 0, 1) := sorry
theorem dX1_readRing_62 : decode cX1_readRing 62 = .ok (.aload_n 0, 1) := sorry
theorem dX1_readRing_63 : decode cX1_readRing 63 = .ok (.getfield 29, 3) := sorry
theorem dX1_readRing_66 : decode cX1_readRing 66 = .ok (.getfield 143, 3) := sorry
theorem dX1_readRing_69 : decode cX1_readRing 69 = .ok (.aload_n 0, 1) := sorry
theorem dX1_readRing_70 : decode cX1_readRing 70 = .ok (.getfield 29, 3) := sorry
theorem dX1_readRing_73 : decode cX1_readRing 73 = .ok (.getfield 146, 3) := sorry
theorem dX1_readRing_76 : decode cX1_readRing 76 = .ok (.iadd, 1) := sorry
theorem dX1_readRing_77 : decode cX1_readRing 77 = .ok (.invokevirtual 180, 3) := sorry
theorem dX1_readRing_80 : decode cX1_readRing 80 = .ok (.istore_n 1, 1) := sorry
theorem dX1_readRing_81 : decode cX1_readRing 81 = .ok (.aload_n 0, 1) := sorry
theorem dX1_readRing_82 : decode cX1_readRing 82 = .ok (.getfield 29, 3) := sorry
theorem dX1_readRing_85 : decode cX1_readRing 85 = .ok (.aload_n 0, 1) := sorry
theorem dX1_readRing_86 : decode cX1_readRing 86 = .ok (.getfield 29, 3) := sorry
theorem dX1_readRing_89 : decode cX1_readRing 89 = .ok (.getfield 143, 3) := sorry
theorem dX1_readRing_92 : decode cX1_readRing 92 = .ok (.putfield 136, 3) := sorry
theorem dX1_readRing_95 : decode cX1_readRing 95 = .ok (.iload_n 1, 1) := sorry
theorem dX1_readRing_96 : decode cX1_readRing 96 = .ok (.ireturn, 1) := sorry
set_option maxRecDepth 20000 in
theorem ggX2_init_X0_init : GoodIn wsX2_init wsX0_init := sorry
set_option maxRecDepth 20000 in
theorem gX2_init_X0_init_n17 : GoodIn wsX2_init (wsX0_init) := sorry
def dtX2_init_0_0 : List (Nat × Instr × Nat) := [(0, .aload_n 0, 1), (1, .invokespecial 3, 3), (4, .aload_n 0, 1), (5, .bipush 16, 2), (7, .anewarray 9, 3), (10, .putfield 11, 3), (13, .iconst 0, 1), (14, .istore_n 1, 1), (15, .iload_n 1, 1), (16, .bipush 16, 2), (18, .if_icmp .ge 22, 3), (21, .aload_n 0, 1), (22, .getfield 11, 3), (25, .iload_n 1, 1), (26, .new 9, 3), (29, .dup, 1), (30, .invokespecial 17, 3), (33, .aastore, 1), (34, .iinc 1 1, 3), (37, .goto (-22), 3), (40, .return_, 1)]
theorem dtX2_init_0_0_ok : dcAll cX2_init dtX2_init_0_0 = true := sorry
theorem dX2_init_0 : decode cX2_init 0 = .ok (.aload_n 0, 1) := sorry
theorem dX2_init_1 : decode cX2_init 1 = .ok (.invokespecial 3, 3) := sorry
theorem dX2_init_4 : decode cX2_init 4 = .ok (.aload_n 0, 1) := sorry
theorem dX2_init_5 : decode cX2_init 5 = .ok (.bipush 16, 2) := sorry
theorem dX2_init_7 : decode cX2_init 7 = .ok (.anewarray 9, 3) := sorry
theorem dX2_init_10 : decode cX2_init 10 = .ok (.putfield 11, 3) := sorry
theorem dX2_init_13 : decode cX2_init 13 = .ok (.iconst 0, 1) := sorry
theorem dX2_init_14 : decode cX2_init 14 = .ok (.istore_n 1, 1) := sorry
theorem dX2_init_15 : decode cX2_init 15 = .ok (.iload_n 1, 1) := sorry
theorem dX2_init_16 : decode cX2_init 16 = .ok (.bipush 16, 2) := sorry
theorem dX2_init_18 : decode cX2_init 18 = .ok (.if_icmp .ge 22, 3) := sorry
theorem dX2_init_21 : decode cX2_init 21 = .ok (.aload_n 0, 1) := sorry
theorem dX2_init_22 : decode cX2_init 22 = .ok (.getfield 11, 3) := sorry
theorem dX2_init_25 : decode cX2_init 25 = .ok (.iload_n 1, 1) := sorry
theorem dX2_init_26 : decode cX2_init 26 = .ok (.new 9, 3) := sorry
theorem dX2_init_29 : decode cX2_init 29 = .ok (.dup, 1) := sorry
theorem dX2_init_30 : decode cX2_init 30 = .ok (.invokespecial 17, 3) := sorry
theorem dX2_init_33 : decode cX2_init 33 = .ok (.aastore, 1) := sorry
theorem dX2_init_34 : decode cX2_init 34 = .ok (.iinc 1 1, 3) := sorry
theorem dX2_init_37 : decode cX2_init 37 = .ok (.goto (-22), 3) := sorry
theorem dX2_init_40 : decode cX2_init 40 = .ok (.return_, 1) := sorry
def dtX2_relationOf_0_0 : List (Nat × Instr × Nat) := [(0, .iconst 0, 1), (1, .istore_n 3, 1), (2, .iload_n 3, 1), (3, .aload_n 0, 1), (4, .getfield 18, 3), (7, .if_icmp .ge 25, 3), (10, .aload_n 0, 1), (11, .getfield 11, 3), (14, .iload_n 3, 1), (15, .aaload, 1), (16, .getfield 22, 3), (19, .lload_n 1, 1), (20, .lcmp, 1), (21, .ifCond .ne 5, 3), (24, .iload_n 3, 1), (25, .ireturn, 1), (26, .iinc 3 1, 3), (29, .goto (-27), 3), (32, .iconst (-1), 1), (33, .ireturn, 1)]
theorem dtX2_relationOf_0_0_ok : dcAll cX2_relationOf dtX2_relationOf_0_0 = true := sorry
theorem dX2_relationOf_0 : decode cX2_relationOf 0 = .ok (.iconst 0, 1) := sorry
theorem dX2_relationOf_1 : decode cX2_relationOf 1 = .ok (.istore_n 3, 1) := sorry
theorem dX2_relationOf_2 : decode cX2_relationOf 2 = .ok (.iload_n 3, 1) := sorry
theorem dX2_relationOf_3 : decode cX2_relationOf 3 = .ok (.aload_n 0, 1) := sorry
theorem dX2_relationOf_4 : decode cX2_relationOf 4 = .ok (.getfield 18, 3) := sorry
theorem dX2_relationOf_7 : decode cX2_relationOf 7 = .ok (.if_icmp .ge 25, 3) := sorry
theorem dX2_relationOf_10 : decode cX2_relationOf 10 = .ok (.aload_n 0, 1) := sorry
theorem dX2_relationOf_11 : decode cX2_relationOf 11 = .ok (.getfield 11, 3) := sorry
theorem dX2_relationOf_14 : decode cX2_relationOf 14 = .ok (.iload_n 3, 1) := sorry
theorem dX2_relationOf_15 : decode cX2_relationOf 15 = .ok (.aaload, 1) := sorry
theorem dX2_relationOf_16 : decode cX2_relationOf 16 = .ok (.getfield 22, 3) := sorry
theorem dX2_relationOf_19 : decode cX2_relationOf 19 = .ok (.lload_n 1, 1) := sorry
theorem dX2_relationOf_20 : decode cX2_relationOf 20 = .ok (.lcmp, 1) := sorry
theorem dX2_relationOf_21 : decode cX2_relationOf 21 = .ok (.ifCond .ne 5, 3) := sorry
theorem dX2_relationOf_24 : decode cX2_relationOf 24 = .ok (.iload_n 3, 1) := sorry
theorem dX2_relationOf_25 : decode cX2_relationOf 25 = .ok (.ireturn, 1) := sorry
theorem dX2_relationOf_26 : decode cX2_relationOf 26 = .ok (.iinc 3 1, 3) := sorry
theorem dX2_relationOf_29 : decode cX2_relationOf 29 = .ok (.goto (-27), 3) := sorry
theorem dX2_relationOf_32 : decode cX2_relationOf 32 = .ok (.iconst (-1), 1) := sorry
theorem dX2_relationOf_33 : decode cX2_relationOf 33 = .ok (.ireturn, 1) := sorry
def dtX2_hangingOn_0_0 : List (Nat × Instr × Nat) := [(0, .iconst 0, 1), (1, .istore_n 2, 1), (2, .iconst 0, 1), (3, .istore_n 3, 1), (4, .iload_n 3, 1), (5, .aload_n 0, 1), (6, .getfield 18, 3), (9, .if_icmp .ge 27, 3), (12, .iload_n 2, 1), (13, .aload_n 0, 1), (14, .getfield 11, 3), (17, .iload_n 3, 1), (18, .aaload, 1), (19, .getfield 26, 3), (22, .iload_n 1, 1), (23, .iushr, 1), (24, .iconst 1, 1), (25, .iand, 1), (26, .iload_n 3, 1), (27, .ishl, 1), (28, .ior, 1), (29, .istore_n 2, 1), (30, .iinc 3 1, 3), (33, .goto (-29), 3), (36, .iload_n 2, 1), (37, .ireturn, 1)]
theorem dtX2_hangingOn_0_0_ok : dcAll cX2_hangingOn dtX2_hangingOn_0_0 = true := sorry
theorem dX2_hangingOn_0 : decode cX2_hangingOn 0 = .ok (.iconst 0, 1) := sorry
theorem dX2_hangingOn_1 : decode cX2_hangingOn 1 = .ok (.istore_n 2, 1) := sorry
theorem dX2_hangingOn_2 : decode cX2_hangingOn 2 = .ok (.iconst 0, 1) := sorry
theorem dX2_hangingOn_3 : decode cX2_hangingOn 3 = .ok (.istore_n 3, 1) := sorry
theorem dX2_hangingOn_4 : decode cX2_hangingOn 4 = .ok (.iload_n 3, 1) := sorry
theorem dX2_hangingOn_5 : decode cX2_hangingOn 5 = .ok (.aload_n 0, 1) := sorry
theorem dX2_hangingOn_6 : decode cX2_hangingOn 6 = .ok (.getfield 18, 3) := sorry
theorem dX2_hangingOn_9 : decode cX2_hangingOn 9 = .ok (.if_icmp .ge 27, 3) := sorry
theorem dX2_hangingOn_12 : decode cX2_hangingOn 12 = .ok (.iload_n 2, 1) := sorry
theorem dX2_hangingOn_13 : decode cX2_hangingOn 13 = .ok (.aload_n 0, 1) := sorry
theorem dX2_hangingOn_14 : decode cX2_hangingOn 14 = .ok (.getfield 11, 3) := sorry
theorem dX2_hangingOn_17 : decode cX2_hangingOn 17 = .ok (.iload_n 3, 1) := sorry
theorem dX2_hangingOn_18 : decode cX2_hangingOn 18 = .ok (.aaload, 1) := sorry
theorem dX2_hangingOn_19 : decode cX2_hangingOn 19 = .ok (.getfield 26, 3) := sorry
theorem dX2_hangingOn_22 : decode cX2_hangingOn 22 = .ok (.iload_n 1, 1) := sorry
theorem dX2_hangingOn_23 : decode cX2_hangingOn 23 = .ok (.iushr, 1) := sorry
theorem dX2_hangingOn_24 : decode cX2_hangingOn 24 = .ok (.iconst 1, 1) := sorry
theorem dX2_hangingOn_25 : decode cX2_hangingOn 25 = .ok (.iand, 1) := sorry
theorem dX2_hangingOn_26 : decode cX2_hangingOn 26 = .ok (.iload_n 3, 1) := sorry
theorem dX2_hangingOn_27 : decode cX2_hangingOn 27 = .ok (.ishl, 1) := sorry
theorem dX2_hangingOn_28 : decode cX2_hangingOn 28 = .ok (.ior, 1) := sorry
theorem dX2_hangingOn_29 : decode cX2_hangingOn 29 = .ok (.istore_n 2, 1) := sorry
theorem dX2_hangingOn_30 : decode cX2_hangingOn 30 = .ok (.iinc 3 1, 3) := sorry
theorem dX2_hangingOn_33 : decode cX2_hangingOn 33 = .ok (.goto (-29), 3) := sorry
theorem dX2_hangingOn_36 : decode cX2_hangingOn 36 = .ok (.iload_n 2, 1) := sorry
theorem dX2_hangingOn_37 : decode cX2_hangingOn 37 = .ok (.ireturn, 1) := sorry
set_option maxRecDepth 20000 in
theorem ggX2_keepLine_X2_hang : GoodIn wsX2_keepLine wsX2_hang := sorry
set_option maxRecDepth 20000 in
theorem gX2_keepLine_X2_hang : GoodIn wsX2_keepLine (wsV RX2 38 RX2 yX2_hang wsX2_hang) := sorry
def dtX2_keepLine_0_0 : List (Nat × Instr × Nat) := [(0, .aload_n 0, 1), (1, .getfield 11, 3), (4, .aload_n 0, 1), (5, .getfield 18, 3), (8, .aaload, 1), (9, .astore_n 1, 1), (10, .aload_n 1, 1), (11, .getfield 29, 3), (14, .ifCond .ne 13, 3), (17, .aload_n 0, 1), (18, .dup, 1), (19, .getfield 32, 3), (22, .iconst 1, 1), (23, .iadd, 1), (24, .putfield 32, 3), (27, .aload_n 0, 1), (28, .aload_n 1, 1), (29, .aload_n 1, 1), (30, .getfield 35, 3), (33, .invokevirtual 38, 3), (36, .aload_n 0, 1), (37, .aload_n 1, 1), (38, .aload_n 1, 1), (39, .getfield 42, 3), (42, .invokevirtual 38, 3), (45, .aload_n 0, 1), (46, .dup, 1), (47, .getfield 18, 3), (50, .iconst 1, 1), (51, .iadd, 1), (52, .putfield 18, 3), (55, .return_, 1)]
theorem dtX2_keepLine_0_0_ok : dcAll cX2_keepLine dtX2_keepLine_0_0 = true := sorry
theorem dX2_keepLine_0 : decode cX2_keepLine 0 = .ok (.aload_n 0, 1) := sorry
theorem dX2_keepLine_1 : decode cX2_keepLine 1 = .ok (.getfield 11, 3) := sorry
theorem dX2_keepLine_4 : decode cX2_keepLine 4 = .ok (.aload_n 0, 1) := sorry
theorem dX2_keepLine_5 : decode cX2_keepLine 5 = .ok (.getfield 18, 3) := sorry
theorem dX2_keepLine_8 : decode cX2_keepLine 8 = .ok (.aaload, 1) := sorry
theorem dX2_keepLine_9 : decode cX2_keepLine 9 = .ok (.astore_n 1, 1) := sorry
theorem dX2_keepLine_10 : decode cX2_keepLine 10 = .ok (.aload_n 1, 1) := sorry
theorem dX2_keepLine_11 : decode cX2_keepLine 11 = .ok (.getfield 29, 3) := sorry
theorem dX2_keepLine_14 : decode cX2_keepLine 14 = .ok (.ifCond .ne 13, 3) := sorry
theorem dX2_keepLine_17 : decode cX2_keepLine 17 = .ok (.aload_n 0, 1) := sorry
theorem dX2_keepLine_18 : decode cX2_keepLine 18 = .ok (.dup, 1) := sorry
theorem dX2_keepLine_19 : decode cX2_keepLine 19 = .ok (.getfield 32, 3) := sorry
theorem dX2_keepLine_22 : decode cX2_keepLine 22 = .ok (.iconst 1, 1) := sorry
theorem dX2_keepLine_23 : decode cX2_keepLine 23 = .ok (.iadd, 1) := sorry
theorem dX2_keepLine_24 : decode cX2_keepLine 24 = .ok (.putfield 32, 3) := sorry
theorem dX2_keepLine_27 : decode cX2_keepLine 27 = .ok (.aload_n 0, 1) := sorry
theorem dX2_keepLine_28 : decode cX2_keepLine 28 = .ok (.aload_n 1, 1) := sorry
theorem dX2_keepLine_29 : decode cX2_keepLine 29 = .ok (.aload_n 1, 1) := sorry
theorem dX2_keepLine_30 : decode cX2_keepLine 30 = .ok (.getfield 35, 3) := sorry
theorem dX2_keepLine_33 : decode cX2_keepLine 33 = .ok (.invokevirtual 38, 3) := sorry
theorem dX2_keepLine_36 : decode cX2_keepLine 36 = .ok (.aload_n 0, 1) := sorry
theorem dX2_keepLine_37 : decode cX2_keepLine 37 = .ok (.aload_n 1, 1) := sorry
theorem dX2_keepLine_38 : decode cX2_keepLine 38 = .ok (.aload_n 1, 1) := sorry
theorem dX2_keepLine_39 : decode cX2_keepLine 39 = .ok (.getfield 42, 3) := sorry
theorem dX2_keepLine_42 : decode cX2_keepLine 42 = .ok (.invokevirtual 38, 3) := sorry
theorem dX2_keepLine_45 : decode cX2_keepLine 45 = .ok (.aload_n 0, 1) := sorry
theorem dX2_keepLine_46 : decode cX2_keepLine 46 = .ok (.dup, 1) := sorry
theorem dX2_keepLine_47 : decode cX2_keepLine 47 = .ok (.getfield 18, 3) := sorry
theorem dX2_keepLine_50 : decode cX2_keepLine 50 = .ok (.iconst 1, 1) := sorry
theorem dX2_keepLine_51 : decode cX2_keepLine 51 = .ok (.iadd, 1) := sorry
theorem dX2_keepLine_52 : decode cX2_keepLine 52 = .ok (.putfield 18, 3) := sorry
theorem dX2_keepLine_55 : decode cX2_keepLine 55 = .ok (.return_, 1) := sorry
def dtX2_hang_0_0 : List (Nat × Instr × Nat) := [(0, .iload_n 2, 1), (1, .iconst (-1), 1), (2, .if_icmp .eq 47, 3), (5, .aload_n 1, 1), (6, .dup, 1), (7, .getfield 26, 3), (10, .aload_n 0, 1), (11, .getfield 11, 3), (14, .iload_n 2, 1), (15, .aaload, 1), (16, .getfield 26, 3), (19, .iconst 1, 1), (20, .iload_n 2, 1), (21, .ishl, 1), (22, .ior, 1), (23, .ior, 1), (24, .putfield 26, 3), (27, .aload_n 1, 1), (28, .aload_n 1, 1), (29, .getfield 45, 3), (32, .aload_n 0, 1), (33, .getfield 11, 3), (36, .iload_n 2, 1), (37, .aaload, 1), (38, .getfield 45, 3), (41, .iconst 1, 1), (42, .iadd, 1), (43, .invokestatic 48, 3)]
theorem dtX2_hang_0_0_ok : dcAll cX2_hang dtX2_hang_0_0 = true := sorry
theorem dX2_hang_0 : decode cX2_hang 0 = .ok (.iload_n 2, 1) := sorry
theorem dX2_hang_1 : decode cX2_hang 1 = .ok (.iconst (-1), 1) := sorry
theorem dX2_hang_2 : decode cX2_hang 2 = .ok (.if_icmp .eq 47, 3) := sorry
theorem dX2_hang_5 : decode cX2_hang 5 = .ok (.aload_n 1, 1) := sorry
theorem dX2_hang_6 : decode cX2_hang 6 = .ok (.dup, 1) := sorry
theorem dX2_hang_7 : decode cX2_hang 7 = .ok (.getfield 26, 3) := sorry
theorem dX2_hang_10 : decode cX2_hang 10 = .ok (.aload_n 0, 1) := sorry
theorem dX2_hang_11 : decode cX2_hang 11 = .ok (.getfield 11, 3) := sorry
theorem dX2_hang_14 : decode cX2_hang 14 = .ok (.iload_n 2, 1) := sorry
theorem dX2_hang_15 : decode cX2_hang 15 = .ok (.aaload, 1) := sorry
theorem dX2_hang_16 : decode cX2_hang 16 = .ok (.getfield 26, 3) := sorry
theorem dX2_hang_19 : decode cX2_hang 19 = .ok (.iconst 1, 1) := sorry
theorem dX2_hang_20 : decode cX2_hang 20 = .ok (.iload_n 2, 1) := sorry
theorem dX2_hang_21 : decode cX2_hang 21 = .ok (.ishl, 1) := sorry
theorem dX2_hang_22 : decode cX2_hang 22 = .ok (.ior, 1) := sorry
theorem dX2_hang_23 : decode cX2_hang 23 = .ok (.ior, 1) := sorry
theorem dX2_hang_24 : decode cX2_hang 24 = .ok (.putfield 26, 3) := sorry
theorem dX2_hang_27 : decode cX2_hang 27 = .ok (.aload_n 1, 1) := sorry
theorem dX2_hang_28 : decode cX2_hang 28 = .ok (.aload_n 1, 1) := sorry
theorem dX2_hang_29 : decode cX2_hang 29 = .ok (.getfield 45, 3) := sorry
theorem dX2_hang_32 : decode cX2_hang 32 = .ok (.aload_n 0, 1) := sorry
theorem dX2_hang_33 : decode cX2_hang 33 = .ok (.getfield 11, 3) := sorry
theorem dX2_hang_36 : decode cX2_hang 36 = .ok (.iload_n 2, 1) := sorry
theorem dX2_hang_37 : decode cX2_hang 37 = .ok (.aaload, 1) := sorry
theorem dX2_hang_38 : decode cX2_hang 38 = .ok (.getfield 45, 3) := sorry
theorem dX2_hang_41 : decode cX2_hang 41 = .ok (.iconst 1, 1) := sorry
theorem dX2_hang_42 : decode cX2_hang 42 = .ok (.iadd, 1) := sorry
theorem dX2_hang_43 : decode cX2_hang 43 = .ok (.invokestatic 48, 3) := sorry

end

section
def dtX2_hang_46_0 : List (Nat × Instr × Nat) := [(46, .putfield 45, 3), (49, .return_, 1)]
theorem dtX2_hang_46_0_ok : dcAll cX2_hang dtX2_hang_46_0 = true := sorry
theorem dX2_hang_46 : decode cX2_hang 46 = .ok (.putfield 45, 3) := sorry
theorem dX2_hang_49 : decode cX2_hang 49 = .ok (.return_, 1) := sorry
def dtX3_init_0_0 : List (Nat × Instr × Nat) := [(0, .aload_n 0, 1), (1, .invokespecial 3, 3), (4, .aload_n 0, 1), (5, .iconst 5, 1), (6, .newarray .int, 2), (8, .putfield 11, 3), (11, .aload_n 0, 1), (12, .bipush 8, 2), (14, .newarray .int, 2), (16, .putfield 17, 3), (19, .aload_n 0, 1), (20, .sipush 480, 3), (23, .newarray .int, 2), (25, .putfield 20, 3), (28, .return_, 1)]
theorem dtX3_init_0_0_ok : dcAll cX3_init dtX3_init_0_0 = true := sorry
theorem dX3_init_0 : decode cX3_init 0 = .ok (.aload_n 0, 1) := sorry
theorem dX3_init_1 : decode cX3_init 1 = .ok (.invokespecial 3, 3) := sorry
theorem dX3_init_4 : decode cX3_init 4 = .ok (.aload_n 0, 1) := sorry
theorem dX3_init_5 : decode cX3_init 5 = .ok (.iconst 5, 1) := sorry
theorem dX3_init_6 : decode cX3_init 6 = .ok (.newarray .int, 2) := sorry
theorem dX3_init_8 : decode cX3_init 8 = .ok (.putfield 11, 3) := sorry
theorem dX3_init_11 : decode cX3_init 11 = .ok (.aload_n 0, 1) := sorry
theorem dX3_init_12 : decode cX3_init 12 = .ok (.bipush 8, 2) := sorry
theorem dX3_init_14 : decode cX3_init 14 = .ok (.newarray .int, 2) := sorry
theorem dX3_init_16 : decode cX3_init 16 = .ok (.putfield 17, 3) := sorry
theorem dX3_init_19 : decode cX3_init 19 = .ok (.aload_n 0, 1) := sorry
theorem dX3_init_20 : decode cX3_init 20 = .ok (.sipush 480, 3) := sorry
theorem dX3_init_23 : decode cX3_init 23 = .ok (.newarray .int, 2) := sorry
theorem dX3_init_25 : decode cX3_init 25 = .ok (.putfield 20, 3) := sorry
theorem dX3_init_28 : decode cX3_init 28 = .ok (.return_, 1) := sorry
set_option maxRecDepth 20000 in
theorem ggX3_reckon_X3_select : GoodIn wsX3_reckon wsX3_select := sorry
set_option maxRecDepth 20000 in
theorem gX3_reckon_X3_select : GoodIn wsX3_reckon (wsV RX3 38 RX3 yX3_select wsX3_select) := sorry
set_option maxRecDepth 20000 in
theorem ggX3_reckon_X3_project : GoodIn wsX3_reckon wsX3_project := sorry
set_option maxRecDepth 20000 in
theorem gX3_reckon_X3_project : GoodIn wsX3_reckon (wsV RX3 42 RX3 yX3_project wsX3_project) := sorry
set_option maxRecDepth 20000 in
theorem ggX3_reckon_X3_join : GoodIn wsX3_reckon wsX3_join := sorry
set_option maxRecDepth 20000 in
theorem gX3_reckon_X3_join : GoodIn wsX3_reckon (wsV RX3 45 RX3 yX3_join wsX3_join) := sorry
set_option maxRecDepth 20000 in
theorem ggX3_reckon_X4_gather : GoodIn wsX3_reckon wsX4_gather := sorry
set_option maxRecDepth 20000 in
theorem gX3_reckon_X4_gather : GoodIn wsX3_reckon (wsV RX3 49 RX4 yX4_gather wsX4_gather) := sorry
set_option maxRecDepth 20000 in
theorem ggX3_reckon_X3_distinct : GoodIn wsX3_reckon wsX3_distinct := sorry
set_option maxRecDepth 20000 in
theorem gX3_reckon_X3_distinct : GoodIn wsX3_reckon (wsV RX3 53 RX3 yX3_distinct wsX3_distinct) := sorry
set_option maxRecDepth 20000 in
theorem ggX3_reckon_X3_group : GoodIn wsX3_reckon wsX3_group := sorry
set_option maxRecDepth 20000 in
theorem gX3_reckon_X3_group : GoodIn wsX3_reckon (wsV RX3 57 RX3 yX3_group wsX3_group) := sorry
set_option maxRecDepth 20000 in
theorem ggX3_reckon_X3_ring : GoodIn wsX3_reckon wsX3_ring := sorry
set_option maxRecDepth 20000 in
theorem gX3_reckon_X3_ring : GoodIn wsX3_reckon (wsV RX3 60 RX3 yX3_ring wsX3_ring) := sorry
def dtX3_reckon_0_0 : List (Nat × Instr × Nat) := [(0, .aload_n 3, 1), (1, .iconst 0, 1), (2, .putfield 23, 3), (5, .aload_n 1, 1), (6, .getfield 27, 3), (9, .iconst (-1), 1), (10, .if_icmp .ne 5, 3), (13, .iconst 0, 1), (14, .ireturn, 1), (15, .aload_n 2, 1), (16, .aload_n 1, 1), (17, .getfield 27, 3), (20, .aaload, 1), (21, .astore 4, 2), (23, .aload_n 1, 1), (24, .getfield 32, 3), (27, .iconst (-1), 1), (28, .if_icmp .ne 8, 3), (31, .aload 4, 2), (33, .goto 9, 3), (36, .aload_n 2, 1), (37, .aload_n 1, 1), (38, .getfield 32, 3), (41, .aaload, 1), (42, .astore 5, 2), (44, .aload_n 1, 1), (45, .getfield 35, 3), (48, .tableswitch 128 1 7 #[44, 53, 62, 73, 92, 111, 119], 44), (92, .aload_n 0, 1), (93, .aload_n 1, 1), (94, .aload 4, 2), (96, .aload_n 3, 1)]
theorem dtX3_reckon_0_0_ok : dcAll cX3_reckon dtX3_reckon_0_0 = true := sorry
theorem dX3_reckon_0 : decode cX3_reckon 0 = .ok (.aload_n 3, 1) := sorry
theorem dX3_reckon_1 : decode cX3_reckon 1 = .ok (.iconst 0, 1) := sorry
theorem dX3_reckon_2 : decode cX3_reckon 2 = .ok (.putfield 23, 3) := sorry
theorem dX3_reckon_5 : decode cX3_reckon 5 = .ok (.aload_n 1, 1) := sorry
theorem dX3_reckon_6 : decode cX3_reckon 6 = .ok (.getfield 27, 3) := sorry
theorem dX3_reckon_9 : decode cX3_reckon 9 = .ok (.iconst (-1), 1) := sorry
theorem dX3_reckon_10 : decode cX3_reckon 10 = .ok (.if_icmp .ne 5, 3) := sorry
theorem dX3_reckon_13 : decode cX3_reckon 13 = .ok (.iconst 0, 1) := sorry
theorem dX3_reckon_14 : decode cX3_reckon 14 = .ok (.ireturn, 1) := sorry
theorem dX3_reckon_15 : decode cX3_reckon 15 = .ok (.aload_n 2, 1) := sorry
theorem dX3_reckon_16 : decode cX3_reckon 16 = .ok (.aload_n 1, 1) := sorry
theorem dX3_reckon_17 : decode cX3_reckon 17 = .ok (.getfield 27, 3) := sorry
theorem dX3_reckon_20 : decode cX3_reckon 20 = .ok (.aaload, 1) := sorry
theorem dX3_reckon_21 : decode cX3_reckon 21 = .ok (.astore 4, 2) := sorry
theorem dX3_reckon_23 : decode cX3_reckon 23 = .ok (.aload_n 1, 1) := sorry
theorem dX3_reckon_24 : decode cX3_reckon 24 = .ok (.getfield 32, 3) := sorry
theorem dX3_reckon_27 : decode cX3_reckon 27 = .ok (.iconst (-1), 1) := sorry
theorem dX3_reckon_28 : decode cX3_reckon 28 = .ok (.if_icmp .ne 8, 3) := sorry
theorem dX3_reckon_31 : decode cX3_reckon 31 = .ok (.aload 4, 2) := sorry
theorem dX3_reckon_33 : decode cX3_reckon 33 = .ok (.goto 9, 3) := sorry
theorem dX3_reckon_36 : decode cX3_reckon 36 = .ok (.aload_n 2, 1) := sorry
theorem dX3_reckon_37 : decode cX3_reckon 37 = .ok (.aload_n 1, 1) := sorry
theorem dX3_reckon_38 : decode cX3_reckon 38 = .ok (.getfield 32, 3) := sorry
theorem dX3_reckon_41 : decode cX3_reckon 41 = .ok (.aaload, 1) := sorry
theorem dX3_reckon_42 : decode cX3_reckon 42 = .ok (.astore 5, 2) := sorry
theorem dX3_reckon_44 : decode cX3_reckon 44 = .ok (.aload_n 1, 1) := sorry
theorem dX3_reckon_45 : decode cX3_reckon 45 = .ok (.getfield 35, 3) := sorry
theorem dX3_reckon_48 : decode cX3_reckon 48 = .ok (.tableswitch 128 1 7 #[44, 53, 62, 73, 92, 111, 119], 44) := sorry
theorem dX3_reckon_92 : decode cX3_reckon 92 = .ok (.aload_n 0, 1) := sorry
theorem dX3_reckon_93 : decode cX3_reckon 93 = .ok (.aload_n 1, 1) := sorry
theorem dX3_reckon_94 : decode cX3_reckon 94 = .ok (.aload 4, 2) := sorry
theorem dX3_reckon_96 : decode cX3_reckon 96 = .ok (.aload_n 3, 1) := sorry
def dtX3_reckon_97_1 : List (Nat × Instr × Nat) := [(97, .invokevirtual 38, 3), (100, .ireturn, 1), (101, .aload_n 0, 1), (102, .aload_n 1, 1), (103, .aload 4, 2), (105, .aload_n 3, 1), (106, .invokevirtual 42, 3), (109, .ireturn, 1), (110, .aload_n 0, 1), (111, .aload_n 1, 1), (112, .aload 4, 2), (114, .aload 5, 2), (116, .aload_n 3, 1), (117, .invokevirtual 45, 3), (120, .ireturn, 1), (121, .aload_n 3, 1), (122, .aload 4, 2), (124, .aload 5, 2), (126, .iconst 1, 1), (127, .invokevirtual 49, 3), (130, .ifCond .eq 7, 3), (133, .iconst 0, 1), (134, .goto 5, 3), (137, .bipush (-3), 2), (139, .ireturn, 1), (140, .aload_n 3, 1), (141, .aload 4, 2), (143, .aload 5, 2), (145, .iconst (-1), 1), (146, .invokevirtual 49, 3), (149, .ifCond .eq 7, 3), (152, .iconst 0, 1)]
theorem dtX3_reckon_97_1_ok : dcAll cX3_reckon dtX3_reckon_97_1 = true := sorry
theorem dX3_reckon_97 : decode cX3_reckon 97 = .ok (.invokevirtual 38, 3) := sorry
theorem dX3_reckon_100 : decode cX3_reckon 100 = .ok (.ireturn, 1) := sorry
theorem dX3_reckon_101 : decode cX3_reckon 101 = .ok (.aload_n 0, 1) := sorry
theorem dX3_reckon_102 : decode cX3_reckon 102 = .ok (.aload_n 1, 1) := sorry
theorem dX3_reckon_103 : decode cX3_reckon 103 = .ok (.aload 4, 2) := sorry
theorem dX3_reckon_105 : decode cX3_reckon 105 = .ok (.aload_n 3, 1) := sorry
theorem dX3_reckon_106 : decode cX3_reckon 106 = .ok (.invokevirtual 42, 3) := sorry
theorem dX3_reckon_109 : decode cX3_reckon 109 = .ok (.ireturn, 1) := sorry
theorem dX3_reckon_110 : decode cX3_reckon 110 = .ok (.aload_n 0, 1) := sorry
theorem dX3_reckon_111 : decode cX3_reckon 111 = .ok (.aload_n 1, 1) := sorry
theorem dX3_reckon_112 : decode cX3_reckon 112 = .ok (.aload 4, 2) := sorry
theorem dX3_reckon_114 : decode cX3_reckon 114 = .ok (.aload 5, 2) := sorry
theorem dX3_reckon_116 : decode cX3_reckon 116 = .ok (.aload_n 3, 1) := sorry
theorem dX3_reckon_117 : decode cX3_reckon 117 = .ok (.invokevirtual 45, 3) := sorry
theorem dX3_reckon_120 : decode cX3_reckon 120 = .ok (.ireturn, 1) := sorry
theorem dX3_reckon_121 : decode cX3_reckon 121 = .ok (.aload_n 3, 1) := sorry
theorem dX3_reckon_122 : decode cX3_reckon 122 = .ok (.aload 4, 2) := sorry
theorem dX3_reckon_124 : decode cX3_reckon 124 = .ok (.aload 5, 2) := sorry
theorem dX3_reckon_126 : decode cX3_reckon 126 = .ok (.iconst 1, 1) := sorry
theorem dX3_reckon_127 : decode cX3_reckon 127 = .ok (.invokevirtual 49, 3) := sorry
theorem dX3_reckon_130 : decode cX3_reckon 130 = .ok (.ifCond .eq 7, 3) := sorry
theorem dX3_reckon_133 : decode cX3_reckon 133 = .ok (.iconst 0, 1) := sorry
theorem dX3_reckon_134 : decode cX3_reckon 134 = .ok (.goto 5, 3) := sorry
theorem dX3_reckon_137 : decode cX3_reckon 137 = .ok (.bipush (-3), 2) := sorry
theorem dX3_reckon_139 : decode cX3_reckon 139 = .ok (.ireturn, 1) := sorry
theorem dX3_reckon_140 : decode cX3_reckon 140 = .ok (.aload_n 3, 1) := sorry
theorem dX3_reckon_141 : decode cX3_reckon 141 = .ok (.aload 4, 2) := sorry
theorem dX3_reckon_143 : decode cX3_reckon 143 = .ok (.aload 5, 2) := sorry
theorem dX3_reckon_145 : decode cX3_reckon 145 = .ok (.iconst (-1), 1) := sorry
theorem dX3_reckon_146 : decode cX3_reckon 146 = .ok (.invokevirtual 49, 3) := sorry
theorem dX3_reckon_149 : decode cX3_reckon 149 = .ok (.ifCond .eq 7, 3) := sorry
theorem dX3_reckon_152 : decode cX3_reckon 152 = .ok (.iconst 0, 1) := sorry
def dtX3_reckon_153_2 : List (Nat × Instr × Nat) := [(153, .goto 5, 3), (156, .bipush (-3), 2), (158, .ireturn, 1), (159, .aload_n 0, 1), (160, .aload 4, 2), (162, .aload_n 3, 1), (163, .invokevirtual 53, 3), (166, .ireturn, 1), (167, .aload_n 0, 1), (168, .aload_n 1, 1), (169, .aload 4, 2), (171, .aload_n 3, 1), (172, .invokevirtual 57, 3), (175, .ireturn, 1), (176, .aload_n 0, 1), (177, .aload_n 1, 1), (178, .aload 4, 2), (180, .aload 5, 2), (182, .aload_n 3, 1), (183, .invokevirtual 60, 3), (186, .ireturn, 1)]
theorem dtX3_reckon_153_2_ok : dcAll cX3_reckon dtX3_reckon_153_2 = true := sorry
theorem dX3_reckon_153 : decode cX3_reckon 153 = .ok (.goto 5, 3) := sorry
theorem dX3_reckon_156 : decode cX3_reckon 156 = .ok (.bipush (-3), 2) := sorry
theorem dX3_reckon_158 : decode cX3_reckon 158 = .ok (.ireturn, 1) := sorry
theorem dX3_reckon_159 : decode cX3_reckon 159 = .ok (.aload_n 0, 1) := sorry
theorem dX3_reckon_160 : decode cX3_reckon 160 = .ok (.aload 4, 2) := sorry
theorem dX3_reckon_162 : decode cX3_reckon 162 = .ok (.aload_n 3, 1) := sorry
theorem dX3_reckon_163 : decode cX3_reckon 163 = .ok (.invokevirtual 53, 3) := sorry
theorem dX3_reckon_166 : decode cX3_reckon 166 = .ok (.ireturn, 1) := sorry
theorem dX3_reckon_167 : decode cX3_reckon 167 = .ok (.aload_n 0, 1) := sorry
theorem dX3_reckon_168 : decode cX3_reckon 168 = .ok (.aload_n 1, 1) := sorry
theorem dX3_reckon_169 : decode cX3_reckon 169 = .ok (.aload 4, 2) := sorry
theorem dX3_reckon_171 : decode cX3_reckon 171 = .ok (.aload_n 3, 1) := sorry
theorem dX3_reckon_172 : decode cX3_reckon 172 = .ok (.invokevirtual 57, 3) := sorry
theorem dX3_reckon_175 : decode cX3_reckon 175 = .ok (.ireturn, 1) := sorry
theorem dX3_reckon_176 : decode cX3_reckon 176 = .ok (.aload_n 0, 1) := sorry
theorem dX3_reckon_177 : decode cX3_reckon 177 = .ok (.aload_n 1, 1) := sorry
theorem dX3_reckon_178 : decode cX3_reckon 178 = .ok (.aload 4, 2) := sorry
theorem dX3_reckon_180 : decode cX3_reckon 180 = .ok (.aload 5, 2) := sorry
theorem dX3_reckon_182 : decode cX3_reckon 182 = .ok (.aload_n 3, 1) := sorry
theorem dX3_reckon_183 : decode cX3_reckon 183 = .ok (.invokevirtual 60, 3) := sorry
theorem dX3_reckon_186 : decode cX3_reckon 186 = .ok (.ireturn, 1) := sorry
def dtX3_clearKey_0_0 : List (Nat × Instr × Nat) := [(0, .iconst 0, 1), (1, .istore_n 1, 1), (2, .iload_n 1, 1), (3, .aload_n 0, 1), (4, .getfield 11, 3), (7, .arraylength, 1), (8, .if_icmp .ge 16, 3), (11, .aload_n 0, 1), (12, .getfield 11, 3), (15, .iload_n 1, 1), (16, .iconst 0, 1), (17, .iastore, 1), (18, .iinc 1 1, 3), (21, .goto (-19), 3), (24, .return_, 1)]
theorem dtX3_clearKey_0_0_ok : dcAll cX3_clearKey dtX3_clearKey_0_0 = true := sorry
theorem dX3_clearKey_0 : decode cX3_clearKey 0 = .ok (.iconst 0, 1) := sorry
theorem dX3_clearKey_1 : decode cX3_clearKey 1 = .ok (.istore_n 1, 1) := sorry
theorem dX3_clearKey_2 : decode cX3_clearKey 2 = .ok (.iload_n 1, 1) := sorry
theorem dX3_clearKey_3 : decode cX3_clearKey 3 = .ok (.aload_n 0, 1) := sorry
theorem dX3_clearKey_4 : decode cX3_clearKey 4 = .ok (.getfield 11, 3) := sorry
theorem dX3_clearKey_7 : decode cX3_clearKey 7 = .ok (.arraylength, 1) := sorry
theorem dX3_clearKey_8 : decode cX3_clearKey 8 = .ok (.if_icmp .ge 16, 3) := sorry
theorem dX3_clearKey_11 : decode cX3_clearKey 11 = .ok (.aload_n 0, 1) := sorry
theorem dX3_clearKey_12 : decode cX3_clearKey 12 = .ok (.getfield 11, 3) := sorry
theorem dX3_clearKey_15 : decode cX3_clearKey 15 = .ok (.iload_n 1, 1) := sorry
theorem dX3_clearKey_16 : decode cX3_clearKey 16 = .ok (.iconst 0, 1) := sorry
theorem dX3_clearKey_17 : decode cX3_clearKey 17 = .ok (.iastore, 1) := sorry
theorem dX3_clearKey_18 : decode cX3_clearKey 18 = .ok (.iinc 1 1, 3) := sorry
theorem dX3_clearKey_21 : decode cX3_clearKey 21 = .ok (.goto (-19), 3) := sorry
theorem dX3_clearKey_24 : decode cX3_clearKey 24 = .ok (.return_, 1) := sorry
set_option maxRecDepth 20000 in
theorem ggX3_select_X0_holds : GoodIn wsX3_select wsX0_holds := sorry
set_option maxRecDepth 20000 in
theorem gX3_select_X0_holds : GoodIn wsX3_select (wsV RX3 66 RX0 yX0_holds wsX0_holds) := sorry
set_option maxRecDepth 20000 in
theorem ggX3_select_X4_amount : GoodIn wsX3_select wsX4_amount := sorry
set_option maxRecDepth 20000 in
theorem gX3_select_X4_amount : GoodIn wsX3_select (wsV RX3 70 RX4 yX4_amount wsX4_amount) := sorry
set_option maxRecDepth 20000 in
theorem ggX3_select_X4_append : GoodIn wsX3_select wsX4_append := sorry
set_option maxRecDepth 20000 in
theorem gX3_select_X4_append : GoodIn wsX3_select (wsV RX3 74 RX4 yX4_append wsX4_append) := sorry
def dtX3_select_0_0 : List (Nat × Instr × Nat) := [(0, .iconst 0, 1), (1, .istore 4, 2), (3, .iload 4, 2), (5, .aload_n 2, 1), (6, .getfield 23, 3), (9, .if_icmp .ge 44, 3), (12, .aload_n 1, 1), (13, .aload_n 2, 1), (14, .getfield 63, 3), (17, .iload 4, 2), (19, .bipush 6, 2), (21, .imul, 1), (22, .invokevirtual 66, 3), (25, .ifCond .eq 22, 3), (28, .aload_n 3, 1), (29, .aload_n 2, 1), (30, .iload 4, 2), (32, .aload_n 2, 1), (33, .iload 4, 2), (35, .invokevirtual 70, 3), (38, .invokevirtual 74, 3), (41, .ifCond .ne 6, 3), (44, .bipush (-3), 2), (46, .ireturn, 1), (47, .iinc 4 1, 3), (50, .goto (-47), 3), (53, .iconst 0, 1), (54, .ireturn, 1)]
theorem dtX3_select_0_0_ok : dcAll cX3_select dtX3_select_0_0 = true := sorry
theorem dX3_select_0 : decode cX3_select 0 = .ok (.iconst 0, 1) := sorry
theorem dX3_select_1 : decode cX3_select 1 = .ok (.istore 4, 2) := sorry
theorem dX3_select_3 : decode cX3_select 3 = .ok (.iload 4, 2) := sorry
theorem dX3_select_5 : decode cX3_select 5 = .ok (.aload_n 2, 1) := sorry
theorem dX3_select_6 : decode cX3_select 6 = .ok (.getfield 23, 3) := sorry
theorem dX3_select_9 : decode cX3_select 9 = .ok (.if_icmp .ge 44, 3) := sorry
theorem dX3_select_12 : decode cX3_select 12 = .ok (.aload_n 1, 1) := sorry
theorem dX3_select_13 : decode cX3_select 13 = .ok (.aload_n 2, 1) := sorry
theorem dX3_select_14 : decode cX3_select 14 = .ok (.getfield 63, 3) := sorry
theorem dX3_select_17 : decode cX3_select 17 = .ok (.iload 4, 2) := sorry
theorem dX3_select_19 : decode cX3_select 19 = .ok (.bipush 6, 2) := sorry
theorem dX3_select_21 : decode cX3_select 21 = .ok (.imul, 1) := sorry
theorem dX3_select_22 : decode cX3_select 22 = .ok (.invokevirtual 66, 3) := sorry
theorem dX3_select_25 : decode cX3_select 25 = .ok (.ifCond .eq 22, 3) := sorry
theorem dX3_select_28 : decode cX3_select 28 = .ok (.aload_n 3, 1) := sorry
theorem dX3_select_29 : decode cX3_select 29 = .ok (.aload_n 2, 1) := sorry
theorem dX3_select_30 : decode cX3_select 30 = .ok (.iload 4, 2) := sorry
theorem dX3_select_32 : decode cX3_select 32 = .ok (.aload_n 2, 1) := sorry
theorem dX3_select_33 : decode cX3_select 33 = .ok (.iload 4, 2) := sorry
theorem dX3_select_35 : decode cX3_select 35 = .ok (.invokevirtual 70, 3) := sorry
theorem dX3_select_38 : decode cX3_select 38 = .ok (.invokevirtual 74, 3) := sorry
theorem dX3_select_41 : decode cX3_select 41 = .ok (.ifCond .ne 6, 3) := sorry
theorem dX3_select_44 : decode cX3_select 44 = .ok (.bipush (-3), 2) := sorry
theorem dX3_select_46 : decode cX3_select 46 = .ok (.ireturn, 1) := sorry
theorem dX3_select_47 : decode cX3_select 47 = .ok (.iinc 4 1, 3) := sorry
theorem dX3_select_50 : decode cX3_select 50 = .ok (.goto (-47), 3) := sorry
theorem dX3_select_53 : decode cX3_select 53 = .ok (.iconst 0, 1) := sorry
theorem dX3_select_54 : decode cX3_select 54 = .ok (.ireturn, 1) := sorry
set_option maxRecDepth 20000 in
theorem ggX3_project_X3_clearKey : GoodIn wsX3_project wsX3_clearKey := sorry
set_option maxRecDepth 20000 in
theorem gX3_project_X3_clearKey : GoodIn wsX3_project (wsV RX3 78 RX3 yX3_clearKey wsX3_clearKey) := sorry
set_option maxRecDepth 20000 in
theorem ggX3_project_X0_fillTerms : GoodIn wsX3_project wsX0_fillTerms := sorry
set_option maxRecDepth 20000 in
theorem gX3_project_X0_fillTerms : GoodIn wsX3_project (wsV RX3 81 RX0 yX0_fillTerms wsX0_fillTerms) := sorry
set_option maxRecDepth 20000 in
theorem ggX3_project_X4_amount : GoodIn wsX3_project wsX4_amount := sorry
set_option maxRecDepth 20000 in
theorem gX3_project_X4_amount : GoodIn wsX3_project (wsV RX3 70 RX4 yX4_amount wsX4_amount) := sorry
set_option maxRecDepth 20000 in
theorem ggX3_project_X4_addAmount : GoodIn wsX3_project wsX4_addAmount := sorry
set_option maxRecDepth 20000 in
theorem gX3_project_X4_addAmount : GoodIn wsX3_project (wsV RX3 85 RX4 yX4_addAmount wsX4_addAmount) := sorry
def dtX3_project_0_0 : List (Nat × Instr × Nat) := [(0, .aload_n 0, 1), (1, .invokevirtual 78, 3), (4, .iconst 0, 1), (5, .istore 4, 2), (7, .iload 4, 2), (9, .aload_n 2, 1), (10, .getfield 23, 3), (13, .if_icmp .ge 46, 3), (16, .aload_n 1, 1), (17, .aload_n 2, 1), (18, .getfield 63, 3), (21, .iload 4, 2), (23, .bipush 6, 2), (25, .imul, 1), (26, .aload_n 0, 1), (27, .getfield 11, 3), (30, .invokevirtual 81, 3), (33, .aload_n 3, 1), (34, .aload_n 0, 1), (35, .getfield 11, 3), (38, .aload_n 2, 1), (39, .iload 4, 2), (41, .invokevirtual 70, 3), (44, .invokevirtual 85, 3), (47, .ifCond .ne 6, 3), (50, .bipush (-3), 2), (52, .ireturn, 1), (53, .iinc 4 1, 3), (56, .goto (-49), 3), (59, .iconst 0, 1), (60, .ireturn, 1)]
theorem dtX3_project_0_0_ok : dcAll cX3_project dtX3_project_0_0 = true := sorry
theorem dX3_project_0 : decode cX3_project 0 = .ok (.aload_n 0, 1) := sorry
theorem dX3_project_1 : decode cX3_project 1 = .ok (.invokevirtual 78, 3) := sorry
theorem dX3_project_4 : decode cX3_project 4 = .ok (.iconst 0, 1) := sorry
theorem dX3_project_5 : decode cX3_project 5 = .ok (.istore 4, 2) := sorry
theorem dX3_project_7 : decode cX3_project 7 = .ok (.iload 4, 2) := sorry
theorem dX3_project_9 : decode cX3_project 9 = .ok (.aload_n 2, 1) := sorry
theorem dX3_project_10 : decode cX3_project 10 = .ok (.getfield 23, 3) := sorry
theorem dX3_project_13 : decode cX3_project 13 = .ok (.if_icmp .ge 46, 3) := sorry
theorem dX3_project_16 : decode cX3_project 16 = .ok (.aload_n 1, 1) := sorry
theorem dX3_project_17 : decode cX3_project 17 = .ok (.aload_n 2, 1) := sorry
theorem dX3_project_18 : decode cX3_project 18 = .ok (.getfield 63, 3) := sorry
theorem dX3_project_21 : decode cX3_project 21 = .ok (.iload 4, 2) := sorry
theorem dX3_project_23 : decode cX3_project 23 = .ok (.bipush 6, 2) := sorry
theorem dX3_project_25 : decode cX3_project 25 = .ok (.imul, 1) := sorry
theorem dX3_project_26 : decode cX3_project 26 = .ok (.aload_n 0, 1) := sorry
theorem dX3_project_27 : decode cX3_project 27 = .ok (.getfield 11, 3) := sorry
theorem dX3_project_30 : decode cX3_project 30 = .ok (.invokevirtual 81, 3) := sorry
theorem dX3_project_33 : decode cX3_project 33 = .ok (.aload_n 3, 1) := sorry
theorem dX3_project_34 : decode cX3_project 34 = .ok (.aload_n 0, 1) := sorry
theorem dX3_project_35 : decode cX3_project 35 = .ok (.getfield 11, 3) := sorry
theorem dX3_project_38 : decode cX3_project 38 = .ok (.aload_n 2, 1) := sorry
theorem dX3_project_39 : decode cX3_project 39 = .ok (.iload 4, 2) := sorry
theorem dX3_project_41 : decode cX3_project 41 = .ok (.invokevirtual 70, 3) := sorry
theorem dX3_project_44 : decode cX3_project 44 = .ok (.invokevirtual 85, 3) := sorry
theorem dX3_project_47 : decode cX3_project 47 = .ok (.ifCond .ne 6, 3) := sorry
theorem dX3_project_50 : decode cX3_project 50 = .ok (.bipush (-3), 2) := sorry
theorem dX3_project_52 : decode cX3_project 52 = .ok (.ireturn, 1) := sorry
theorem dX3_project_53 : decode cX3_project 53 = .ok (.iinc 4 1, 3) := sorry
theorem dX3_project_56 : decode cX3_project 56 = .ok (.goto (-49), 3) := sorry
theorem dX3_project_59 : decode cX3_project 59 = .ok (.iconst 0, 1) := sorry
theorem dX3_project_60 : decode cX3_project 60 = .ok (.ireturn, 1) := sorry
set_option maxRecDepth 20000 in
theorem ggX3_join_X3_clearKey : GoodIn wsX3_join wsX3_clearKey := sorry
set_option maxRecDepth 20000 in
theorem gX3_join_X3_clearKey : GoodIn wsX3_join (wsV RX3 78 RX3 yX3_clearKey wsX3_clearKey) := sorry
set_option maxRecDepth 20000 in
theorem ggX3_join_X0_pairsAreAlike : GoodIn wsX3_join wsX0_pairsAreAlike := sorry
set_option maxRecDepth 20000 in
theorem gX3_join_X0_pairsAreAlike : GoodIn wsX3_join (wsV RX3 88 RX0 yX0_pairsAreAlike wsX0_pairsAreAlike) := sorry
set_option maxRecDepth 20000 in
theorem ggX3_join_X3_fillJoined : GoodIn wsX3_join wsX3_fillJoined := sorry
set_option maxRecDepth 20000 in
theorem gX3_join_X3_fillJoined : GoodIn wsX3_join (wsV RX3 92 RX3 yX3_fillJoined wsX3_fillJoined) := sorry
set_option maxRecDepth 20000 in
theorem ggX3_join_X4_amount : GoodIn wsX3_join wsX4_amount := sorry
set_option maxRecDepth 20000 in
theorem gX3_join_X4_amount : GoodIn wsX3_join (wsV RX3 70 RX4 yX4_amount wsX4_amount) := sorry
set_option maxRecDepth 20000 in
theorem ggX3_join_X4_addAmount : GoodIn wsX3_join wsX4_addAmount := sorry
set_option maxRecDepth 20000 in
theorem gX3_join_X4_addAmount : GoodIn wsX3_join (wsV RX3 85 RX4 yX4_addAmount wsX4_addAmount) := sorry
def dtX3_join_0_0 : List (Nat × Instr × Nat) := [(0, .iconst 0, 1), (1, .istore 5, 2), (3, .aload_n 0, 1), (4, .invokevirtual 78, 3), (7, .iconst 0, 1), (8, .istore 6, 2), (10, .iload 6, 2), (12, .aload_n 2, 1), (13, .getfield 23, 3), (16, .if_icmp .ge 102, 3), (19, .iconst 0, 1), (20, .istore 7, 2), (22, .iload 7, 2), (24, .aload_n 3, 1), (25, .getfield 23, 3), (28, .if_icmp .ge 84, 3), (31, .aload_n 1, 1), (32, .aload_n 2, 1), (33, .getfield 63, 3), (36, .iload 6, 2), (38, .bipush 6, 2), (40, .imul, 1), (41, .aload_n 3, 1), (42, .getfield 63, 3), (45, .iload 7, 2), (47, .bipush 6, 2), (49, .imul, 1), (50, .invokevirtual 88, 3), (53, .ifCond .eq 53, 3), (56, .iinc 5 1, 3), (59, .aload_n 0, 1), (60, .aload_n 1, 1)]
theorem dtX3_join_0_0_ok : dcAll cX3_join dtX3_join_0_0 = true := sorry
theorem dX3_join_0 : decode cX3_join 0 = .ok (.iconst 0, 1) := sorry
theorem dX3_join_1 : decode cX3_join 1 = .ok (.istore 5, 2) := sorry
theorem dX3_join_3 : decode cX3_join 3 = .ok (.aload_n 0, 1) := sorry
theorem dX3_join_4 : decode cX3_join 4 = .ok (.invokevirtual 78, 3) := sorry
theorem dX3_join_7 : decode cX3_join 7 = .ok (.iconst 0, 1) := sorry
theorem dX3_join_8 : decode cX3_join 8 = .ok (.istore 6, 2) := sorry
theorem dX3_join_10 : decode cX3_join 10 = .ok (.iload 6, 2) := sorry
theorem dX3_join_12 : decode cX3_join 12 = .ok (.aload_n 2, 1) := sorry
theorem dX3_join_13 : decode cX3_join 13 = .ok (.getfield 23, 3) := sorry
theorem dX3_join_16 : decode cX3_join 16 = .ok (.if_icmp .ge 102, 3) := sorry
theorem dX3_join_19 : decode cX3_join 19 = .ok (.iconst 0, 1) := sorry
theorem dX3_join_20 : decode cX3_join 20 = .ok (.istore 7, 2) := sorry
theorem dX3_join_22 : decode cX3_join 22 = .ok (.iload 7, 2) := sorry
theorem dX3_join_24 : decode cX3_join 24 = .ok (.aload_n 3, 1) := sorry
theorem dX3_join_25 : decode cX3_join 25 = .ok (.getfield 23, 3) := sorry
theorem dX3_join_28 : decode cX3_join 28 = .ok (.if_icmp .ge 84, 3) := sorry
theorem dX3_join_31 : decode cX3_join 31 = .ok (.aload_n 1, 1) := sorry
theorem dX3_join_32 : decode cX3_join 32 = .ok (.aload_n 2, 1) := sorry
theorem dX3_join_33 : decode cX3_join 33 = .ok (.getfield 63, 3) := sorry
theorem dX3_join_36 : decode cX3_join 36 = .ok (.iload 6, 2) := sorry
theorem dX3_join_38 : decode cX3_join 38 = .ok (.bipush 6, 2) := sorry
theorem dX3_join_40 : decode cX3_join 40 = .ok (.imul, 1) := sorry
theorem dX3_join_41 : decode cX3_join 41 = .ok (.aload_n 3, 1) := sorry
theorem dX3_join_42 : decode cX3_join 42 = .ok (.getfield 63, 3) := sorry
theorem dX3_join_45 : decode cX3_join 45 = .ok (.iload 7, 2) := sorry
theorem dX3_join_47 : decode cX3_join 47 = .ok (.bipush 6, 2) := sorry
theorem dX3_join_49 : decode cX3_join 49 = .ok (.imul, 1) := sorry
theorem dX3_join_50 : decode cX3_join 50 = .ok (.invokevirtual 88, 3) := sorry
theorem dX3_join_53 : decode cX3_join 53 = .ok (.ifCond .eq 53, 3) := sorry
theorem dX3_join_56 : decode cX3_join 56 = .ok (.iinc 5 1, 3) := sorry
theorem dX3_join_59 : decode cX3_join 59 = .ok (.aload_n 0, 1) := sorry
theorem dX3_join_60 : decode cX3_join 60 = .ok (.aload_n 1, 1) := sorry
def dtX3_join_61_1 : List (Nat × Instr × Nat) := [(61, .aload_n 2, 1), (62, .iload 6, 2), (64, .aload_n 3, 1), (65, .iload 7, 2), (67, .invokevirtual 92, 3), (70, .iload 5, 2), (72, .sipush 1500, 3), (75, .if_icmp .gt 28, 3), (78, .aload 4, 2), (80, .aload_n 0, 1), (81, .getfield 11, 3), (84, .aload_n 2, 1), (85, .iload 6, 2), (87, .invokevirtual 70, 3), (90, .aload_n 3, 1), (91, .iload 7, 2), (93, .invokevirtual 70, 3), (96, .imul, 1), (97, .invokevirtual 85, 3), (100, .ifCond .ne 6, 3), (103, .bipush (-3), 2), (105, .ireturn, 1), (106, .iinc 7 1, 3), (109, .goto (-87), 3), (112, .iinc 6 1, 3), (115, .goto (-105), 3), (118, .iconst 0, 1), (119, .ireturn, 1)]
theorem dtX3_join_61_1_ok : dcAll cX3_join dtX3_join_61_1 = true := sorry
theorem dX3_join_61 : decode cX3_join 61 = .ok (.aload_n 2, 1) := sorry
theorem dX3_join_62 : decode cX3_join 62 = .ok (.iload 6, 2) := sorry
theorem dX3_join_64 : decode cX3_join 64 = .ok (.aload_n 3, 1) := sorry
theorem dX3_join_65 : decode cX3_join 65 = .ok (.iload 7, 2) := sorry
theorem dX3_join_67 : decode cX3_join 67 = .ok (.invokevirtual 92, 3) := sorry
theorem dX3_join_70 : decode cX3_join 70 = .ok (.iload 5, 2) := sorry
theorem dX3_join_72 : decode cX3_join 72 = .ok (.sipush 1500, 3) := sorry
theorem dX3_join_75 : decode cX3_join 75 = .ok (.if_icmp .gt 28, 3) := sorry
theorem dX3_join_78 : decode cX3_join 78 = .ok (.aload 4, 2) := sorry
theorem dX3_join_80 : decode cX3_join 80 = .ok (.aload_n 0, 1) := sorry
theorem dX3_join_81 : decode cX3_join 81 = .ok (.getfield 11, 3) := sorry
theorem dX3_join_84 : decode cX3_join 84 = .ok (.aload_n 2, 1) := sorry
theorem dX3_join_85 : decode cX3_join 85 = .ok (.iload 6, 2) := sorry
theorem dX3_join_87 : decode cX3_join 87 = .ok (.invokevirtual 70, 3) := sorry
theorem dX3_join_90 : decode cX3_join 90 = .ok (.aload_n 3, 1) := sorry
theorem dX3_join_91 : decode cX3_join 91 = .ok (.iload 7, 2) := sorry
theorem dX3_join_93 : decode cX3_join 93 = .ok (.invokevirtual 70, 3) := sorry
theorem dX3_join_96 : decode cX3_join 96 = .ok (.imul, 1) := sorry
theorem dX3_join_97 : decode cX3_join 97 = .ok (.invokevirtual 85, 3) := sorry
theorem dX3_join_100 : decode cX3_join 100 = .ok (.ifCond .ne 6, 3) := sorry
theorem dX3_join_103 : decode cX3_join 103 = .ok (.bipush (-3), 2) := sorry
theorem dX3_join_105 : decode cX3_join 105 = .ok (.ireturn, 1) := sorry
theorem dX3_join_106 : decode cX3_join 106 = .ok (.iinc 7 1, 3) := sorry
theorem dX3_join_109 : decode cX3_join 109 = .ok (.goto (-87), 3) := sorry
theorem dX3_join_112 : decode cX3_join 112 = .ok (.iinc 6 1, 3) := sorry
theorem dX3_join_115 : decode cX3_join 115 = .ok (.goto (-105), 3) := sorry
theorem dX3_join_118 : decode cX3_join 118 = .ok (.iconst 0, 1) := sorry
theorem dX3_join_119 : decode cX3_join 119 = .ok (.ireturn, 1) := sorry
set_option maxRecDepth 20000 in
theorem ggX3_fillJoined_X4_cell : GoodIn wsX3_fillJoined wsX4_cell := sorry
set_option maxRecDepth 20000 in
theorem gX3_fillJoined_X4_cell : GoodIn wsX3_fillJoined (wsV RX3 99 RX4 yX4_cell wsX4_cell) := sorry
set_option maxRecDepth 20000 in
theorem ggX3_fillJoined_X0_tellsSecond : GoodIn wsX3_fillJoined wsX0_tellsSecond := sorry
set_option maxRecDepth 20000 in
theorem gX3_fillJoined_X0_tellsSecond : GoodIn wsX3_fillJoined (wsV RX3 106 RX0 yX0_tellsSecond wsX0_tellsSecond) := sorry
def dtX3_fillJoined_0_0 : List (Nat × Instr × Nat) := [(0, .iconst 0, 1), (1, .istore 6, 2), (3, .iconst 0, 1), (4, .istore 7, 2), (6, .iload 7, 2), (8, .aload_n 1, 1), (9, .getfield 96, 3), (12, .if_icmp .ge 26, 3), (15, .aload_n 0, 1), (16, .getfield 11, 3), (19, .iload 6, 2), (21, .aload_n 2, 1), (22, .iload_n 3, 1), (23, .iload 7, 2), (25, .invokevirtual 99, 3), (28, .iastore, 1), (29, .iinc 6 1, 3), (32, .iinc 7 1, 3), (35, .goto (-29), 3), (38, .iconst 0, 1), (39, .istore 7, 2), (41, .iload 7, 2), (43, .aload_n 1, 1), (44, .getfield 103, 3), (47, .if_icmp .ge 43, 3), (50, .iload 6, 2), (52, .iconst 4, 1), (53, .if_icmp .ge 37, 3), (56, .aload_n 1, 1), (57, .iload 7, 2), (59, .invokevirtual 106, 3), (62, .ifCond .ne 22, 3)]
theorem dtX3_fillJoined_0_0_ok : dcAll cX3_fillJoined dtX3_fillJoined_0_0 = true := sorry
theorem dX3_fillJoined_0 : decode cX3_fillJoined 0 = .ok (.iconst 0, 1) := sorry
theorem dX3_fillJoined_1 : decode cX3_fillJoined 1 = .ok (.istore 6, 2) := sorry
theorem dX3_fillJoined_3 : decode cX3_fillJoined 3 = .ok (.iconst 0, 1) := sorry
theorem dX3_fillJoined_4 : decode cX3_fillJoined 4 = .ok (.istore 7, 2) := sorry
theorem dX3_fillJoined_6 : decode cX3_fillJoined 6 = .ok (.iload 7, 2) := sorry
theorem dX3_fillJoined_8 : decode cX3_fillJoined 8 = .ok (.aload_n 1, 1) := sorry
theorem dX3_fillJoined_9 : decode cX3_fillJoined 9 = .ok (.getfield 96, 3) := sorry
theorem dX3_fillJoined_12 : decode cX3_fillJoined 12 = .ok (.if_icmp .ge 26, 3) := sorry
theorem dX3_fillJoined_15 : decode cX3_fillJoined 15 = .ok (.aload_n 0, 1) := sorry
theorem dX3_fillJoined_16 : decode cX3_fillJoined 16 = .ok (.getfield 11, 3) := sorry
theorem dX3_fillJoined_19 : decode cX3_fillJoined 19 = .ok (.iload 6, 2) := sorry
theorem dX3_fillJoined_21 : decode cX3_fillJoined 21 = .ok (.aload_n 2, 1) := sorry
theorem dX3_fillJoined_22 : decode cX3_fillJoined 22 = .ok (.iload_n 3, 1) := sorry
theorem dX3_fillJoined_23 : decode cX3_fillJoined 23 = .ok (.iload 7, 2) := sorry
theorem dX3_fillJoined_25 : decode cX3_fillJoined 25 = .ok (.invokevirtual 99, 3) := sorry
theorem dX3_fillJoined_28 : decode cX3_fillJoined 28 = .ok (.iastore, 1) := sorry
theorem dX3_fillJoined_29 : decode cX3_fillJoined 29 = .ok (.iinc 6 1, 3) := sorry
theorem dX3_fillJoined_32 : decode cX3_fillJoined 32 = .ok (.iinc 7 1, 3) := sorry
theorem dX3_fillJoined_35 : decode cX3_fillJoined 35 = .ok (.goto (-29), 3) := sorry
theorem dX3_fillJoined_38 : decode cX3_fillJoined 38 = .ok (.iconst 0, 1) := sorry
theorem dX3_fillJoined_39 : decode cX3_fillJoined 39 = .ok (.istore 7, 2) := sorry
theorem dX3_fillJoined_41 : decode cX3_fillJoined 41 = .ok (.iload 7, 2) := sorry
theorem dX3_fillJoined_43 : decode cX3_fillJoined 43 = .ok (.aload_n 1, 1) := sorry
theorem dX3_fillJoined_44 : decode cX3_fillJoined 44 = .ok (.getfield 103, 3) := sorry
theorem dX3_fillJoined_47 : decode cX3_fillJoined 47 = .ok (.if_icmp .ge 43, 3) := sorry
theorem dX3_fillJoined_50 : decode cX3_fillJoined 50 = .ok (.iload 6, 2) := sorry
theorem dX3_fillJoined_52 : decode cX3_fillJoined 52 = .ok (.iconst 4, 1) := sorry
theorem dX3_fillJoined_53 : decode cX3_fillJoined 53 = .ok (.if_icmp .ge 37, 3) := sorry
theorem dX3_fillJoined_56 : decode cX3_fillJoined 56 = .ok (.aload_n 1, 1) := sorry
theorem dX3_fillJoined_57 : decode cX3_fillJoined 57 = .ok (.iload 7, 2) := sorry
theorem dX3_fillJoined_59 : decode cX3_fillJoined 59 = .ok (.invokevirtual 106, 3) := sorry
theorem dX3_fillJoined_62 : decode cX3_fillJoined 62 = .ok (.ifCond .ne 22, 3) := sorry
def dtX3_fillJoined_65_1 : List (Nat × Instr × Nat) := [(65, .aload_n 0, 1), (66, .getfield 11, 3), (69, .iload 6, 2), (71, .aload 4, 2), (73, .iload 5, 2), (75, .iload 7, 2), (77, .invokevirtual 99, 3), (80, .iastore, 1), (81, .iinc 6 1, 3), (84, .iinc 7 1, 3), (87, .goto (-46), 3), (90, .return_, 1)]
theorem dtX3_fillJoined_65_1_ok : dcAll cX3_fillJoined dtX3_fillJoined_65_1 = true := sorry
theorem dX3_fillJoined_65 : decode cX3_fillJoined 65 = .ok (.aload_n 0, 1) := sorry
theorem dX3_fillJoined_66 : decode cX3_fillJoined 66 = .ok (.getfield 11, 3) := sorry
theorem dX3_fillJoined_69 : decode cX3_fillJoined 69 = .ok (.iload 6, 2) := sorry
theorem dX3_fillJoined_71 : decode cX3_fillJoined 71 = .ok (.aload 4, 2) := sorry
theorem dX3_fillJoined_73 : decode cX3_fillJoined 73 = .ok (.iload 5, 2) := sorry
theorem dX3_fillJoined_75 : decode cX3_fillJoined 75 = .ok (.iload 7, 2) := sorry
theorem dX3_fillJoined_77 : decode cX3_fillJoined 77 = .ok (.invokevirtual 99, 3) := sorry
theorem dX3_fillJoined_80 : decode cX3_fillJoined 80 = .ok (.iastore, 1) := sorry
theorem dX3_fillJoined_81 : decode cX3_fillJoined 81 = .ok (.iinc 6 1, 3) := sorry
theorem dX3_fillJoined_84 : decode cX3_fillJoined 84 = .ok (.iinc 7 1, 3) := sorry
theorem dX3_fillJoined_87 : decode cX3_fillJoined 87 = .ok (.goto (-46), 3) := sorry
theorem dX3_fillJoined_90 : decode cX3_fillJoined 90 = .ok (.return_, 1) := sorry
set_option maxRecDepth 20000 in
theorem ggX3_distinct_X4_amount : GoodIn wsX3_distinct wsX4_amount := sorry
set_option maxRecDepth 20000 in
theorem gX3_distinct_X4_amount : GoodIn wsX3_distinct (wsV RX3 70 RX4 yX4_amount wsX4_amount) := sorry
set_option maxRecDepth 20000 in
theorem ggX3_distinct_X4_append : GoodIn wsX3_distinct wsX4_append := sorry
set_option maxRecDepth 20000 in
theorem gX3_distinct_X4_append : GoodIn wsX3_distinct (wsV RX3 74 RX4 yX4_append wsX4_append) := sorry
def dtX3_distinct_0_0 : List (Nat × Instr × Nat) := [(0, .iconst 0, 1), (1, .istore_n 3, 1), (2, .iload_n 3, 1), (3, .aload_n 1, 1), (4, .getfield 23, 3), (7, .if_icmp .ge 30, 3), (10, .aload_n 1, 1), (11, .iload_n 3, 1), (12, .invokevirtual 70, 3), (15, .ifCond .le 16, 3), (18, .aload_n 2, 1), (19, .aload_n 1, 1), (20, .iload_n 3, 1), (21, .iconst 1, 1), (22, .invokevirtual 74, 3), (25, .ifCond .ne 6, 3), (28, .bipush (-3), 2), (30, .ireturn, 1), (31, .iinc 3 1, 3), (34, .goto (-32), 3), (37, .iconst 0, 1), (38, .ireturn, 1)]
theorem dtX3_distinct_0_0_ok : dcAll cX3_distinct dtX3_distinct_0_0 = true := sorry
theorem dX3_distinct_0 : decode cX3_distinct 0 = .ok (.iconst 0, 1) := sorry
theorem dX3_distinct_1 : decode cX3_distinct 1 = .ok (.istore_n 3, 1) := sorry
theorem dX3_distinct_2 : decode cX3_distinct 2 = .ok (.iload_n 3, 1) := sorry
theorem dX3_distinct_3 : decode cX3_distinct 3 = .ok (.aload_n 1, 1) := sorry
theorem dX3_distinct_4 : decode cX3_distinct 4 = .ok (.getfield 23, 3) := sorry
theorem dX3_distinct_7 : decode cX3_distinct 7 = .ok (.if_icmp .ge 30, 3) := sorry
theorem dX3_distinct_10 : decode cX3_distinct 10 = .ok (.aload_n 1, 1) := sorry
theorem dX3_distinct_11 : decode cX3_distinct 11 = .ok (.iload_n 3, 1) := sorry
theorem dX3_distinct_12 : decode cX3_distinct 12 = .ok (.invokevirtual 70, 3) := sorry
theorem dX3_distinct_15 : decode cX3_distinct 15 = .ok (.ifCond .le 16, 3) := sorry
theorem dX3_distinct_18 : decode cX3_distinct 18 = .ok (.aload_n 2, 1) := sorry
theorem dX3_distinct_19 : decode cX3_distinct 19 = .ok (.aload_n 1, 1) := sorry
theorem dX3_distinct_20 : decode cX3_distinct 20 = .ok (.iload_n 3, 1) := sorry
theorem dX3_distinct_21 : decode cX3_distinct 21 = .ok (.iconst 1, 1) := sorry
theorem dX3_distinct_22 : decode cX3_distinct 22 = .ok (.invokevirtual 74, 3) := sorry
theorem dX3_distinct_25 : decode cX3_distinct 25 = .ok (.ifCond .ne 6, 3) := sorry
theorem dX3_distinct_28 : decode cX3_distinct 28 = .ok (.bipush (-3), 2) := sorry
theorem dX3_distinct_30 : decode cX3_distinct 30 = .ok (.ireturn, 1) := sorry
theorem dX3_distinct_31 : decode cX3_distinct 31 = .ok (.iinc 3 1, 3) := sorry
theorem dX3_distinct_34 : decode cX3_distinct 34 = .ok (.goto (-32), 3) := sorry
theorem dX3_distinct_37 : decode cX3_distinct 37 = .ok (.iconst 0, 1) := sorry
theorem dX3_distinct_38 : decode cX3_distinct 38 = .ok (.ireturn, 1) := sorry
set_option maxRecDepth 20000 in
theorem ggX3_group_X3_clearKey : GoodIn wsX3_group wsX3_clearKey := sorry
set_option maxRecDepth 20000 in
theorem gX3_group_X3_clearKey : GoodIn wsX3_group (wsV RX3 78 RX3 yX3_clearKey wsX3_clearKey) := sorry
set_option maxRecDepth 20000 in
theorem ggX3_group_X4_cell : GoodIn wsX3_group wsX4_cell := sorry
set_option maxRecDepth 20000 in
theorem gX3_group_X4_cell : GoodIn wsX3_group (wsV RX3 99 RX4 yX4_cell wsX4_cell) := sorry
set_option maxRecDepth 20000 in
theorem ggX3_group_X4_find : GoodIn wsX3_group wsX4_find := sorry
set_option maxRecDepth 20000 in
theorem gX3_group_X4_find : GoodIn wsX3_group (wsV RX3 116 RX4 yX4_find wsX4_find) := sorry
set_option maxRecDepth 20000 in
theorem ggX3_group_X4_insert : GoodIn wsX3_group wsX4_insert := sorry
set_option maxRecDepth 20000 in
theorem gX3_group_X4_insert : GoodIn wsX3_group (wsV RX3 120 RX4 yX4_insert wsX4_insert) := sorry
set_option maxRecDepth 20000 in
theorem ggX3_group_X4_amount : GoodIn wsX3_group wsX4_amount := sorry
set_option maxRecDepth 20000 in
theorem gX3_group_X4_amount : GoodIn wsX3_group (wsV RX3 70 RX4 yX4_amount wsX4_amount) := sorry
set_option maxRecDepth 20000 in
theorem ggX3_group_X3_fold : GoodIn wsX3_group wsX3_fold := sorry
set_option maxRecDepth 20000 in
theorem gX3_group_X3_fold : GoodIn wsX3_group (va_wsS RX3 130 yX3_fold wsX3_fold) := sorry
set_option maxRecDepth 20000 in
theorem ggX3_group_X4_setCell : GoodIn wsX3_group wsX4_setCell := sorry
set_option maxRecDepth 20000 in
theorem gX3_group_X4_setCell : GoodIn wsX3_group (wsV RX3 133 RX4 yX4_setCell wsX4_setCell) := sorry
def dtX3_group_0_0 : List (Nat × Instr × Nat) := [(0, .aload_n 0, 1), (1, .invokevirtual 78, 3), (4, .iconst 0, 1), (5, .istore 4, 2), (7, .iload 4, 2), (9, .aload_n 2, 1), (10, .getfield 23, 3), (13, .if_icmp .ge 111, 3), (16, .iconst 0, 1), (17, .istore 5, 2), (19, .iload 5, 2), (21, .aload_n 1, 1), (22, .getfield 110, 3), (25, .if_icmp .ge 29, 3), (28, .aload_n 0, 1), (29, .getfield 11, 3), (32, .iload 5, 2), (34, .aload_n 2, 1), (35, .iload 4, 2), (37, .aload_n 1, 1), (38, .getfield 113, 3), (41, .iload 5, 2), (43, .iaload, 1), (44, .invokevirtual 99, 3), (47, .iastore, 1), (48, .iinc 5 1, 3), (51, .goto (-32), 3), (54, .aload_n 3, 1), (55, .aload_n 0, 1), (56, .getfield 11, 3), (59, .invokevirtual 116, 3), (62, .istore 5, 2)]
theorem dtX3_group_0_0_ok : dcAll cX3_group dtX3_group_0_0 = true := sorry
theorem dX3_group_0 : decode cX3_group 0 = .ok (.aload_n 0, 1) := sorry
theorem dX3_group_1 : decode cX3_group 1 = .ok (.invokevirtual 78, 3) := sorry
theorem dX3_group_4 : decode cX3_group 4 = .ok (.iconst 0, 1) := sorry
theorem dX3_group_5 : decode cX3_group 5 = .ok (.istore 4, 2) := sorry
theorem dX3_group_7 : decode cX3_group 7 = .ok (.iload 4, 2) := sorry
theorem dX3_group_9 : decode cX3_group 9 = .ok (.aload_n 2, 1) := sorry
theorem dX3_group_10 : decode cX3_group 10 = .ok (.getfield 23, 3) := sorry
theorem dX3_group_13 : decode cX3_group 13 = .ok (.if_icmp .ge 111, 3) := sorry
theorem dX3_group_16 : decode cX3_group 16 = .ok (.iconst 0, 1) := sorry
theorem dX3_group_17 : decode cX3_group 17 = .ok (.istore 5, 2) := sorry
theorem dX3_group_19 : decode cX3_group 19 = .ok (.iload 5, 2) := sorry
theorem dX3_group_21 : decode cX3_group 21 = .ok (.aload_n 1, 1) := sorry
theorem dX3_group_22 : decode cX3_group 22 = .ok (.getfield 110, 3) := sorry
theorem dX3_group_25 : decode cX3_group 25 = .ok (.if_icmp .ge 29, 3) := sorry
theorem dX3_group_28 : decode cX3_group 28 = .ok (.aload_n 0, 1) := sorry
theorem dX3_group_29 : decode cX3_group 29 = .ok (.getfield 11, 3) := sorry
theorem dX3_group_32 : decode cX3_group 32 = .ok (.iload 5, 2) := sorry
theorem dX3_group_34 : decode cX3_group 34 = .ok (.aload_n 2, 1) := sorry
theorem dX3_group_35 : decode cX3_group 35 = .ok (.iload 4, 2) := sorry
theorem dX3_group_37 : decode cX3_group 37 = .ok (.aload_n 1, 1) := sorry
theorem dX3_group_38 : decode cX3_group 38 = .ok (.getfield 113, 3) := sorry
theorem dX3_group_41 : decode cX3_group 41 = .ok (.iload 5, 2) := sorry
theorem dX3_group_43 : decode cX3_group 43 = .ok (.iaload, 1) := sorry
theorem dX3_group_44 : decode cX3_group 44 = .ok (.invokevirtual 99, 3) := sorry
theorem dX3_group_47 : decode cX3_group 47 = .ok (.iastore, 1) := sorry
theorem dX3_group_48 : decode cX3_group 48 = .ok (.iinc 5 1, 3) := sorry
theorem dX3_group_51 : decode cX3_group 51 = .ok (.goto (-32), 3) := sorry
theorem dX3_group_54 : decode cX3_group 54 = .ok (.aload_n 3, 1) := sorry
theorem dX3_group_55 : decode cX3_group 55 = .ok (.aload_n 0, 1) := sorry
theorem dX3_group_56 : decode cX3_group 56 = .ok (.getfield 11, 3) := sorry
theorem dX3_group_59 : decode cX3_group 59 = .ok (.invokevirtual 116, 3) := sorry
theorem dX3_group_62 : decode cX3_group 62 = .ok (.istore 5, 2) := sorry
def dtX3_group_64_1 : List (Nat × Instr × Nat) := [(64, .iload 5, 2), (66, .ifCond .ge 26, 3), (69, .iconst (-1), 1), (70, .iload 5, 2), (72, .isub, 1), (73, .istore 5, 2), (75, .aload_n 3, 1), (76, .iload 5, 2), (78, .aload_n 0, 1), (79, .getfield 11, 3), (82, .iconst 0, 1), (83, .invokevirtual 120, 3), (86, .ifCond .ne 6, 3), (89, .bipush (-3), 2), (91, .ireturn, 1), (92, .aload_n 1, 1), (93, .getfield 124, 3), (96, .aload_n 3, 1), (97, .iload 5, 2), (99, .aload_n 2, 1), (100, .iload 4, 2), (102, .aload_n 1, 1), (103, .getfield 127, 3), (106, .invokevirtual 99, 3), (109, .aload_n 2, 1), (110, .iload 4, 2), (112, .invokevirtual 70, 3), (115, .invokestatic 130, 3), (118, .iinc 4 1, 3), (121, .goto (-114), 3), (124, .iconst 0, 1), (125, .istore 4, 2)]
theorem dtX3_group_64_1_ok : dcAll cX3_group dtX3_group_64_1 = true := sorry
theorem dX3_group_64 : decode cX3_group 64 = .ok (.iload 5, 2) := sorry
theorem dX3_group_66 : decode cX3_group 66 = .ok (.ifCond .ge 26, 3) := sorry
theorem dX3_group_69 : decode cX3_group 69 = .ok (.iconst (-1), 1) := sorry
theorem dX3_group_70 : decode cX3_group 70 = .ok (.iload 5, 2) := sorry
theorem dX3_group_72 : decode cX3_group 72 = .ok (.isub, 1) := sorry
theorem dX3_group_73 : decode cX3_group 73 = .ok (.istore 5, 2) := sorry
theorem dX3_group_75 : decode cX3_group 75 = .ok (.aload_n 3, 1) := sorry
theorem dX3_group_76 : decode cX3_group 76 = .ok (.iload 5, 2) := sorry
theorem dX3_group_78 : decode cX3_group 78 = .ok (.aload_n 0, 1) := sorry
theorem dX3_group_79 : decode cX3_group 79 = .ok (.getfield 11, 3) := sorry
theorem dX3_group_82 : decode cX3_group 82 = .ok (.iconst 0, 1) := sorry
theorem dX3_group_83 : decode cX3_group 83 = .ok (.invokevirtual 120, 3) := sorry
theorem dX3_group_86 : decode cX3_group 86 = .ok (.ifCond .ne 6, 3) := sorry
theorem dX3_group_89 : decode cX3_group 89 = .ok (.bipush (-3), 2) := sorry
theorem dX3_group_91 : decode cX3_group 91 = .ok (.ireturn, 1) := sorry
theorem dX3_group_92 : decode cX3_group 92 = .ok (.aload_n 1, 1) := sorry
theorem dX3_group_93 : decode cX3_group 93 = .ok (.getfield 124, 3) := sorry
theorem dX3_group_96 : decode cX3_group 96 = .ok (.aload_n 3, 1) := sorry
theorem dX3_group_97 : decode cX3_group 97 = .ok (.iload 5, 2) := sorry
theorem dX3_group_99 : decode cX3_group 99 = .ok (.aload_n 2, 1) := sorry
theorem dX3_group_100 : decode cX3_group 100 = .ok (.iload 4, 2) := sorry
theorem dX3_group_102 : decode cX3_group 102 = .ok (.aload_n 1, 1) := sorry
theorem dX3_group_103 : decode cX3_group 103 = .ok (.getfield 127, 3) := sorry
theorem dX3_group_106 : decode cX3_group 106 = .ok (.invokevirtual 99, 3) := sorry
theorem dX3_group_109 : decode cX3_group 109 = .ok (.aload_n 2, 1) := sorry
theorem dX3_group_110 : decode cX3_group 110 = .ok (.iload 4, 2) := sorry
theorem dX3_group_112 : decode cX3_group 112 = .ok (.invokevirtual 70, 3) := sorry
theorem dX3_group_115 : decode cX3_group 115 = .ok (.invokestatic 130, 3) := sorry
theorem dX3_group_118 : decode cX3_group 118 = .ok (.iinc 4 1, 3) := sorry
theorem dX3_group_121 : decode cX3_group 121 = .ok (.goto (-114), 3) := sorry
theorem dX3_group_124 : decode cX3_group 124 = .ok (.iconst 0, 1) := sorry
theorem dX3_group_125 : decode cX3_group 125 = .ok (.istore 4, 2) := sorry
def dtX3_group_127_2 : List (Nat × Instr × Nat) := [(127, .iload 4, 2), (129, .aload_n 3, 1), (130, .getfield 23, 3), (133, .if_icmp .ge 41, 3), (136, .aload_n 3, 1), (137, .iload 4, 2), (139, .aload_n 1, 1), (140, .getfield 110, 3), (143, .aload_n 3, 1), (144, .iload 4, 2), (146, .invokevirtual 70, 3), (149, .invokevirtual 133, 3), (152, .aload_n 3, 1), (153, .iload 4, 2), (155, .iconst 4, 1), (156, .iconst 1, 1), (157, .invokevirtual 133, 3), (160, .aload_n 3, 1), (161, .iload 4, 2), (163, .iconst 5, 1), (164, .iconst 0, 1), (165, .invokevirtual 133, 3), (168, .iinc 4 1, 3), (171, .goto (-44), 3), (174, .iconst 0, 1), (175, .ireturn, 1)]
theorem dtX3_group_127_2_ok : dcAll cX3_group dtX3_group_127_2 = true := sorry
theorem dX3_group_127 : decode cX3_group 127 = .ok (.iload 4, 2) := sorry
theorem dX3_group_129 : decode cX3_group 129 = .ok (.aload_n 3, 1) := sorry
theorem dX3_group_130 : decode cX3_group 130 = .ok (.getfield 23, 3) := sorry
theorem dX3_group_133 : decode cX3_group 133 = .ok (.if_icmp .ge 41, 3) := sorry
theorem dX3_group_136 : decode cX3_group 136 = .ok (.aload_n 3, 1) := sorry
theorem dX3_group_137 : decode cX3_group 137 = .ok (.iload 4, 2) := sorry
theorem dX3_group_139 : decode cX3_group 139 = .ok (.aload_n 1, 1) := sorry
theorem dX3_group_140 : decode cX3_group 140 = .ok (.getfield 110, 3) := sorry
theorem dX3_group_143 : decode cX3_group 143 = .ok (.aload_n 3, 1) := sorry
theorem dX3_group_144 : decode cX3_group 144 = .ok (.iload 4, 2) := sorry
theorem dX3_group_146 : decode cX3_group 146 = .ok (.invokevirtual 70, 3) := sorry
theorem dX3_group_149 : decode cX3_group 149 = .ok (.invokevirtual 133, 3) := sorry
theorem dX3_group_152 : decode cX3_group 152 = .ok (.aload_n 3, 1) := sorry
theorem dX3_group_153 : decode cX3_group 153 = .ok (.iload 4, 2) := sorry
theorem dX3_group_155 : decode cX3_group 155 = .ok (.iconst 4, 1) := sorry
theorem dX3_group_156 : decode cX3_group 156 = .ok (.iconst 1, 1) := sorry
theorem dX3_group_157 : decode cX3_group 157 = .ok (.invokevirtual 133, 3) := sorry
theorem dX3_group_160 : decode cX3_group 160 = .ok (.aload_n 3, 1) := sorry
theorem dX3_group_161 : decode cX3_group 161 = .ok (.iload 4, 2) := sorry
theorem dX3_group_163 : decode cX3_group 163 = .ok (.iconst 5, 1) := sorry
theorem dX3_group_164 : decode cX3_group 164 = .ok (.iconst 0, 1) := sorry
theorem dX3_group_165 : decode cX3_group 165 = .ok (.invokevirtual 133, 3) := sorry
theorem dX3_group_168 : decode cX3_group 168 = .ok (.iinc 4 1, 3) := sorry
theorem dX3_group_171 : decode cX3_group 171 = .ok (.goto (-44), 3) := sorry
theorem dX3_group_174 : decode cX3_group 174 = .ok (.iconst 0, 1) := sorry
theorem dX3_group_175 : decode cX3_group 175 = .ok (.ireturn, 1) := sorry
set_option maxRecDepth 20000 in
theorem ggX3_fold_X4_amount : GoodIn wsX3_fold wsX4_amount := sorry
set_option maxRecDepth 20000 in
theorem gX3_fold_X4_amount : GoodIn wsX3_fold (wsV RX3 70 RX4 yX4_amount wsX4_amount) := sorry
set_option maxRecDepth 20000 in
theorem ggX3_fold_X4_setCell : GoodIn wsX3_fold wsX4_setCell := sorry
set_option maxRecDepth 20000 in
theorem gX3_fold_X4_setCell : GoodIn wsX3_fold (wsV RX3 133 RX4 yX4_setCell wsX4_setCell) := sorry
set_option maxRecDepth 20000 in
theorem ggX3_fold_X4_cell : GoodIn wsX3_fold wsX4_cell := sorry
set_option maxRecDepth 20000 in
theorem gX3_fold_X4_cell : GoodIn wsX3_fold (wsV RX3 99 RX4 yX4_cell wsX4_cell) := sorry
def dtX3_fold_0_0 : List (Nat × Instr × Nat) := [(0, .aload_n 1, 1), (1, .iload_n 2, 1), (2, .invokevirtual 70, 3), (5, .istore 5, 2), (7, .iload_n 0, 1), (8, .bipush 16, 2), (10, .if_icmp .ne 17, 3), (13, .aload_n 1, 1), (14, .iload_n 2, 1), (15, .iconst 4, 1), (16, .iload 5, 2), (18, .iload 4, 2), (20, .iadd, 1), (21, .invokevirtual 133, 3), (24, .goto 86, 3), (27, .iload_n 0, 1), (28, .bipush 17, 2), (30, .if_icmp .ne 19, 3), (33, .aload_n 1, 1), (34, .iload_n 2, 1), (35, .iconst 4, 1), (36, .iload 5, 2), (38, .iload 4, 2), (40, .iload_n 3, 1), (41, .imul, 1), (42, .iadd, 1), (43, .invokevirtual 133, 3), (46, .goto 64, 3), (49, .iload 4, 2), (51, .ifCond .le 59, 3), (54, .aload_n 1, 1), (55, .iload_n 2, 1)]
theorem dtX3_fold_0_0_ok : dcAll cX3_fold dtX3_fold_0_0 = true := sorry
theorem dX3_fold_0 : decode cX3_fold 0 = .ok (.aload_n 1, 1) := sorry
theorem dX3_fold_1 : decode cX3_fold 1 = .ok (.iload_n 2, 1) := sorry
theorem dX3_fold_2 : decode cX3_fold 2 = .ok (.invokevirtual 70, 3) := sorry
theorem dX3_fold_5 : decode cX3_fold 5 = .ok (.istore 5, 2) := sorry
theorem dX3_fold_7 : decode cX3_fold 7 = .ok (.iload_n 0, 1) := sorry
theorem dX3_fold_8 : decode cX3_fold 8 = .ok (.bipush 16, 2) := sorry
theorem dX3_fold_10 : decode cX3_fold 10 = .ok (.if_icmp .ne 17, 3) := sorry
theorem dX3_fold_13 : decode cX3_fold 13 = .ok (.aload_n 1, 1) := sorry
theorem dX3_fold_14 : decode cX3_fold 14 = .ok (.iload_n 2, 1) := sorry
theorem dX3_fold_15 : decode cX3_fold 15 = .ok (.iconst 4, 1) := sorry
theorem dX3_fold_16 : decode cX3_fold 16 = .ok (.iload 5, 2) := sorry
theorem dX3_fold_18 : decode cX3_fold 18 = .ok (.iload 4, 2) := sorry
theorem dX3_fold_20 : decode cX3_fold 20 = .ok (.iadd, 1) := sorry
theorem dX3_fold_21 : decode cX3_fold 21 = .ok (.invokevirtual 133, 3) := sorry
theorem dX3_fold_24 : decode cX3_fold 24 = .ok (.goto 86, 3) := sorry
theorem dX3_fold_27 : decode cX3_fold 27 = .ok (.iload_n 0, 1) := sorry
theorem dX3_fold_28 : decode cX3_fold 28 = .ok (.bipush 17, 2) := sorry
theorem dX3_fold_30 : decode cX3_fold 30 = .ok (.if_icmp .ne 19, 3) := sorry
theorem dX3_fold_33 : decode cX3_fold 33 = .ok (.aload_n 1, 1) := sorry
theorem dX3_fold_34 : decode cX3_fold 34 = .ok (.iload_n 2, 1) := sorry
theorem dX3_fold_35 : decode cX3_fold 35 = .ok (.iconst 4, 1) := sorry
theorem dX3_fold_36 : decode cX3_fold 36 = .ok (.iload 5, 2) := sorry
theorem dX3_fold_38 : decode cX3_fold 38 = .ok (.iload 4, 2) := sorry
theorem dX3_fold_40 : decode cX3_fold 40 = .ok (.iload_n 3, 1) := sorry
theorem dX3_fold_41 : decode cX3_fold 41 = .ok (.imul, 1) := sorry
theorem dX3_fold_42 : decode cX3_fold 42 = .ok (.iadd, 1) := sorry
theorem dX3_fold_43 : decode cX3_fold 43 = .ok (.invokevirtual 133, 3) := sorry
theorem dX3_fold_46 : decode cX3_fold 46 = .ok (.goto 64, 3) := sorry
theorem dX3_fold_49 : decode cX3_fold 49 = .ok (.iload 4, 2) := sorry
theorem dX3_fold_51 : decode cX3_fold 51 = .ok (.ifCond .le 59, 3) := sorry
theorem dX3_fold_54 : decode cX3_fold 54 = .ok (.aload_n 1, 1) := sorry
theorem dX3_fold_55 : decode cX3_fold 55 = .ok (.iload_n 2, 1) := sorry
def dtX3_fold_56_1 : List (Nat × Instr × Nat) := [(56, .iconst 5, 1), (57, .invokevirtual 99, 3), (60, .ifCond .ne 7, 3), (63, .iconst 1, 1), (64, .goto 4, 3), (67, .iconst 0, 1), (68, .istore 6, 2), (70, .iload 6, 2), (72, .ifCond .ne 24, 3), (75, .iload_n 0, 1), (76, .bipush 18, 2), (78, .if_icmp .ne 12, 3), (81, .iload_n 3, 1), (82, .iload 5, 2), (84, .if_icmp .ge 19, 3), (87, .goto 9, 3), (90, .iload_n 3, 1), (91, .iload 5, 2), (93, .if_icmp .le 10, 3), (96, .aload_n 1, 1), (97, .iload_n 2, 1), (98, .iconst 4, 1), (99, .iload_n 3, 1), (100, .invokevirtual 133, 3), (103, .aload_n 1, 1), (104, .iload_n 2, 1), (105, .iconst 5, 1), (106, .iconst 1, 1), (107, .invokevirtual 133, 3), (110, .return_, 1)]
theorem dtX3_fold_56_1_ok : dcAll cX3_fold dtX3_fold_56_1 = true := sorry
theorem dX3_fold_56 : decode cX3_fold 56 = .ok (.iconst 5, 1) := sorry
theorem dX3_fold_57 : decode cX3_fold 57 = .ok (.invokevirtual 99, 3) := sorry
theorem dX3_fold_60 : decode cX3_fold 60 = .ok (.ifCond .ne 7, 3) := sorry
theorem dX3_fold_63 : decode cX3_fold 63 = .ok (.iconst 1, 1) := sorry
theorem dX3_fold_64 : decode cX3_fold 64 = .ok (.goto 4, 3) := sorry
theorem dX3_fold_67 : decode cX3_fold 67 = .ok (.iconst 0, 1) := sorry
theorem dX3_fold_68 : decode cX3_fold 68 = .ok (.istore 6, 2) := sorry
theorem dX3_fold_70 : decode cX3_fold 70 = .ok (.iload 6, 2) := sorry
theorem dX3_fold_72 : decode cX3_fold 72 = .ok (.ifCond .ne 24, 3) := sorry
theorem dX3_fold_75 : decode cX3_fold 75 = .ok (.iload_n 0, 1) := sorry
theorem dX3_fold_76 : decode cX3_fold 76 = .ok (.bipush 18, 2) := sorry
theorem dX3_fold_78 : decode cX3_fold 78 = .ok (.if_icmp .ne 12, 3) := sorry
theorem dX3_fold_81 : decode cX3_fold 81 = .ok (.iload_n 3, 1) := sorry
theorem dX3_fold_82 : decode cX3_fold 82 = .ok (.iload 5, 2) := sorry
theorem dX3_fold_84 : decode cX3_fold 84 = .ok (.if_icmp .ge 19, 3) := sorry
theorem dX3_fold_87 : decode cX3_fold 87 = .ok (.goto 9, 3) := sorry
theorem dX3_fold_90 : decode cX3_fold 90 = .ok (.iload_n 3, 1) := sorry
theorem dX3_fold_91 : decode cX3_fold 91 = .ok (.iload 5, 2) := sorry
theorem dX3_fold_93 : decode cX3_fold 93 = .ok (.if_icmp .le 10, 3) := sorry
theorem dX3_fold_96 : decode cX3_fold 96 = .ok (.aload_n 1, 1) := sorry
theorem dX3_fold_97 : decode cX3_fold 97 = .ok (.iload_n 2, 1) := sorry
theorem dX3_fold_98 : decode cX3_fold 98 = .ok (.iconst 4, 1) := sorry
theorem dX3_fold_99 : decode cX3_fold 99 = .ok (.iload_n 3, 1) := sorry
theorem dX3_fold_100 : decode cX3_fold 100 = .ok (.invokevirtual 133, 3) := sorry
theorem dX3_fold_103 : decode cX3_fold 103 = .ok (.aload_n 1, 1) := sorry
theorem dX3_fold_104 : decode cX3_fold 104 = .ok (.iload_n 2, 1) := sorry
theorem dX3_fold_105 : decode cX3_fold 105 = .ok (.iconst 5, 1) := sorry
theorem dX3_fold_106 : decode cX3_fold 106 = .ok (.iconst 1, 1) := sorry
theorem dX3_fold_107 : decode cX3_fold 107 = .ok (.invokevirtual 133, 3) := sorry
theorem dX3_fold_110 : decode cX3_fold 110 = .ok (.return_, 1) := sorry
set_option maxRecDepth 20000 in
theorem ggX3_ring_X3_clearKey : GoodIn wsX3_ring wsX3_clearKey := sorry
set_option maxRecDepth 20000 in
theorem gX3_ring_X3_clearKey : GoodIn wsX3_ring (wsV RX3 78 RX3 yX3_clearKey wsX3_clearKey) := sorry
set_option maxRecDepth 20000 in
theorem ggX3_ring_X4_amount : GoodIn wsX3_ring wsX4_amount := sorry
set_option maxRecDepth 20000 in
theorem gX3_ring_X4_amount : GoodIn wsX3_ring (wsV RX3 70 RX4 yX4_amount wsX4_amount) := sorry
set_option maxRecDepth 20000 in
theorem ggX3_ring_X4_copyKey : GoodIn wsX3_ring wsX4_copyKey := sorry
set_option maxRecDepth 20000 in
theorem gX3_ring_X4_copyKey : GoodIn wsX3_ring (wsV RX3 137 RX4 yX4_copyKey wsX4_copyKey) := sorry
set_option maxRecDepth 20000 in
theorem ggX3_ring_X3_arrive : GoodIn wsX3_ring wsX3_arrive := sorry
set_option maxRecDepth 20000 in
theorem gX3_ring_X3_arrive : GoodIn wsX3_ring (wsV RX3 141 RX3 yX3_arrive wsX3_arrive) := sorry
set_option maxRecDepth 20000 in
theorem ggX3_ring_X3_goOn : GoodIn wsX3_ring wsX3_goOn := sorry
set_option maxRecDepth 20000 in
theorem gX3_ring_X3_goOn : GoodIn wsX3_ring (wsV RX3 144 RX3 yX3_goOn wsX3_goOn) := sorry
def dtX3_ring_0_0 : List (Nat × Instr × Nat) := [(0, .aload_n 0, 1), (1, .invokevirtual 78, 3), (4, .iconst 0, 1), (5, .istore 5, 2), (7, .iload 5, 2), (9, .aload_n 2, 1), (10, .getfield 23, 3), (13, .if_icmp .ge 47, 3), (16, .aload_n 2, 1), (17, .iload 5, 2), (19, .invokevirtual 70, 3), (22, .ifCond .le 32, 3), (25, .aload_n 2, 1), (26, .iload 5, 2), (28, .iconst 0, 1), (29, .aload_n 0, 1), (30, .getfield 11, 3), (33, .invokevirtual 137, 3), (36, .aload_n 0, 1), (37, .aload 4, 2), (39, .aload 4, 2), (41, .getfield 23, 3), (44, .iconst 0, 1), (45, .invokevirtual 141, 3), (48, .ifCond .ne 6, 3), (51, .bipush (-3), 2), (53, .ireturn, 1), (54, .iinc 5 1, 3), (57, .goto (-50), 3), (60, .iconst 0, 1), (61, .istore 5, 2), (63, .iconst 1, 1)]
theorem dtX3_ring_0_0_ok : dcAll cX3_ring dtX3_ring_0_0 = true := sorry
theorem dX3_ring_0 : decode cX3_ring 0 = .ok (.aload_n 0, 1) := sorry
theorem dX3_ring_1 : decode cX3_ring 1 = .ok (.invokevirtual 78, 3) := sorry
theorem dX3_ring_4 : decode cX3_ring 4 = .ok (.iconst 0, 1) := sorry
theorem dX3_ring_5 : decode cX3_ring 5 = .ok (.istore 5, 2) := sorry
theorem dX3_ring_7 : decode cX3_ring 7 = .ok (.iload 5, 2) := sorry
theorem dX3_ring_9 : decode cX3_ring 9 = .ok (.aload_n 2, 1) := sorry
theorem dX3_ring_10 : decode cX3_ring 10 = .ok (.getfield 23, 3) := sorry
theorem dX3_ring_13 : decode cX3_ring 13 = .ok (.if_icmp .ge 47, 3) := sorry
theorem dX3_ring_16 : decode cX3_ring 16 = .ok (.aload_n 2, 1) := sorry
theorem dX3_ring_17 : decode cX3_ring 17 = .ok (.iload 5, 2) := sorry
theorem dX3_ring_19 : decode cX3_ring 19 = .ok (.invokevirtual 70, 3) := sorry
theorem dX3_ring_22 : decode cX3_ring 22 = .ok (.ifCond .le 32, 3) := sorry
theorem dX3_ring_25 : decode cX3_ring 25 = .ok (.aload_n 2, 1) := sorry
theorem dX3_ring_26 : decode cX3_ring 26 = .ok (.iload 5, 2) := sorry
theorem dX3_ring_28 : decode cX3_ring 28 = .ok (.iconst 0, 1) := sorry
theorem dX3_ring_29 : decode cX3_ring 29 = .ok (.aload_n 0, 1) := sorry
theorem dX3_ring_30 : decode cX3_ring 30 = .ok (.getfield 11, 3) := sorry
theorem dX3_ring_33 : decode cX3_ring 33 = .ok (.invokevirtual 137, 3) := sorry
theorem dX3_ring_36 : decode cX3_ring 36 = .ok (.aload_n 0, 1) := sorry
theorem dX3_ring_37 : decode cX3_ring 37 = .ok (.aload 4, 2) := sorry
theorem dX3_ring_39 : decode cX3_ring 39 = .ok (.aload 4, 2) := sorry
theorem dX3_ring_41 : decode cX3_ring 41 = .ok (.getfield 23, 3) := sorry
theorem dX3_ring_44 : decode cX3_ring 44 = .ok (.iconst 0, 1) := sorry
theorem dX3_ring_45 : decode cX3_ring 45 = .ok (.invokevirtual 141, 3) := sorry
theorem dX3_ring_48 : decode cX3_ring 48 = .ok (.ifCond .ne 6, 3) := sorry
theorem dX3_ring_51 : decode cX3_ring 51 = .ok (.bipush (-3), 2) := sorry
theorem dX3_ring_53 : decode cX3_ring 53 = .ok (.ireturn, 1) := sorry
theorem dX3_ring_54 : decode cX3_ring 54 = .ok (.iinc 5 1, 3) := sorry
theorem dX3_ring_57 : decode cX3_ring 57 = .ok (.goto (-50), 3) := sorry
theorem dX3_ring_60 : decode cX3_ring 60 = .ok (.iconst 0, 1) := sorry
theorem dX3_ring_61 : decode cX3_ring 61 = .ok (.istore 5, 2) := sorry
theorem dX3_ring_63 : decode cX3_ring 63 = .ok (.iconst 1, 1) := sorry
def dtX3_ring_64_1 : List (Nat × Instr × Nat) := [(64, .istore 6, 2), (66, .iload 6, 2), (68, .bipush 41, 2), (70, .if_icmp .gt 69, 3), (73, .iload 5, 2), (75, .aload 4, 2), (77, .getfield 23, 3), (80, .if_icmp .ge 59, 3), (83, .aload 4, 2), (85, .getfield 23, 3), (88, .istore 7, 2), (90, .iload 5, 2), (92, .istore 8, 2), (94, .iload 8, 2), (96, .iload 7, 2), (98, .if_icmp .ge 31, 3), (101, .aload_n 0, 1), (102, .aload_n 1, 1), (103, .iload 8, 2), (105, .aload_n 3, 1), (106, .aload 4, 2), (108, .iload 6, 2), (110, .invokevirtual 144, 3), (113, .istore 9, 2), (115, .iload 9, 2), (117, .ifCond .eq 6, 3), (120, .iload 9, 2), (122, .ireturn, 1), (123, .iinc 8 1, 3), (126, .goto (-32), 3), (129, .iload 7, 2), (131, .istore 5, 2)]
theorem dtX3_ring_64_1_ok : dcAll cX3_ring dtX3_ring_64_1 = true := sorry
theorem dX3_ring_64 : decode cX3_ring 64 = .ok (.istore 6, 2) := sorry
theorem dX3_ring_66 : decode cX3_ring 66 = .ok (.iload 6, 2) := sorry
theorem dX3_ring_68 : decode cX3_ring 68 = .ok (.bipush 41, 2) := sorry
theorem dX3_ring_70 : decode cX3_ring 70 = .ok (.if_icmp .gt 69, 3) := sorry
theorem dX3_ring_73 : decode cX3_ring 73 = .ok (.iload 5, 2) := sorry
theorem dX3_ring_75 : decode cX3_ring 75 = .ok (.aload 4, 2) := sorry
theorem dX3_ring_77 : decode cX3_ring 77 = .ok (.getfield 23, 3) := sorry
theorem dX3_ring_80 : decode cX3_ring 80 = .ok (.if_icmp .ge 59, 3) := sorry
theorem dX3_ring_83 : decode cX3_ring 83 = .ok (.aload 4, 2) := sorry
theorem dX3_ring_85 : decode cX3_ring 85 = .ok (.getfield 23, 3) := sorry
theorem dX3_ring_88 : decode cX3_ring 88 = .ok (.istore 7, 2) := sorry
theorem dX3_ring_90 : decode cX3_ring 90 = .ok (.iload 5, 2) := sorry
theorem dX3_ring_92 : decode cX3_ring 92 = .ok (.istore 8, 2) := sorry
theorem dX3_ring_94 : decode cX3_ring 94 = .ok (.iload 8, 2) := sorry
theorem dX3_ring_96 : decode cX3_ring 96 = .ok (.iload 7, 2) := sorry
theorem dX3_ring_98 : decode cX3_ring 98 = .ok (.if_icmp .ge 31, 3) := sorry
theorem dX3_ring_101 : decode cX3_ring 101 = .ok (.aload_n 0, 1) := sorry
theorem dX3_ring_102 : decode cX3_ring 102 = .ok (.aload_n 1, 1) := sorry
theorem dX3_ring_103 : decode cX3_ring 103 = .ok (.iload 8, 2) := sorry
theorem dX3_ring_105 : decode cX3_ring 105 = .ok (.aload_n 3, 1) := sorry
theorem dX3_ring_106 : decode cX3_ring 106 = .ok (.aload 4, 2) := sorry
theorem dX3_ring_108 : decode cX3_ring 108 = .ok (.iload 6, 2) := sorry
theorem dX3_ring_110 : decode cX3_ring 110 = .ok (.invokevirtual 144, 3) := sorry
theorem dX3_ring_113 : decode cX3_ring 113 = .ok (.istore 9, 2) := sorry
theorem dX3_ring_115 : decode cX3_ring 115 = .ok (.iload 9, 2) := sorry
theorem dX3_ring_117 : decode cX3_ring 117 = .ok (.ifCond .eq 6, 3) := sorry
theorem dX3_ring_120 : decode cX3_ring 120 = .ok (.iload 9, 2) := sorry
theorem dX3_ring_122 : decode cX3_ring 122 = .ok (.ireturn, 1) := sorry
theorem dX3_ring_123 : decode cX3_ring 123 = .ok (.iinc 8 1, 3) := sorry
theorem dX3_ring_126 : decode cX3_ring 126 = .ok (.goto (-32), 3) := sorry
theorem dX3_ring_129 : decode cX3_ring 129 = .ok (.iload 7, 2) := sorry
theorem dX3_ring_131 : decode cX3_ring 131 = .ok (.istore 5, 2) := sorry
def dtX3_ring_133_2 : List (Nat × Instr × Nat) := [(133, .iinc 6 1, 3), (136, .goto (-70), 3), (139, .iconst 0, 1), (140, .ireturn, 1)]
theorem dtX3_ring_133_2_ok : dcAll cX3_ring dtX3_ring_133_2 = true := sorry
theorem dX3_ring_133 : decode cX3_ring 133 = .ok (.iinc 6 1, 3) := sorry
theorem dX3_ring_136 : decode cX3_ring 136 = .ok (.goto (-70), 3) := sorry
theorem dX3_ring_139 : decode cX3_ring 139 = .ok (.iconst 0, 1) := sorry
theorem dX3_ring_140 : decode cX3_ring 140 = .ok (.ireturn, 1) := sorry
set_option maxRecDepth 20000 in
theorem ggX3_arrive_X4_insert : GoodIn wsX3_arrive wsX4_insert := sorry
set_option maxRecDepth 20000 in
theorem gX3_arrive_X4_insert : GoodIn wsX3_arrive (wsV RX3 120 RX4 yX4_insert wsX4_insert) := sorry
set_option maxRecDepth 20000 in
theorem ggX3_arrive_X4_setCell : GoodIn wsX3_arrive wsX4_setCell := sorry
set_option maxRecDepth 20000 in
theorem gX3_arrive_X4_setCell : GoodIn wsX3_arrive (wsV RX3 133 RX4 yX4_setCell wsX4_setCell) := sorry
def dtX3_arrive_0_0 : List (Nat × Instr × Nat) := [(0, .aload_n 1, 1), (1, .getfield 23, 3), (4, .iconst 4, 1), (5, .imul, 1), (6, .istore 4, 2), (8, .aload_n 1, 1), (9, .iload_n 2, 1), (10, .aload_n 0, 1), (11, .getfield 11, 3), (14, .iconst 1, 1), (15, .invokevirtual 120, 3), (18, .ifCond .ne 5, 3), (21, .iconst 0, 1), (22, .ireturn, 1), (23, .aload_n 1, 1), (24, .iload_n 2, 1), (25, .iconst 5, 1), (26, .iload_n 3, 1), (27, .invokevirtual 133, 3), (30, .aload_n 0, 1), (31, .getfield 11, 3), (34, .iconst 0, 1), (35, .aload_n 0, 1), (36, .getfield 20, 3), (39, .iload 4, 2), (41, .iconst 4, 1), (42, .invokestatic 148, 3), (45, .iconst 1, 1), (46, .ireturn, 1)]
theorem dtX3_arrive_0_0_ok : dcAll cX3_arrive dtX3_arrive_0_0 = true := sorry
theorem dX3_arrive_0 : decode cX3_arrive 0 = .ok (.aload_n 1, 1) := sorry
theorem dX3_arrive_1 : decode cX3_arrive 1 = .ok (.getfield 23, 3) := sorry
theorem dX3_arrive_4 : decode cX3_arrive 4 = .ok (.iconst 4, 1) := sorry
theorem dX3_arrive_5 : decode cX3_arrive 5 = .ok (.imul, 1) := sorry
theorem dX3_arrive_6 : decode cX3_arrive 6 = .ok (.istore 4, 2) := sorry
theorem dX3_arrive_8 : decode cX3_arrive 8 = .ok (.aload_n 1, 1) := sorry
theorem dX3_arrive_9 : decode cX3_arrive 9 = .ok (.iload_n 2, 1) := sorry
theorem dX3_arrive_10 : decode cX3_arrive 10 = .ok (.aload_n 0, 1) := sorry
theorem dX3_arrive_11 : decode cX3_arrive 11 = .ok (.getfield 11, 3) := sorry
theorem dX3_arrive_14 : decode cX3_arrive 14 = .ok (.iconst 1, 1) := sorry
theorem dX3_arrive_15 : decode cX3_arrive 15 = .ok (.invokevirtual 120, 3) := sorry
theorem dX3_arrive_18 : decode cX3_arrive 18 = .ok (.ifCond .ne 5, 3) := sorry
theorem dX3_arrive_21 : decode cX3_arrive 21 = .ok (.iconst 0, 1) := sorry
theorem dX3_arrive_22 : decode cX3_arrive 22 = .ok (.ireturn, 1) := sorry
theorem dX3_arrive_23 : decode cX3_arrive 23 = .ok (.aload_n 1, 1) := sorry
theorem dX3_arrive_24 : decode cX3_arrive 24 = .ok (.iload_n 2, 1) := sorry
theorem dX3_arrive_25 : decode cX3_arrive 25 = .ok (.iconst 5, 1) := sorry
theorem dX3_arrive_26 : decode cX3_arrive 26 = .ok (.iload_n 3, 1) := sorry
theorem dX3_arrive_27 : decode cX3_arrive 27 = .ok (.invokevirtual 133, 3) := sorry
theorem dX3_arrive_30 : decode cX3_arrive 30 = .ok (.aload_n 0, 1) := sorry
theorem dX3_arrive_31 : decode cX3_arrive 31 = .ok (.getfield 11, 3) := sorry
theorem dX3_arrive_34 : decode cX3_arrive 34 = .ok (.iconst 0, 1) := sorry
theorem dX3_arrive_35 : decode cX3_arrive 35 = .ok (.aload_n 0, 1) := sorry
theorem dX3_arrive_36 : decode cX3_arrive 36 = .ok (.getfield 20, 3) := sorry
theorem dX3_arrive_39 : decode cX3_arrive 39 = .ok (.iload 4, 2) := sorry
theorem dX3_arrive_41 : decode cX3_arrive 41 = .ok (.iconst 4, 1) := sorry
theorem dX3_arrive_42 : decode cX3_arrive 42 = .ok (.invokestatic 148, 3) := sorry
theorem dX3_arrive_45 : decode cX3_arrive 45 = .ok (.iconst 1, 1) := sorry
theorem dX3_arrive_46 : decode cX3_arrive 46 = .ok (.ireturn, 1) := sorry
set_option maxRecDepth 20000 in
theorem ggX3_goOn_X4_amount : GoodIn wsX3_goOn wsX4_amount := sorry
set_option maxRecDepth 20000 in
theorem gX3_goOn_X4_amount : GoodIn wsX3_goOn (wsV RX3 70 RX4 yX4_amount wsX4_amount) := sorry
set_option maxRecDepth 20000 in
theorem ggX3_goOn_X4_cell : GoodIn wsX3_goOn wsX4_cell := sorry
set_option maxRecDepth 20000 in
theorem gX3_goOn_X4_cell : GoodIn wsX3_goOn (wsV RX3 99 RX4 yX4_cell wsX4_cell) := sorry
set_option maxRecDepth 20000 in
theorem ggX3_goOn_X0_fillTerms : GoodIn wsX3_goOn wsX0_fillTerms := sorry
set_option maxRecDepth 20000 in
theorem gX3_goOn_X0_fillTerms : GoodIn wsX3_goOn (wsV RX3 81 RX0 yX0_fillTerms wsX0_fillTerms) := sorry
set_option maxRecDepth 20000 in
theorem ggX3_goOn_X4_find : GoodIn wsX3_goOn wsX4_find := sorry
set_option maxRecDepth 20000 in
theorem gX3_goOn_X4_find : GoodIn wsX3_goOn (wsV RX3 116 RX4 yX4_find wsX4_find) := sorry
set_option maxRecDepth 20000 in
theorem ggX3_goOn_X3_arrive : GoodIn wsX3_goOn wsX3_arrive := sorry
set_option maxRecDepth 20000 in
theorem gX3_goOn_X3_arrive : GoodIn wsX3_goOn (wsV RX3 141 RX3 yX3_arrive wsX3_arrive) := sorry
def dtX3_goOn_0_0 : List (Nat × Instr × Nat) := [(0, .aload_n 0, 1), (1, .getfield 20, 3), (4, .iload_n 2, 1), (5, .iconst 4, 1), (6, .imul, 1), (7, .aload_n 0, 1), (8, .getfield 17, 3), (11, .iconst 0, 1), (12, .iconst 4, 1), (13, .invokestatic 148, 3), (16, .aload_n 0, 1), (17, .getfield 17, 3), (20, .aload_n 1, 1), (21, .getfield 154, 3), (24, .iaload, 1), (25, .istore 6, 2), (27, .iconst 0, 1), (28, .istore 7, 2), (30, .iload 7, 2), (32, .aload_n 3, 1), (33, .getfield 23, 3), (36, .if_icmp .ge 122, 3), (39, .aload_n 3, 1), (40, .iload 7, 2), (42, .invokevirtual 70, 3), (45, .ifCond .le 107, 3), (48, .aload_n 3, 1), (49, .iload 7, 2), (51, .aload_n 1, 1), (52, .getfield 157, 3), (55, .invokevirtual 99, 3), (58, .iload 6, 2)]
theorem dtX3_goOn_0_0_ok : dcAll cX3_goOn dtX3_goOn_0_0 = true := sorry
theorem dX3_goOn_0 : decode cX3_goOn 0 = .ok (.aload_n 0, 1) := sorry
theorem dX3_goOn_1 : decode cX3_goOn 1 = .ok (.getfield 20, 3) := sorry
theorem dX3_goOn_4 : decode cX3_goOn 4 = .ok (.iload_n 2, 1) := sorry
theorem dX3_goOn_5 : decode cX3_goOn 5 = .ok (.iconst 4, 1) := sorry
theorem dX3_goOn_6 : decode cX3_goOn 6 = .ok (.imul, 1) := sorry
theorem dX3_goOn_7 : decode cX3_goOn 7 = .ok (.aload_n 0, 1) := sorry
theorem dX3_goOn_8 : decode cX3_goOn 8 = .ok (.getfield 17, 3) := sorry
theorem dX3_goOn_11 : decode cX3_goOn 11 = .ok (.iconst 0, 1) := sorry
theorem dX3_goOn_12 : decode cX3_goOn 12 = .ok (.iconst 4, 1) := sorry
theorem dX3_goOn_13 : decode cX3_goOn 13 = .ok (.invokestatic 148, 3) := sorry
theorem dX3_goOn_16 : decode cX3_goOn 16 = .ok (.aload_n 0, 1) := sorry
theorem dX3_goOn_17 : decode cX3_goOn 17 = .ok (.getfield 17, 3) := sorry
theorem dX3_goOn_20 : decode cX3_goOn 20 = .ok (.aload_n 1, 1) := sorry
theorem dX3_goOn_21 : decode cX3_goOn 21 = .ok (.getfield 154, 3) := sorry
theorem dX3_goOn_24 : decode cX3_goOn 24 = .ok (.iaload, 1) := sorry
theorem dX3_goOn_25 : decode cX3_goOn 25 = .ok (.istore 6, 2) := sorry
theorem dX3_goOn_27 : decode cX3_goOn 27 = .ok (.iconst 0, 1) := sorry
theorem dX3_goOn_28 : decode cX3_goOn 28 = .ok (.istore 7, 2) := sorry
theorem dX3_goOn_30 : decode cX3_goOn 30 = .ok (.iload 7, 2) := sorry
theorem dX3_goOn_32 : decode cX3_goOn 32 = .ok (.aload_n 3, 1) := sorry
theorem dX3_goOn_33 : decode cX3_goOn 33 = .ok (.getfield 23, 3) := sorry
theorem dX3_goOn_36 : decode cX3_goOn 36 = .ok (.if_icmp .ge 122, 3) := sorry
theorem dX3_goOn_39 : decode cX3_goOn 39 = .ok (.aload_n 3, 1) := sorry
theorem dX3_goOn_40 : decode cX3_goOn 40 = .ok (.iload 7, 2) := sorry
theorem dX3_goOn_42 : decode cX3_goOn 42 = .ok (.invokevirtual 70, 3) := sorry
theorem dX3_goOn_45 : decode cX3_goOn 45 = .ok (.ifCond .le 107, 3) := sorry
theorem dX3_goOn_48 : decode cX3_goOn 48 = .ok (.aload_n 3, 1) := sorry
theorem dX3_goOn_49 : decode cX3_goOn 49 = .ok (.iload 7, 2) := sorry
theorem dX3_goOn_51 : decode cX3_goOn 51 = .ok (.aload_n 1, 1) := sorry
theorem dX3_goOn_52 : decode cX3_goOn 52 = .ok (.getfield 157, 3) := sorry
theorem dX3_goOn_55 : decode cX3_goOn 55 = .ok (.invokevirtual 99, 3) := sorry
theorem dX3_goOn_58 : decode cX3_goOn 58 = .ok (.iload 6, 2) := sorry
def dtX3_goOn_60_1 : List (Nat × Instr × Nat) := [(60, .if_icmp .eq 6, 3), (63, .goto 89, 3), (66, .aload_n 3, 1), (67, .getfield 63, 3), (70, .iload 7, 2), (72, .bipush 6, 2), (74, .imul, 1), (75, .aload_n 0, 1), (76, .getfield 17, 3), (79, .aload_n 1, 1), (80, .getfield 96, 3), (83, .aload_n 1, 1), (84, .getfield 103, 3), (87, .invokestatic 148, 3), (90, .aload_n 1, 1), (91, .aload_n 0, 1), (92, .getfield 17, 3), (95, .iconst 0, 1), (96, .aload_n 0, 1), (97, .getfield 11, 3), (100, .invokevirtual 81, 3), (103, .aload 4, 2), (105, .aload_n 0, 1), (106, .getfield 11, 3), (109, .invokevirtual 116, 3), (112, .istore 8, 2), (114, .iload 8, 2), (116, .ifCond .ge 13, 3), (119, .iload 5, 2), (121, .bipush 40, 2), (123, .if_icmp .le 6, 3), (126, .bipush (-4), 2)]
theorem dtX3_goOn_60_1_ok : dcAll cX3_goOn dtX3_goOn_60_1 = true := sorry
theorem dX3_goOn_60 : decode cX3_goOn 60 = .ok (.if_icmp .eq 6, 3) := sorry
theorem dX3_goOn_63 : decode cX3_goOn 63 = .ok (.goto 89, 3) := sorry
theorem dX3_goOn_66 : decode cX3_goOn 66 = .ok (.aload_n 3, 1) := sorry
theorem dX3_goOn_67 : decode cX3_goOn 67 = .ok (.getfield 63, 3) := sorry
theorem dX3_goOn_70 : decode cX3_goOn 70 = .ok (.iload 7, 2) := sorry
theorem dX3_goOn_72 : decode cX3_goOn 72 = .ok (.bipush 6, 2) := sorry
theorem dX3_goOn_74 : decode cX3_goOn 74 = .ok (.imul, 1) := sorry
theorem dX3_goOn_75 : decode cX3_goOn 75 = .ok (.aload_n 0, 1) := sorry
theorem dX3_goOn_76 : decode cX3_goOn 76 = .ok (.getfield 17, 3) := sorry
theorem dX3_goOn_79 : decode cX3_goOn 79 = .ok (.aload_n 1, 1) := sorry
theorem dX3_goOn_80 : decode cX3_goOn 80 = .ok (.getfield 96, 3) := sorry
theorem dX3_goOn_83 : decode cX3_goOn 83 = .ok (.aload_n 1, 1) := sorry
theorem dX3_goOn_84 : decode cX3_goOn 84 = .ok (.getfield 103, 3) := sorry
theorem dX3_goOn_87 : decode cX3_goOn 87 = .ok (.invokestatic 148, 3) := sorry
theorem dX3_goOn_90 : decode cX3_goOn 90 = .ok (.aload_n 1, 1) := sorry
theorem dX3_goOn_91 : decode cX3_goOn 91 = .ok (.aload_n 0, 1) := sorry
theorem dX3_goOn_92 : decode cX3_goOn 92 = .ok (.getfield 17, 3) := sorry
theorem dX3_goOn_95 : decode cX3_goOn 95 = .ok (.iconst 0, 1) := sorry
theorem dX3_goOn_96 : decode cX3_goOn 96 = .ok (.aload_n 0, 1) := sorry
theorem dX3_goOn_97 : decode cX3_goOn 97 = .ok (.getfield 11, 3) := sorry
theorem dX3_goOn_100 : decode cX3_goOn 100 = .ok (.invokevirtual 81, 3) := sorry
theorem dX3_goOn_103 : decode cX3_goOn 103 = .ok (.aload 4, 2) := sorry
theorem dX3_goOn_105 : decode cX3_goOn 105 = .ok (.aload_n 0, 1) := sorry
theorem dX3_goOn_106 : decode cX3_goOn 106 = .ok (.getfield 11, 3) := sorry
theorem dX3_goOn_109 : decode cX3_goOn 109 = .ok (.invokevirtual 116, 3) := sorry
theorem dX3_goOn_112 : decode cX3_goOn 112 = .ok (.istore 8, 2) := sorry
theorem dX3_goOn_114 : decode cX3_goOn 114 = .ok (.iload 8, 2) := sorry
theorem dX3_goOn_116 : decode cX3_goOn 116 = .ok (.ifCond .ge 13, 3) := sorry
theorem dX3_goOn_119 : decode cX3_goOn 119 = .ok (.iload 5, 2) := sorry
theorem dX3_goOn_121 : decode cX3_goOn 121 = .ok (.bipush 40, 2) := sorry
theorem dX3_goOn_123 : decode cX3_goOn 123 = .ok (.if_icmp .le 6, 3) := sorry
theorem dX3_goOn_126 : decode cX3_goOn 126 = .ok (.bipush (-4), 2) := sorry
def dtX3_goOn_128_2 : List (Nat × Instr × Nat) := [(128, .ireturn, 1), (129, .iload 8, 2), (131, .ifCond .ge 21, 3), (134, .aload_n 0, 1), (135, .aload 4, 2), (137, .iconst (-1), 1), (138, .iload 8, 2), (140, .isub, 1), (141, .iload 5, 2), (143, .invokevirtual 141, 3), (146, .ifCond .ne 6, 3), (149, .bipush (-3), 2), (151, .ireturn, 1), (152, .iinc 7 1, 3), (155, .goto (-125), 3), (158, .iconst 0, 1), (159, .ireturn, 1)]
theorem dtX3_goOn_128_2_ok : dcAll cX3_goOn dtX3_goOn_128_2 = true := sorry
theorem dX3_goOn_128 : decode cX3_goOn 128 = .ok (.ireturn, 1) := sorry
theorem dX3_goOn_129 : decode cX3_goOn 129 = .ok (.iload 8, 2) := sorry
theorem dX3_goOn_131 : decode cX3_goOn 131 = .ok (.ifCond .ge 21, 3) := sorry
theorem dX3_goOn_134 : decode cX3_goOn 134 = .ok (.aload_n 0, 1) := sorry
theorem dX3_goOn_135 : decode cX3_goOn 135 = .ok (.aload 4, 2) := sorry
theorem dX3_goOn_137 : decode cX3_goOn 137 = .ok (.iconst (-1), 1) := sorry
theorem dX3_goOn_138 : decode cX3_goOn 138 = .ok (.iload 8, 2) := sorry
theorem dX3_goOn_140 : decode cX3_goOn 140 = .ok (.isub, 1) := sorry
theorem dX3_goOn_141 : decode cX3_goOn 141 = .ok (.iload 5, 2) := sorry
theorem dX3_goOn_143 : decode cX3_goOn 143 = .ok (.invokevirtual 141, 3) := sorry
theorem dX3_goOn_146 : decode cX3_goOn 146 = .ok (.ifCond .ne 6, 3) := sorry
theorem dX3_goOn_149 : decode cX3_goOn 149 = .ok (.bipush (-3), 2) := sorry
theorem dX3_goOn_151 : decode cX3_goOn 151 = .ok (.ireturn, 1) := sorry
theorem dX3_goOn_152 : decode cX3_goOn 152 = .ok (.iinc 7 1, 3) := sorry
theorem dX3_goOn_155 : decode cX3_goOn 155 = .ok (.goto (-125), 3) := sorry
theorem dX3_goOn_158 : decode cX3_goOn 158 = .ok (.iconst 0, 1) := sorry
theorem dX3_goOn_159 : decode cX3_goOn 159 = .ok (.ireturn, 1) := sorry
def dtX4_init_0_0 : List (Nat × Instr × Nat) := [(0, .aload_n 0, 1), (1, .invokespecial 1, 3), (4, .aload_n 0, 1), (5, .iload_n 1, 1), (6, .putfield 7, 3), (9, .aload_n 0, 1), (10, .iload_n 2, 1), (11, .putfield 13, 3), (14, .aload_n 0, 1), (15, .iload_n 2, 1), (16, .bipush 6, 2), (18, .imul, 1), (19, .newarray .int, 2), (21, .putfield 16, 3), (24, .return_, 1)]
theorem dtX4_init_0_0_ok : dcAll cX4_init dtX4_init_0_0 = true := sorry
theorem dX4_init_0 : decode cX4_init 0 = .ok (.aload_n 0, 1) := sorry
theorem dX4_init_1 : decode cX4_init 1 = .ok (.invokespecial 1, 3) := sorry
theorem dX4_init_4 : decode cX4_init 4 = .ok (.aload_n 0, 1) := sorry
theorem dX4_init_5 : decode cX4_init 5 = .ok (.iload_n 1, 1) := sorry
theorem dX4_init_6 : decode cX4_init 6 = .ok (.putfield 7, 3) := sorry
theorem dX4_init_9 : decode cX4_init 9 = .ok (.aload_n 0, 1) := sorry
theorem dX4_init_10 : decode cX4_init 10 = .ok (.iload_n 2, 1) := sorry
theorem dX4_init_11 : decode cX4_init 11 = .ok (.putfield 13, 3) := sorry
theorem dX4_init_14 : decode cX4_init 14 = .ok (.aload_n 0, 1) := sorry
theorem dX4_init_15 : decode cX4_init 15 = .ok (.iload_n 2, 1) := sorry
theorem dX4_init_16 : decode cX4_init 16 = .ok (.bipush 6, 2) := sorry
theorem dX4_init_18 : decode cX4_init 18 = .ok (.imul, 1) := sorry
theorem dX4_init_19 : decode cX4_init 19 = .ok (.newarray .int, 2) := sorry
theorem dX4_init_21 : decode cX4_init 21 = .ok (.putfield 16, 3) := sorry
theorem dX4_init_24 : decode cX4_init 24 = .ok (.return_, 1) := sorry
def dtX4_cell_0_0 : List (Nat × Instr × Nat) := [(0, .aload_n 0, 1), (1, .getfield 16, 3), (4, .iload_n 1, 1), (5, .bipush 6, 2), (7, .imul, 1), (8, .iload_n 2, 1), (9, .iadd, 1), (10, .iaload, 1), (11, .ireturn, 1)]
theorem dtX4_cell_0_0_ok : dcAll cX4_cell dtX4_cell_0_0 = true := sorry
theorem dX4_cell_0 : decode cX4_cell 0 = .ok (.aload_n 0, 1) := sorry
theorem dX4_cell_1 : decode cX4_cell 1 = .ok (.getfield 16, 3) := sorry
theorem dX4_cell_4 : decode cX4_cell 4 = .ok (.iload_n 1, 1) := sorry
theorem dX4_cell_5 : decode cX4_cell 5 = .ok (.bipush 6, 2) := sorry
theorem dX4_cell_7 : decode cX4_cell 7 = .ok (.imul, 1) := sorry
theorem dX4_cell_8 : decode cX4_cell 8 = .ok (.iload_n 2, 1) := sorry
theorem dX4_cell_9 : decode cX4_cell 9 = .ok (.iadd, 1) := sorry
theorem dX4_cell_10 : decode cX4_cell 10 = .ok (.iaload, 1) := sorry
theorem dX4_cell_11 : decode cX4_cell 11 = .ok (.ireturn, 1) := sorry
def dtX4_setCell_0_0 : List (Nat × Instr × Nat) := [(0, .aload_n 0, 1), (1, .getfield 16, 3), (4, .iload_n 1, 1), (5, .bipush 6, 2), (7, .imul, 1), (8, .iload_n 2, 1), (9, .iadd, 1), (10, .iload_n 3, 1), (11, .iastore, 1), (12, .return_, 1)]
theorem dtX4_setCell_0_0_ok : dcAll cX4_setCell dtX4_setCell_0_0 = true := sorry
theorem dX4_setCell_0 : decode cX4_setCell 0 = .ok (.aload_n 0, 1) := sorry
theorem dX4_setCell_1 : decode cX4_setCell 1 = .ok (.getfield 16, 3) := sorry
theorem dX4_setCell_4 : decode cX4_setCell 4 = .ok (.iload_n 1, 1) := sorry
theorem dX4_setCell_5 : decode cX4_setCell 5 = .ok (.bipush 6, 2) := sorry
theorem dX4_setCell_7 : decode cX4_setCell 7 = .ok (.imul, 1) := sorry
theorem dX4_setCell_8 : decode cX4_setCell 8 = .ok (.iload_n 2, 1) := sorry
theorem dX4_setCell_9 : decode cX4_setCell 9 = .ok (.iadd, 1) := sorry
theorem dX4_setCell_10 : decode cX4_setCell 10 = .ok (.iload_n 3, 1) := sorry
theorem dX4_setCell_11 : decode cX4_setCell 11 = .ok (.iastore, 1) := sorry
theorem dX4_setCell_12 : decode cX4_setCell 12 = .ok (.return_, 1) := sorry
def dtX4_amount_0_0 : List (Nat × Instr × Nat) := [(0, .aload_n 0, 1), (1, .getfield 16, 3), (4, .iload_n 1, 1), (5, .bipush 6, 2), (7, .imul, 1), (8, .aload_n 0, 1), (9, .getfield 7, 3), (12, .iadd, 1), (13, .iaload, 1), (14, .ireturn, 1)]
theorem dtX4_amount_0_0_ok : dcAll cX4_amount dtX4_amount_0_0 = true := sorry
theorem dX4_amount_0 : decode cX4_amount 0 = .ok (.aload_n 0, 1) := sorry
theorem dX4_amount_1 : decode cX4_amount 1 = .ok (.getfield 16, 3) := sorry
theorem dX4_amount_4 : decode cX4_amount 4 = .ok (.iload_n 1, 1) := sorry
theorem dX4_amount_5 : decode cX4_amount 5 = .ok (.bipush 6, 2) := sorry
theorem dX4_amount_7 : decode cX4_amount 7 = .ok (.imul, 1) := sorry
theorem dX4_amount_8 : decode cX4_amount 8 = .ok (.aload_n 0, 1) := sorry
theorem dX4_amount_9 : decode cX4_amount 9 = .ok (.getfield 7, 3) := sorry
theorem dX4_amount_12 : decode cX4_amount 12 = .ok (.iadd, 1) := sorry
theorem dX4_amount_13 : decode cX4_amount 13 = .ok (.iaload, 1) := sorry
theorem dX4_amount_14 : decode cX4_amount 14 = .ok (.ireturn, 1) := sorry
set_option maxRecDepth 20000 in
theorem ggX4_amountOf_X4_find : GoodIn wsX4_amountOf wsX4_find := sorry
set_option maxRecDepth 20000 in
theorem gX4_amountOf_X4_find : GoodIn wsX4_amountOf (wsV RX4 20 RX4 yX4_find wsX4_find) := sorry
set_option maxRecDepth 20000 in
theorem ggX4_amountOf_X4_amount : GoodIn wsX4_amountOf wsX4_amount := sorry
set_option maxRecDepth 20000 in
theorem gX4_amountOf_X4_amount : GoodIn wsX4_amountOf (wsV RX4 24 RX4 yX4_amount wsX4_amount) := sorry
def dtX4_amountOf_0_0 : List (Nat × Instr × Nat) := [(0, .aload_n 0, 1), (1, .aload_n 1, 1), (2, .invokevirtual 20, 3), (5, .istore_n 2, 1), (6, .iload_n 2, 1), (7, .ifCond .ge 7, 3), (10, .iconst 0, 1), (11, .goto 8, 3), (14, .aload_n 0, 1), (15, .iload_n 2, 1), (16, .invokevirtual 24, 3), (19, .ireturn, 1)]
theorem dtX4_amountOf_0_0_ok : dcAll cX4_amountOf dtX4_amountOf_0_0 = true := sorry
theorem dX4_amountOf_0 : decode cX4_amountOf 0 = .ok (.aload_n 0, 1) := sorry
theorem dX4_amountOf_1 : decode cX4_amountOf 1 = .ok (.aload_n 1, 1) := sorry
theorem dX4_amountOf_2 : decode cX4_amountOf 2 = .ok (.invokevirtual 20, 3) := sorry
theorem dX4_amountOf_5 : decode cX4_amountOf 5 = .ok (.istore_n 2, 1) := sorry
theorem dX4_amountOf_6 : decode cX4_amountOf 6 = .ok (.iload_n 2, 1) := sorry
theorem dX4_amountOf_7 : decode cX4_amountOf 7 = .ok (.ifCond .ge 7, 3) := sorry
theorem dX4_amountOf_10 : decode cX4_amountOf 10 = .ok (.iconst 0, 1) := sorry
theorem dX4_amountOf_11 : decode cX4_amountOf 11 = .ok (.goto 8, 3) := sorry
theorem dX4_amountOf_14 : decode cX4_amountOf 14 = .ok (.aload_n 0, 1) := sorry
theorem dX4_amountOf_15 : decode cX4_amountOf 15 = .ok (.iload_n 2, 1) := sorry
theorem dX4_amountOf_16 : decode cX4_amountOf 16 = .ok (.invokevirtual 24, 3) := sorry
theorem dX4_amountOf_19 : decode cX4_amountOf 19 = .ok (.ireturn, 1) := sorry
def dtX4_copyKey_0_0 : List (Nat × Instr × Nat) := [(0, .aload_n 0, 1), (1, .getfield 16, 3), (4, .iload_n 1, 1), (5, .bipush 6, 2), (7, .imul, 1), (8, .iload_n 2, 1), (9, .iadd, 1), (10, .aload_n 3, 1), (11, .iconst 0, 1), (12, .aload_n 0, 1), (13, .getfield 7, 3), (16, .iload_n 2, 1), (17, .isub, 1), (18, .invokestatic 28, 3), (21, .return_, 1)]
theorem dtX4_copyKey_0_0_ok : dcAll cX4_copyKey dtX4_copyKey_0_0 = true := sorry
theorem dX4_copyKey_0 : decode cX4_copyKey 0 = .ok (.aload_n 0, 1) := sorry
theorem dX4_copyKey_1 : decode cX4_copyKey 1 = .ok (.getfield 16, 3) := sorry
theorem dX4_copyKey_4 : decode cX4_copyKey 4 = .ok (.iload_n 1, 1) := sorry
theorem dX4_copyKey_5 : decode cX4_copyKey 5 = .ok (.bipush 6, 2) := sorry
theorem dX4_copyKey_7 : decode cX4_copyKey 7 = .ok (.imul, 1) := sorry
theorem dX4_copyKey_8 : decode cX4_copyKey 8 = .ok (.iload_n 2, 1) := sorry
theorem dX4_copyKey_9 : decode cX4_copyKey 9 = .ok (.iadd, 1) := sorry
theorem dX4_copyKey_10 : decode cX4_copyKey 10 = .ok (.aload_n 3, 1) := sorry
theorem dX4_copyKey_11 : decode cX4_copyKey 11 = .ok (.iconst 0, 1) := sorry
theorem dX4_copyKey_12 : decode cX4_copyKey 12 = .ok (.aload_n 0, 1) := sorry
theorem dX4_copyKey_13 : decode cX4_copyKey 13 = .ok (.getfield 7, 3) := sorry
theorem dX4_copyKey_16 : decode cX4_copyKey 16 = .ok (.iload_n 2, 1) := sorry
theorem dX4_copyKey_17 : decode cX4_copyKey 17 = .ok (.isub, 1) := sorry
theorem dX4_copyKey_18 : decode cX4_copyKey 18 = .ok (.invokestatic 28, 3) := sorry
theorem dX4_copyKey_21 : decode cX4_copyKey 21 = .ok (.return_, 1) := sorry
set_option maxRecDepth 20000 in
theorem ggX4_find_X4_compareRow : GoodIn wsX4_find wsX4_compareRow := sorry
set_option maxRecDepth 20000 in
theorem gX4_find_X4_compareRow : GoodIn wsX4_find (wsV RX4 37 RX4 yX4_compareRow wsX4_compareRow) := sorry
def dtX4_find_0_0 : List (Nat × Instr × Nat) := [(0, .iconst 0, 1), (1, .istore_n 2, 1), (2, .aload_n 0, 1), (3, .getfield 34, 3), (6, .istore_n 3, 1), (7, .iload_n 2, 1), (8, .iload_n 3, 1), (9, .if_icmp .ge 47, 3), (12, .iload_n 2, 1), (13, .iload_n 3, 1), (14, .iadd, 1), (15, .iconst 1, 1), (16, .iushr, 1), (17, .istore 4, 2), (19, .aload_n 0, 1), (20, .iload 4, 2), (22, .aload_n 1, 1), (23, .iconst 0, 1), (24, .invokevirtual 37, 3), (27, .istore 5, 2), (29, .iload 5, 2), (31, .ifCond .ne 6, 3), (34, .iload 4, 2), (36, .ireturn, 1), (37, .iload 5, 2), (39, .ifCond .ge 11, 3), (42, .iload 4, 2), (44, .iconst 1, 1), (45, .iadd, 1), (46, .istore_n 2, 1), (47, .goto 6, 3), (50, .iload 4, 2)]
theorem dtX4_find_0_0_ok : dcAll cX4_find dtX4_find_0_0 = true := sorry
theorem dX4_find_0 : decode cX4_find 0 = .ok (.iconst 0, 1) := sorry
theorem dX4_find_1 : decode cX4_find 1 = .ok (.istore_n 2, 1) := sorry
theorem dX4_find_2 : decode cX4_find 2 = .ok (.aload_n 0, 1) := sorry
theorem dX4_find_3 : decode cX4_find 3 = .ok (.getfield 34, 3) := sorry
theorem dX4_find_6 : decode cX4_find 6 = .ok (.istore_n 3, 1) := sorry
theorem dX4_find_7 : decode cX4_find 7 = .ok (.iload_n 2, 1) := sorry
theorem dX4_find_8 : decode cX4_find 8 = .ok (.iload_n 3, 1) := sorry
theorem dX4_find_9 : decode cX4_find 9 = .ok (.if_icmp .ge 47, 3) := sorry
theorem dX4_find_12 : decode cX4_find 12 = .ok (.iload_n 2, 1) := sorry
theorem dX4_find_13 : decode cX4_find 13 = .ok (.iload_n 3, 1) := sorry
theorem dX4_find_14 : decode cX4_find 14 = .ok (.iadd, 1) := sorry
theorem dX4_find_15 : decode cX4_find 15 = .ok (.iconst 1, 1) := sorry
theorem dX4_find_16 : decode cX4_find 16 = .ok (.iushr, 1) := sorry
theorem dX4_find_17 : decode cX4_find 17 = .ok (.istore 4, 2) := sorry
theorem dX4_find_19 : decode cX4_find 19 = .ok (.aload_n 0, 1) := sorry
theorem dX4_find_20 : decode cX4_find 20 = .ok (.iload 4, 2) := sorry
theorem dX4_find_22 : decode cX4_find 22 = .ok (.aload_n 1, 1) := sorry
theorem dX4_find_23 : decode cX4_find 23 = .ok (.iconst 0, 1) := sorry
theorem dX4_find_24 : decode cX4_find 24 = .ok (.invokevirtual 37, 3) := sorry
theorem dX4_find_27 : decode cX4_find 27 = .ok (.istore 5, 2) := sorry
theorem dX4_find_29 : decode cX4_find 29 = .ok (.iload 5, 2) := sorry
theorem dX4_find_31 : decode cX4_find 31 = .ok (.ifCond .ne 6, 3) := sorry
theorem dX4_find_34 : decode cX4_find 34 = .ok (.iload 4, 2) := sorry
theorem dX4_find_36 : decode cX4_find 36 = .ok (.ireturn, 1) := sorry
theorem dX4_find_37 : decode cX4_find 37 = .ok (.iload 5, 2) := sorry
theorem dX4_find_39 : decode cX4_find 39 = .ok (.ifCond .ge 11, 3) := sorry
theorem dX4_find_42 : decode cX4_find 42 = .ok (.iload 4, 2) := sorry
theorem dX4_find_44 : decode cX4_find 44 = .ok (.iconst 1, 1) := sorry
theorem dX4_find_45 : decode cX4_find 45 = .ok (.iadd, 1) := sorry
theorem dX4_find_46 : decode cX4_find 46 = .ok (.istore_n 2, 1) := sorry
theorem dX4_find_47 : decode cX4_find 47 = .ok (.goto 6, 3) := sorry
theorem dX4_find_50 : decode cX4_find 50 = .ok (.iload 4, 2) := sorry
def dtX4_find_52_1 : List (Nat × Instr × Nat) := [(52, .istore_n 3, 1), (53, .goto (-46), 3), (56, .iconst (-1), 1), (57, .iload_n 2, 1), (58, .isub, 1), (59, .ireturn, 1)]
theorem dtX4_find_52_1_ok : dcAll cX4_find dtX4_find_52_1 = true := sorry
theorem dX4_find_52 : decode cX4_find 52 = .ok (.istore_n 3, 1) := sorry
theorem dX4_find_53 : decode cX4_find 53 = .ok (.goto (-46), 3) := sorry
theorem dX4_find_56 : decode cX4_find 56 = .ok (.iconst (-1), 1) := sorry
theorem dX4_find_57 : decode cX4_find 57 = .ok (.iload_n 2, 1) := sorry
theorem dX4_find_58 : decode cX4_find 58 = .ok (.isub, 1) := sorry
theorem dX4_find_59 : decode cX4_find 59 = .ok (.ireturn, 1) := sorry
def dtX4_compareRow_0_0 : List (Nat × Instr × Nat) := [(0, .iload_n 1, 1), (1, .bipush 6, 2), (3, .imul, 1), (4, .istore 4, 2), (6, .iconst 0, 1), (7, .istore 5, 2), (9, .iload 5, 2), (11, .aload_n 0, 1), (12, .getfield 7, 3), (15, .if_icmp .ge 49, 3), (18, .aload_n 0, 1), (19, .getfield 16, 3), (22, .iload 4, 2), (24, .iload 5, 2), (26, .iadd, 1), (27, .iaload, 1), (28, .istore 6, 2), (30, .aload_n 2, 1), (31, .iload_n 3, 1), (32, .iload 5, 2), (34, .iadd, 1), (35, .iaload, 1), (36, .istore 7, 2), (38, .iload 6, 2), (40, .iload 7, 2), (42, .if_icmp .eq 16, 3), (45, .iload 6, 2), (47, .iload 7, 2), (49, .if_icmp .ge 7, 3), (52, .iconst (-1), 1), (53, .goto 4, 3), (56, .iconst 1, 1)]
theorem dtX4_compareRow_0_0_ok : dcAll cX4_compareRow dtX4_compareRow_0_0 = true := sorry
theorem dX4_compareRow_0 : decode cX4_compareRow 0 = .ok (.iload_n 1, 1) := sorry
theorem dX4_compareRow_1 : decode cX4_compareRow 1 = .ok (.bipush 6, 2) := sorry
theorem dX4_compareRow_3 : decode cX4_compareRow 3 = .ok (.imul, 1) := sorry
theorem dX4_compareRow_4 : decode cX4_compareRow 4 = .ok (.istore 4, 2) := sorry
theorem dX4_compareRow_6 : decode cX4_compareRow 6 = .ok (.iconst 0, 1) := sorry
theorem dX4_compareRow_7 : decode cX4_compareRow 7 = .ok (.istore 5, 2) := sorry
theorem dX4_compareRow_9 : decode cX4_compareRow 9 = .ok (.iload 5, 2) := sorry
theorem dX4_compareRow_11 : decode cX4_compareRow 11 = .ok (.aload_n 0, 1) := sorry
theorem dX4_compareRow_12 : decode cX4_compareRow 12 = .ok (.getfield 7, 3) := sorry
theorem dX4_compareRow_15 : decode cX4_compareRow 15 = .ok (.if_icmp .ge 49, 3) := sorry
theorem dX4_compareRow_18 : decode cX4_compareRow 18 = .ok (.aload_n 0, 1) := sorry
theorem dX4_compareRow_19 : decode cX4_compareRow 19 = .ok (.getfield 16, 3) := sorry
theorem dX4_compareRow_22 : decode cX4_compareRow 22 = .ok (.iload 4, 2) := sorry
theorem dX4_compareRow_24 : decode cX4_compareRow 24 = .ok (.iload 5, 2) := sorry
theorem dX4_compareRow_26 : decode cX4_compareRow 26 = .ok (.iadd, 1) := sorry
theorem dX4_compareRow_27 : decode cX4_compareRow 27 = .ok (.iaload, 1) := sorry
theorem dX4_compareRow_28 : decode cX4_compareRow 28 = .ok (.istore 6, 2) := sorry
theorem dX4_compareRow_30 : decode cX4_compareRow 30 = .ok (.aload_n 2, 1) := sorry
theorem dX4_compareRow_31 : decode cX4_compareRow 31 = .ok (.iload_n 3, 1) := sorry
theorem dX4_compareRow_32 : decode cX4_compareRow 32 = .ok (.iload 5, 2) := sorry
theorem dX4_compareRow_34 : decode cX4_compareRow 34 = .ok (.iadd, 1) := sorry
theorem dX4_compareRow_35 : decode cX4_compareRow 35 = .ok (.iaload, 1) := sorry
theorem dX4_compareRow_36 : decode cX4_compareRow 36 = .ok (.istore 7, 2) := sorry
theorem dX4_compareRow_38 : decode cX4_compareRow 38 = .ok (.iload 6, 2) := sorry
theorem dX4_compareRow_40 : decode cX4_compareRow 40 = .ok (.iload 7, 2) := sorry
theorem dX4_compareRow_42 : decode cX4_compareRow 42 = .ok (.if_icmp .eq 16, 3) := sorry
theorem dX4_compareRow_45 : decode cX4_compareRow 45 = .ok (.iload 6, 2) := sorry
theorem dX4_compareRow_47 : decode cX4_compareRow 47 = .ok (.iload 7, 2) := sorry
theorem dX4_compareRow_49 : decode cX4_compareRow 49 = .ok (.if_icmp .ge 7, 3) := sorry
theorem dX4_compareRow_52 : decode cX4_compareRow 52 = .ok (.iconst (-1), 1) := sorry
theorem dX4_compareRow_53 : decode cX4_compareRow 53 = .ok (.goto 4, 3) := sorry
theorem dX4_compareRow_56 : decode cX4_compareRow 56 = .ok (.iconst 1, 1) := sorry
def dtX4_compareRow_57_1 : List (Nat × Instr × Nat) := [(57, .ireturn, 1), (58, .iinc 5 1, 3), (61, .goto (-52), 3), (64, .iconst 0, 1), (65, .ireturn, 1)]
theorem dtX4_compareRow_57_1_ok : dcAll cX4_compareRow dtX4_compareRow_57_1 = true := sorry
theorem dX4_compareRow_57 : decode cX4_compareRow 57 = .ok (.ireturn, 1) := sorry
theorem dX4_compareRow_58 : decode cX4_compareRow 58 = .ok (.iinc 5 1, 3) := sorry
theorem dX4_compareRow_61 : decode cX4_compareRow 61 = .ok (.goto (-52), 3) := sorry
theorem dX4_compareRow_64 : decode cX4_compareRow 64 = .ok (.iconst 0, 1) := sorry
theorem dX4_compareRow_65 : decode cX4_compareRow 65 = .ok (.ireturn, 1) := sorry
set_option maxRecDepth 20000 in
theorem ggX4_addAmount_X4_find : GoodIn wsX4_addAmount wsX4_find := sorry
set_option maxRecDepth 20000 in
theorem gX4_addAmount_X4_find : GoodIn wsX4_addAmount (wsV RX4 20 RX4 yX4_find wsX4_find) := sorry
set_option maxRecDepth 20000 in
theorem ggX4_addAmount_X4_insert : GoodIn wsX4_addAmount wsX4_insert := sorry
set_option maxRecDepth 20000 in
theorem gX4_addAmount_X4_insert : GoodIn wsX4_addAmount (wsV RX4 41 RX4 yX4_insert wsX4_insert) := sorry
set_option maxRecDepth 20000 in
theorem ggX4_addAmount_X4_amount : GoodIn wsX4_addAmount wsX4_amount := sorry
set_option maxRecDepth 20000 in
theorem gX4_addAmount_X4_amount : GoodIn wsX4_addAmount (wsV RX4 24 RX4 yX4_amount wsX4_amount) := sorry
set_option maxRecDepth 20000 in
theorem ggX4_addAmount_X4_removeRow : GoodIn wsX4_addAmount wsX4_removeRow := sorry
set_option maxRecDepth 20000 in
theorem gX4_addAmount_X4_removeRow : GoodIn wsX4_addAmount (wsV RX4 45 RX4 yX4_removeRow wsX4_removeRow) := sorry
set_option maxRecDepth 20000 in
theorem ggX4_addAmount_X4_setCell : GoodIn wsX4_addAmount wsX4_setCell := sorry
set_option maxRecDepth 20000 in
theorem gX4_addAmount_X4_setCell : GoodIn wsX4_addAmount (wsV RX4 49 RX4 yX4_setCell wsX4_setCell) := sorry
def dtX4_addAmount_0_0 : List (Nat × Instr × Nat) := [(0, .aload_n 0, 1), (1, .aload_n 1, 1), (2, .invokevirtual 20, 3), (5, .istore_n 3, 1), (6, .iload_n 3, 1), (7, .ifCond .ge 25, 3), (10, .iload_n 2, 1), (11, .ifCond .eq 15, 3), (14, .aload_n 0, 1), (15, .iconst (-1), 1), (16, .iload_n 3, 1), (17, .isub, 1), (18, .aload_n 1, 1), (19, .iload_n 2, 1), (20, .invokevirtual 41, 3), (23, .ifCond .eq 7, 3), (26, .iconst 1, 1), (27, .goto 4, 3), (30, .iconst 0, 1), (31, .ireturn, 1), (32, .aload_n 0, 1), (33, .iload_n 3, 1), (34, .invokevirtual 24, 3), (37, .iload_n 2, 1), (38, .iadd, 1), (39, .istore 4, 2), (41, .iload 4, 2), (43, .ifCond .ne 11, 3), (46, .aload_n 0, 1), (47, .iload_n 3, 1), (48, .invokevirtual 45, 3), (51, .goto 14, 3)]
theorem dtX4_addAmount_0_0_ok : dcAll cX4_addAmount dtX4_addAmount_0_0 = true := sorry
theorem dX4_addAmount_0 : decode cX4_addAmount 0 = .ok (.aload_n 0, 1) := sorry
theorem dX4_addAmount_1 : decode cX4_addAmount 1 = .ok (.aload_n 1, 1) := sorry
theorem dX4_addAmount_2 : decode cX4_addAmount 2 = .ok (.invokevirtual 20, 3) := sorry
theorem dX4_addAmount_5 : decode cX4_addAmount 5 = .ok (.istore_n 3, 1) := sorry
theorem dX4_addAmount_6 : decode cX4_addAmount 6 = .ok (.iload_n 3, 1) := sorry
theorem dX4_addAmount_7 : decode cX4_addAmount 7 = .ok (.ifCond .ge 25, 3) := sorry
theorem dX4_addAmount_10 : decode cX4_addAmount 10 = .ok (.iload_n 2, 1) := sorry
theorem dX4_addAmount_11 : decode cX4_addAmount 11 = .ok (.ifCond .eq 15, 3) := sorry
theorem dX4_addAmount_14 : decode cX4_addAmount 14 = .ok (.aload_n 0, 1) := sorry
theorem dX4_addAmount_15 : decode cX4_addAmount 15 = .ok (.iconst (-1), 1) := sorry
theorem dX4_addAmount_16 : decode cX4_addAmount 16 = .ok (.iload_n 3, 1) := sorry
theorem dX4_addAmount_17 : decode cX4_addAmount 17 = .ok (.isub, 1) := sorry
theorem dX4_addAmount_18 : decode cX4_addAmount 18 = .ok (.aload_n 1, 1) := sorry
theorem dX4_addAmount_19 : decode cX4_addAmount 19 = .ok (.iload_n 2, 1) := sorry
theorem dX4_addAmount_20 : decode cX4_addAmount 20 = .ok (.invokevirtual 41, 3) := sorry
theorem dX4_addAmount_23 : decode cX4_addAmount 23 = .ok (.ifCond .eq 7, 3) := sorry
theorem dX4_addAmount_26 : decode cX4_addAmount 26 = .ok (.iconst 1, 1) := sorry
theorem dX4_addAmount_27 : decode cX4_addAmount 27 = .ok (.goto 4, 3) := sorry
theorem dX4_addAmount_30 : decode cX4_addAmount 30 = .ok (.iconst 0, 1) := sorry
theorem dX4_addAmount_31 : decode cX4_addAmount 31 = .ok (.ireturn, 1) := sorry
theorem dX4_addAmount_32 : decode cX4_addAmount 32 = .ok (.aload_n 0, 1) := sorry
theorem dX4_addAmount_33 : decode cX4_addAmount 33 = .ok (.iload_n 3, 1) := sorry
theorem dX4_addAmount_34 : decode cX4_addAmount 34 = .ok (.invokevirtual 24, 3) := sorry
theorem dX4_addAmount_37 : decode cX4_addAmount 37 = .ok (.iload_n 2, 1) := sorry
theorem dX4_addAmount_38 : decode cX4_addAmount 38 = .ok (.iadd, 1) := sorry
theorem dX4_addAmount_39 : decode cX4_addAmount 39 = .ok (.istore 4, 2) := sorry
theorem dX4_addAmount_41 : decode cX4_addAmount 41 = .ok (.iload 4, 2) := sorry
theorem dX4_addAmount_43 : decode cX4_addAmount 43 = .ok (.ifCond .ne 11, 3) := sorry
theorem dX4_addAmount_46 : decode cX4_addAmount 46 = .ok (.aload_n 0, 1) := sorry
theorem dX4_addAmount_47 : decode cX4_addAmount 47 = .ok (.iload_n 3, 1) := sorry
theorem dX4_addAmount_48 : decode cX4_addAmount 48 = .ok (.invokevirtual 45, 3) := sorry
theorem dX4_addAmount_51 : decode cX4_addAmount 51 = .ok (.goto 14, 3) := sorry
def dtX4_addAmount_54_1 : List (Nat × Instr × Nat) := [(54, .aload_n 0, 1), (55, .iload_n 3, 1), (56, .aload_n 0, 1), (57, .getfield 7, 3), (60, .iload 4, 2), (62, .invokevirtual 49, 3), (65, .iconst 1, 1), (66, .ireturn, 1)]
theorem dtX4_addAmount_54_1_ok : dcAll cX4_addAmount dtX4_addAmount_54_1 = true := sorry
theorem dX4_addAmount_54 : decode cX4_addAmount 54 = .ok (.aload_n 0, 1) := sorry
theorem dX4_addAmount_55 : decode cX4_addAmount 55 = .ok (.iload_n 3, 1) := sorry
theorem dX4_addAmount_56 : decode cX4_addAmount 56 = .ok (.aload_n 0, 1) := sorry
theorem dX4_addAmount_57 : decode cX4_addAmount 57 = .ok (.getfield 7, 3) := sorry
theorem dX4_addAmount_60 : decode cX4_addAmount 60 = .ok (.iload 4, 2) := sorry
theorem dX4_addAmount_62 : decode cX4_addAmount 62 = .ok (.invokevirtual 49, 3) := sorry
theorem dX4_addAmount_65 : decode cX4_addAmount 65 = .ok (.iconst 1, 1) := sorry
theorem dX4_addAmount_66 : decode cX4_addAmount 66 = .ok (.ireturn, 1) := sorry
def dtX4_insert_0_0 : List (Nat × Instr × Nat) := [(0, .aload_n 0, 1), (1, .getfield 34, 3), (4, .aload_n 0, 1), (5, .getfield 13, 3), (8, .if_icmp .ge 15, 3), (11, .iload_n 1, 1), (12, .ifCond .lt 11, 3), (15, .iload_n 1, 1), (16, .aload_n 0, 1), (17, .getfield 34, 3), (20, .if_icmp .le 5, 3), (23, .iconst 0, 1), (24, .ireturn, 1), (25, .iload_n 1, 1), (26, .bipush 6, 2), (28, .imul, 1), (29, .istore 4, 2), (31, .aload_n 0, 1), (32, .getfield 16, 3), (35, .iload 4, 2), (37, .aload_n 0, 1), (38, .getfield 16, 3), (41, .iload 4, 2), (43, .bipush 6, 2), (45, .iadd, 1), (46, .aload_n 0, 1), (47, .getfield 34, 3), (50, .iload_n 1, 1), (51, .isub, 1), (52, .bipush 6, 2), (54, .imul, 1), (55, .invokestatic 28, 3)]
theorem dtX4_insert_0_0_ok : dcAll cX4_insert dtX4_insert_0_0 = true := sorry
theorem dX4_insert_0 : decode cX4_insert 0 = .ok (.aload_n 0, 1) := sorry
theorem dX4_insert_1 : decode cX4_insert 1 = .ok (.getfield 34, 3) := sorry
theorem dX4_insert_4 : decode cX4_insert 4 = .ok (.aload_n 0, 1) := sorry
theorem dX4_insert_5 : decode cX4_insert 5 = .ok (.getfield 13, 3) := sorry
theorem dX4_insert_8 : decode cX4_insert 8 = .ok (.if_icmp .ge 15, 3) := sorry
theorem dX4_insert_11 : decode cX4_insert 11 = .ok (.iload_n 1, 1) := sorry
theorem dX4_insert_12 : decode cX4_insert 12 = .ok (.ifCond .lt 11, 3) := sorry
theorem dX4_insert_15 : decode cX4_insert 15 = .ok (.iload_n 1, 1) := sorry
theorem dX4_insert_16 : decode cX4_insert 16 = .ok (.aload_n 0, 1) := sorry
theorem dX4_insert_17 : decode cX4_insert 17 = .ok (.getfield 34, 3) := sorry
theorem dX4_insert_20 : decode cX4_insert 20 = .ok (.if_icmp .le 5, 3) := sorry
theorem dX4_insert_23 : decode cX4_insert 23 = .ok (.iconst 0, 1) := sorry
theorem dX4_insert_24 : decode cX4_insert 24 = .ok (.ireturn, 1) := sorry
theorem dX4_insert_25 : decode cX4_insert 25 = .ok (.iload_n 1, 1) := sorry
theorem dX4_insert_26 : decode cX4_insert 26 = .ok (.bipush 6, 2) := sorry
theorem dX4_insert_28 : decode cX4_insert 28 = .ok (.imul, 1) := sorry
theorem dX4_insert_29 : decode cX4_insert 29 = .ok (.istore 4, 2) := sorry
theorem dX4_insert_31 : decode cX4_insert 31 = .ok (.aload_n 0, 1) := sorry
theorem dX4_insert_32 : decode cX4_insert 32 = .ok (.getfield 16, 3) := sorry
theorem dX4_insert_35 : decode cX4_insert 35 = .ok (.iload 4, 2) := sorry
theorem dX4_insert_37 : decode cX4_insert 37 = .ok (.aload_n 0, 1) := sorry
theorem dX4_insert_38 : decode cX4_insert 38 = .ok (.getfield 16, 3) := sorry
theorem dX4_insert_41 : decode cX4_insert 41 = .ok (.iload 4, 2) := sorry
theorem dX4_insert_43 : decode cX4_insert 43 = .ok (.bipush 6, 2) := sorry
theorem dX4_insert_45 : decode cX4_insert 45 = .ok (.iadd, 1) := sorry
theorem dX4_insert_46 : decode cX4_insert 46 = .ok (.aload_n 0, 1) := sorry
theorem dX4_insert_47 : decode cX4_insert 47 = .ok (.getfield 34, 3) := sorry
theorem dX4_insert_50 : decode cX4_insert 50 = .ok (.iload_n 1, 1) := sorry
theorem dX4_insert_51 : decode cX4_insert 51 = .ok (.isub, 1) := sorry
theorem dX4_insert_52 : decode cX4_insert 52 = .ok (.bipush 6, 2) := sorry
theorem dX4_insert_54 : decode cX4_insert 54 = .ok (.imul, 1) := sorry
theorem dX4_insert_55 : decode cX4_insert 55 = .ok (.invokestatic 28, 3) := sorry
def dtX4_insert_58_1 : List (Nat × Instr × Nat) := [(58, .aload_n 2, 1), (59, .iconst 0, 1), (60, .aload_n 0, 1), (61, .getfield 16, 3), (64, .iload 4, 2), (66, .aload_n 0, 1), (67, .getfield 7, 3), (70, .invokestatic 28, 3), (73, .aload_n 0, 1), (74, .getfield 16, 3), (77, .iload 4, 2), (79, .iconst 5, 1), (80, .iadd, 1), (81, .iconst 0, 1), (82, .iastore, 1), (83, .aload_n 0, 1), (84, .getfield 16, 3), (87, .iload 4, 2), (89, .aload_n 0, 1), (90, .getfield 7, 3), (93, .iadd, 1), (94, .iload_n 3, 1), (95, .iastore, 1), (96, .aload_n 0, 1), (97, .dup, 1), (98, .getfield 34, 3), (101, .iconst 1, 1), (102, .iadd, 1), (103, .putfield 34, 3), (106, .iconst 1, 1), (107, .ireturn, 1)]
theorem dtX4_insert_58_1_ok : dcAll cX4_insert dtX4_insert_58_1 = true := sorry
theorem dX4_insert_58 : decode cX4_insert 58 = .ok (.aload_n 2, 1) := sorry
theorem dX4_insert_59 : decode cX4_insert 59 = .ok (.iconst 0, 1) := sorry
theorem dX4_insert_60 : decode cX4_insert 60 = .ok (.aload_n 0, 1) := sorry
theorem dX4_insert_61 : decode cX4_insert 61 = .ok (.getfield 16, 3) := sorry
theorem dX4_insert_64 : decode cX4_insert 64 = .ok (.iload 4, 2) := sorry
theorem dX4_insert_66 : decode cX4_insert 66 = .ok (.aload_n 0, 1) := sorry
theorem dX4_insert_67 : decode cX4_insert 67 = .ok (.getfield 7, 3) := sorry
theorem dX4_insert_70 : decode cX4_insert 70 = .ok (.invokestatic 28, 3) := sorry
theorem dX4_insert_73 : decode cX4_insert 73 = .ok (.aload_n 0, 1) := sorry
theorem dX4_insert_74 : decode cX4_insert 74 = .ok (.getfield 16, 3) := sorry
theorem dX4_insert_77 : decode cX4_insert 77 = .ok (.iload 4, 2) := sorry
theorem dX4_insert_79 : decode cX4_insert 79 = .ok (.iconst 5, 1) := sorry
theorem dX4_insert_80 : decode cX4_insert 80 = .ok (.iadd, 1) := sorry
theorem dX4_insert_81 : decode cX4_insert 81 = .ok (.iconst 0, 1) := sorry
theorem dX4_insert_82 : decode cX4_insert 82 = .ok (.iastore, 1) := sorry
theorem dX4_insert_83 : decode cX4_insert 83 = .ok (.aload_n 0, 1) := sorry
theorem dX4_insert_84 : decode cX4_insert 84 = .ok (.getfield 16, 3) := sorry
theorem dX4_insert_87 : decode cX4_insert 87 = .ok (.iload 4, 2) := sorry
theorem dX4_insert_89 : decode cX4_insert 89 = .ok (.aload_n 0, 1) := sorry
theorem dX4_insert_90 : decode cX4_insert 90 = .ok (.getfield 7, 3) := sorry
theorem dX4_insert_93 : decode cX4_insert 93 = .ok (.iadd, 1) := sorry
theorem dX4_insert_94 : decode cX4_insert 94 = .ok (.iload_n 3, 1) := sorry
theorem dX4_insert_95 : decode cX4_insert 95 = .ok (.iastore, 1) := sorry
theorem dX4_insert_96 : decode cX4_insert 96 = .ok (.aload_n 0, 1) := sorry
theorem dX4_insert_97 : decode cX4_insert 97 = .ok (.dup, 1) := sorry
theorem dX4_insert_98 : decode cX4_insert 98 = .ok (.getfield 34, 3) := sorry
theorem dX4_insert_101 : decode cX4_insert 101 = .ok (.iconst 1, 1) := sorry
theorem dX4_insert_102 : decode cX4_insert 102 = .ok (.iadd, 1) := sorry
theorem dX4_insert_103 : decode cX4_insert 103 = .ok (.putfield 34, 3) := sorry
theorem dX4_insert_106 : decode cX4_insert 106 = .ok (.iconst 1, 1) := sorry
theorem dX4_insert_107 : decode cX4_insert 107 = .ok (.ireturn, 1) := sorry
def dtX4_removeRow_0_0 : List (Nat × Instr × Nat) := [(0, .iload_n 1, 1), (1, .bipush 6, 2), (3, .imul, 1), (4, .istore_n 2, 1), (5, .aload_n 0, 1), (6, .dup, 1), (7, .getfield 34, 3), (10, .iconst 1, 1), (11, .isub, 1), (12, .putfield 34, 3), (15, .aload_n 0, 1), (16, .getfield 16, 3), (19, .iload_n 2, 1), (20, .bipush 6, 2), (22, .iadd, 1), (23, .aload_n 0, 1), (24, .getfield 16, 3), (27, .iload_n 2, 1), (28, .aload_n 0, 1), (29, .getfield 34, 3), (32, .iload_n 1, 1), (33, .isub, 1), (34, .bipush 6, 2), (36, .imul, 1), (37, .invokestatic 28, 3), (40, .return_, 1)]
theorem dtX4_removeRow_0_0_ok : dcAll cX4_removeRow dtX4_removeRow_0_0 = true := sorry
theorem dX4_removeRow_0 : decode cX4_removeRow 0 = .ok (.iload_n 1, 1) := sorry
theorem dX4_removeRow_1 : decode cX4_removeRow 1 = .ok (.bipush 6, 2) := sorry
theorem dX4_removeRow_3 : decode cX4_removeRow 3 = .ok (.imul, 1) := sorry
theorem dX4_removeRow_4 : decode cX4_removeRow 4 = .ok (.istore_n 2, 1) := sorry
theorem dX4_removeRow_5 : decode cX4_removeRow 5 = .ok (.aload_n 0, 1) := sorry
theorem dX4_removeRow_6 : decode cX4_removeRow 6 = .ok (.dup, 1) := sorry
theorem dX4_removeRow_7 : decode cX4_removeRow 7 = .ok (.getfield 34, 3) := sorry
theorem dX4_removeRow_10 : decode cX4_removeRow 10 = .ok (.iconst 1, 1) := sorry
theorem dX4_removeRow_11 : decode cX4_removeRow 11 = .ok (.isub, 1) := sorry
theorem dX4_removeRow_12 : decode cX4_removeRow 12 = .ok (.putfield 34, 3) := sorry
theorem dX4_removeRow_15 : decode cX4_removeRow 15 = .ok (.aload_n 0, 1) := sorry
theorem dX4_removeRow_16 : decode cX4_removeRow 16 = .ok (.getfield 16, 3) := sorry
theorem dX4_removeRow_19 : decode cX4_removeRow 19 = .ok (.iload_n 2, 1) := sorry
theorem dX4_removeRow_20 : decode cX4_removeRow 20 = .ok (.bipush 6, 2) := sorry
theorem dX4_removeRow_22 : decode cX4_removeRow 22 = .ok (.iadd, 1) := sorry
theorem dX4_removeRow_23 : decode cX4_removeRow 23 = .ok (.aload_n 0, 1) := sorry
theorem dX4_removeRow_24 : decode cX4_removeRow 24 = .ok (.getfield 16, 3) := sorry
theorem dX4_removeRow_27 : decode cX4_removeRow 27 = .ok (.iload_n 2, 1) := sorry
theorem dX4_removeRow_28 : decode cX4_removeRow 28 = .ok (.aload_n 0, 1) := sorry
theorem dX4_removeRow_29 : decode cX4_removeRow 29 = .ok (.getfield 34, 3) := sorry
theorem dX4_removeRow_32 : decode cX4_removeRow 32 = .ok (.iload_n 1, 1) := sorry
theorem dX4_removeRow_33 : decode cX4_removeRow 33 = .ok (.isub, 1) := sorry
theorem dX4_removeRow_34 : decode cX4_removeRow 34 = .ok (.bipush 6, 2) := sorry
theorem dX4_removeRow_36 : decode cX4_removeRow 36 = .ok (.imul, 1) := sorry
theorem dX4_removeRow_37 : decode cX4_removeRow 37 = .ok (.invokestatic 28, 3) := sorry
theorem dX4_removeRow_40 : decode cX4_removeRow 40 = .ok (.return_, 1) := sorry
def dtX4_append_0_0 : List (Nat × Instr × Nat) := [(0, .aload_n 0, 1), (1, .getfield 34, 3), (4, .aload_n 0, 1), (5, .getfield 13, 3), (8, .if_icmp .lt 5, 3), (11, .iconst 0, 1), (12, .ireturn, 1), (13, .aload_n 0, 1), (14, .getfield 34, 3), (17, .bipush 6, 2), (19, .imul, 1), (20, .istore 4, 2), (22, .aload_n 1, 1), (23, .getfield 16, 3), (26, .iload_n 2, 1), (27, .bipush 6, 2), (29, .imul, 1), (30, .aload_n 0, 1), (31, .getfield 16, 3), (34, .iload 4, 2), (36, .aload_n 0, 1), (37, .getfield 7, 3), (40, .invokestatic 28, 3), (43, .aload_n 0, 1), (44, .getfield 16, 3), (47, .iload 4, 2), (49, .iconst 5, 1), (50, .iadd, 1), (51, .iconst 0, 1), (52, .iastore, 1), (53, .aload_n 0, 1), (54, .getfield 16, 3)]
theorem dtX4_append_0_0_ok : dcAll cX4_append dtX4_append_0_0 = true := sorry
theorem dX4_append_0 : decode cX4_append 0 = .ok (.aload_n 0, 1) := sorry
theorem dX4_append_1 : decode cX4_append 1 = .ok (.getfield 34, 3) := sorry
theorem dX4_append_4 : decode cX4_append 4 = .ok (.aload_n 0, 1) := sorry
theorem dX4_append_5 : decode cX4_append 5 = .ok (.getfield 13, 3) := sorry
theorem dX4_append_8 : decode cX4_append 8 = .ok (.if_icmp .lt 5, 3) := sorry
theorem dX4_append_11 : decode cX4_append 11 = .ok (.iconst 0, 1) := sorry
theorem dX4_append_12 : decode cX4_append 12 = .ok (.ireturn, 1) := sorry
theorem dX4_append_13 : decode cX4_append 13 = .ok (.aload_n 0, 1) := sorry
theorem dX4_append_14 : decode cX4_append 14 = .ok (.getfield 34, 3) := sorry
theorem dX4_append_17 : decode cX4_append 17 = .ok (.bipush 6, 2) := sorry
theorem dX4_append_19 : decode cX4_append 19 = .ok (.imul, 1) := sorry
theorem dX4_append_20 : decode cX4_append 20 = .ok (.istore 4, 2) := sorry
theorem dX4_append_22 : decode cX4_append 22 = .ok (.aload_n 1, 1) := sorry
theorem dX4_append_23 : decode cX4_append 23 = .ok (.getfield 16, 3) := sorry
theorem dX4_append_26 : decode cX4_append 26 = .ok (.iload_n 2, 1) := sorry
theorem dX4_append_27 : decode cX4_append 27 = .ok (.bipush 6, 2) := sorry
theorem dX4_append_29 : decode cX4_append 29 = .ok (.imul, 1) := sorry
theorem dX4_append_30 : decode cX4_append 30 = .ok (.aload_n 0, 1) := sorry
theorem dX4_append_31 : decode cX4_append 31 = .ok (.getfield 16, 3) := sorry
theorem dX4_append_34 : decode cX4_append 34 = .ok (.iload 4, 2) := sorry
theorem dX4_append_36 : decode cX4_append 36 = .ok (.aload_n 0, 1) := sorry
theorem dX4_append_37 : decode cX4_append 37 = .ok (.getfield 7, 3) := sorry
theorem dX4_append_40 : decode cX4_append 40 = .ok (.invokestatic 28, 3) := sorry
theorem dX4_append_43 : decode cX4_append 43 = .ok (.aload_n 0, 1) := sorry
theorem dX4_append_44 : decode cX4_append 44 = .ok (.getfield 16, 3) := sorry
theorem dX4_append_47 : decode cX4_append 47 = .ok (.iload 4, 2) := sorry
theorem dX4_append_49 : decode cX4_append 49 = .ok (.iconst 5, 1) := sorry
theorem dX4_append_50 : decode cX4_append 50 = .ok (.iadd, 1) := sorry
theorem dX4_append_51 : decode cX4_append 51 = .ok (.iconst 0, 1) := sorry
theorem dX4_append_52 : decode cX4_append 52 = .ok (.iastore, 1) := sorry
theorem dX4_append_53 : decode cX4_append 53 = .ok (.aload_n 0, 1) := sorry
theorem dX4_append_54 : decode cX4_append 54 = .ok (.getfield 16, 3) := sorry
def dtX4_append_57_1 : List (Nat × Instr × Nat) := [(57, .iload 4, 2), (59, .aload_n 0, 1), (60, .getfield 7, 3), (63, .iadd, 1), (64, .iload_n 3, 1), (65, .iastore, 1), (66, .aload_n 0, 1), (67, .dup, 1), (68, .getfield 34, 3), (71, .iconst 1, 1), (72, .iadd, 1), (73, .putfield 34, 3), (76, .iconst 1, 1), (77, .ireturn, 1)]
theorem dtX4_append_57_1_ok : dcAll cX4_append dtX4_append_57_1 = true := sorry
theorem dX4_append_57 : decode cX4_append 57 = .ok (.iload 4, 2) := sorry
theorem dX4_append_59 : decode cX4_append 59 = .ok (.aload_n 0, 1) := sorry
theorem dX4_append_60 : decode cX4_append 60 = .ok (.getfield 7, 3) := sorry
theorem dX4_append_63 : decode cX4_append 63 = .ok (.iadd, 1) := sorry
theorem dX4_append_64 : decode cX4_append 64 = .ok (.iload_n 3, 1) := sorry
theorem dX4_append_65 : decode cX4_append 65 = .ok (.iastore, 1) := sorry
theorem dX4_append_66 : decode cX4_append 66 = .ok (.aload_n 0, 1) := sorry
theorem dX4_append_67 : decode cX4_append 67 = .ok (.dup, 1) := sorry
theorem dX4_append_68 : decode cX4_append 68 = .ok (.getfield 34, 3) := sorry
theorem dX4_append_71 : decode cX4_append 71 = .ok (.iconst 1, 1) := sorry
theorem dX4_append_72 : decode cX4_append 72 = .ok (.iadd, 1) := sorry
theorem dX4_append_73 : decode cX4_append 73 = .ok (.putfield 34, 3) := sorry
theorem dX4_append_76 : decode cX4_append 76 = .ok (.iconst 1, 1) := sorry
theorem dX4_append_77 : decode cX4_append 77 = .ok (.ireturn, 1) := sorry
def dtX4_copyFrom_0_0 : List (Nat × Instr × Nat) := [(0, .aload_n 0, 1), (1, .aload_n 1, 1), (2, .getfield 34, 3), (5, .aload_n 0, 1), (6, .getfield 13, 3), (9, .invokestatic 53, 3), (12, .putfield 34, 3), (15, .aload_n 1, 1), (16, .getfield 16, 3), (19, .iconst 0, 1), (20, .aload_n 0, 1), (21, .getfield 16, 3), (24, .iconst 0, 1), (25, .aload_n 0, 1), (26, .getfield 34, 3), (29, .bipush 6, 2), (31, .imul, 1), (32, .invokestatic 28, 3), (35, .return_, 1)]
theorem dtX4_copyFrom_0_0_ok : dcAll cX4_copyFrom dtX4_copyFrom_0_0 = true := sorry
theorem dX4_copyFrom_0 : decode cX4_copyFrom 0 = .ok (.aload_n 0, 1) := sorry
theorem dX4_copyFrom_1 : decode cX4_copyFrom 1 = .ok (.aload_n 1, 1) := sorry
theorem dX4_copyFrom_2 : decode cX4_copyFrom 2 = .ok (.getfield 34, 3) := sorry
theorem dX4_copyFrom_5 : decode cX4_copyFrom 5 = .ok (.aload_n 0, 1) := sorry
theorem dX4_copyFrom_6 : decode cX4_copyFrom 6 = .ok (.getfield 13, 3) := sorry
theorem dX4_copyFrom_9 : decode cX4_copyFrom 9 = .ok (.invokestatic 53, 3) := sorry
theorem dX4_copyFrom_12 : decode cX4_copyFrom 12 = .ok (.putfield 34, 3) := sorry
theorem dX4_copyFrom_15 : decode cX4_copyFrom 15 = .ok (.aload_n 1, 1) := sorry
theorem dX4_copyFrom_16 : decode cX4_copyFrom 16 = .ok (.getfield 16, 3) := sorry
theorem dX4_copyFrom_19 : decode cX4_copyFrom 19 = .ok (.iconst 0, 1) := sorry
theorem dX4_copyFrom_20 : decode cX4_copyFrom 20 = .ok (.aload_n 0, 1) := sorry
theorem dX4_copyFrom_21 : decode cX4_copyFrom 21 = .ok (.getfield 16, 3) := sorry
theorem dX4_copyFrom_24 : decode cX4_copyFrom 24 = .ok (.iconst 0, 1) := sorry
theorem dX4_copyFrom_25 : decode cX4_copyFrom 25 = .ok (.aload_n 0, 1) := sorry
theorem dX4_copyFrom_26 : decode cX4_copyFrom 26 = .ok (.getfield 34, 3) := sorry
theorem dX4_copyFrom_29 : decode cX4_copyFrom 29 = .ok (.bipush 6, 2) := sorry
theorem dX4_copyFrom_31 : decode cX4_copyFrom 31 = .ok (.imul, 1) := sorry
theorem dX4_copyFrom_32 : decode cX4_copyFrom 32 = .ok (.invokestatic 28, 3) := sorry
theorem dX4_copyFrom_35 : decode cX4_copyFrom 35 = .ok (.return_, 1) := sorry
set_option maxRecDepth 20000 in
theorem ggX4_gather_X4_orderOfHeads : GoodIn wsX4_gather wsX4_orderOfHeads := sorry
set_option maxRecDepth 20000 in
theorem gX4_gather_X4_orderOfHeads : GoodIn wsX4_gather (va_wsS RX4 59 yX4_orderOfHeads wsX4_orderOfHeads) := sorry
set_option maxRecDepth 20000 in
theorem ggX4_gather_X4_amount : GoodIn wsX4_gather wsX4_amount := sorry
set_option maxRecDepth 20000 in
theorem gX4_gather_X4_amount : GoodIn wsX4_gather (wsV RX4 24 RX4 yX4_amount wsX4_amount) := sorry
set_option maxRecDepth 20000 in
theorem ggX4_gather_X4_append : GoodIn wsX4_gather wsX4_append := sorry
set_option maxRecDepth 20000 in
theorem gX4_gather_X4_append : GoodIn wsX4_gather (wsV RX4 63 RX4 yX4_append wsX4_append) := sorry
def dtX4_gather_0_0 : List (Nat × Instr × Nat) := [(0, .aload_n 0, 1), (1, .iconst 0, 1), (2, .putfield 34, 3), (5, .iconst 0, 1), (6, .istore 4, 2), (8, .iconst 0, 1), (9, .istore 5, 2), (11, .iload 4, 2), (13, .aload_n 1, 1), (14, .getfield 34, 3), (17, .if_icmp .lt 12, 3), (20, .iload 5, 2), (22, .aload_n 2, 1), (23, .getfield 34, 3), (26, .if_icmp .ge 106, 3), (29, .aload_n 1, 1), (30, .iload 4, 2), (32, .aload_n 2, 1), (33, .iload 5, 2), (35, .invokestatic 59, 3), (38, .istore 6, 2), (40, .iload 6, 2), (42, .ifCond .gt 7, 3), (45, .aload_n 1, 1), (46, .goto 4, 3), (49, .aload_n 2, 1), (50, .astore 7, 2), (52, .iload 6, 2), (54, .ifCond .gt 8, 3), (57, .iload 4, 2), (59, .goto 5, 3), (62, .iload 5, 2)]
theorem dtX4_gather_0_0_ok : dcAll cX4_gather dtX4_gather_0_0 = true := sorry
theorem dX4_gather_0 : decode cX4_gather 0 = .ok (.aload_n 0, 1) := sorry
theorem dX4_gather_1 : decode cX4_gather 1 = .ok (.iconst 0, 1) := sorry
theorem dX4_gather_2 : decode cX4_gather 2 = .ok (.putfield 34, 3) := sorry
theorem dX4_gather_5 : decode cX4_gather 5 = .ok (.iconst 0, 1) := sorry
theorem dX4_gather_6 : decode cX4_gather 6 = .ok (.istore 4, 2) := sorry
theorem dX4_gather_8 : decode cX4_gather 8 = .ok (.iconst 0, 1) := sorry
theorem dX4_gather_9 : decode cX4_gather 9 = .ok (.istore 5, 2) := sorry
theorem dX4_gather_11 : decode cX4_gather 11 = .ok (.iload 4, 2) := sorry
theorem dX4_gather_13 : decode cX4_gather 13 = .ok (.aload_n 1, 1) := sorry
theorem dX4_gather_14 : decode cX4_gather 14 = .ok (.getfield 34, 3) := sorry
theorem dX4_gather_17 : decode cX4_gather 17 = .ok (.if_icmp .lt 12, 3) := sorry
theorem dX4_gather_20 : decode cX4_gather 20 = .ok (.iload 5, 2) := sorry
theorem dX4_gather_22 : decode cX4_gather 22 = .ok (.aload_n 2, 1) := sorry
theorem dX4_gather_23 : decode cX4_gather 23 = .ok (.getfield 34, 3) := sorry
theorem dX4_gather_26 : decode cX4_gather 26 = .ok (.if_icmp .ge 106, 3) := sorry
theorem dX4_gather_29 : decode cX4_gather 29 = .ok (.aload_n 1, 1) := sorry
theorem dX4_gather_30 : decode cX4_gather 30 = .ok (.iload 4, 2) := sorry
theorem dX4_gather_32 : decode cX4_gather 32 = .ok (.aload_n 2, 1) := sorry
theorem dX4_gather_33 : decode cX4_gather 33 = .ok (.iload 5, 2) := sorry
theorem dX4_gather_35 : decode cX4_gather 35 = .ok (.invokestatic 59, 3) := sorry
theorem dX4_gather_38 : decode cX4_gather 38 = .ok (.istore 6, 2) := sorry
theorem dX4_gather_40 : decode cX4_gather 40 = .ok (.iload 6, 2) := sorry
theorem dX4_gather_42 : decode cX4_gather 42 = .ok (.ifCond .gt 7, 3) := sorry
theorem dX4_gather_45 : decode cX4_gather 45 = .ok (.aload_n 1, 1) := sorry
theorem dX4_gather_46 : decode cX4_gather 46 = .ok (.goto 4, 3) := sorry
theorem dX4_gather_49 : decode cX4_gather 49 = .ok (.aload_n 2, 1) := sorry
theorem dX4_gather_50 : decode cX4_gather 50 = .ok (.astore 7, 2) := sorry
theorem dX4_gather_52 : decode cX4_gather 52 = .ok (.iload 6, 2) := sorry
theorem dX4_gather_54 : decode cX4_gather 54 = .ok (.ifCond .gt 8, 3) := sorry
theorem dX4_gather_57 : decode cX4_gather 57 = .ok (.iload 4, 2) := sorry
theorem dX4_gather_59 : decode cX4_gather 59 = .ok (.goto 5, 3) := sorry
theorem dX4_gather_62 : decode cX4_gather 62 = .ok (.iload 5, 2) := sorry
def dtX4_gather_64_1 : List (Nat × Instr × Nat) := [(64, .istore 8, 2), (66, .iconst 0, 1), (67, .istore 9, 2), (69, .iload 6, 2), (71, .ifCond .gt 17, 3), (74, .iload 9, 2), (76, .aload_n 1, 1), (77, .iload 4, 2), (79, .invokevirtual 24, 3), (82, .iadd, 1), (83, .istore 9, 2), (85, .iinc 4 1, 3), (88, .iload 6, 2), (90, .ifCond .lt 19, 3), (93, .iload 9, 2), (95, .iload_n 3, 1), (96, .aload_n 2, 1), (97, .iload 5, 2), (99, .invokevirtual 24, 3), (102, .imul, 1), (103, .iadd, 1), (104, .istore 9, 2), (106, .iinc 5 1, 3), (109, .iload 9, 2), (111, .ifCond .eq 18, 3), (114, .aload_n 0, 1), (115, .aload 7, 2), (117, .iload 8, 2), (119, .iload 9, 2), (121, .invokevirtual 63, 3), (124, .ifCond .ne 5, 3), (127, .iconst 0, 1)]
theorem dtX4_gather_64_1_ok : dcAll cX4_gather dtX4_gather_64_1 = true := sorry
theorem dX4_gather_64 : decode cX4_gather 64 = .ok (.istore 8, 2) := sorry
theorem dX4_gather_66 : decode cX4_gather 66 = .ok (.iconst 0, 1) := sorry
theorem dX4_gather_67 : decode cX4_gather 67 = .ok (.istore 9, 2) := sorry
theorem dX4_gather_69 : decode cX4_gather 69 = .ok (.iload 6, 2) := sorry
theorem dX4_gather_71 : decode cX4_gather 71 = .ok (.ifCond .gt 17, 3) := sorry
theorem dX4_gather_74 : decode cX4_gather 74 = .ok (.iload 9, 2) := sorry
theorem dX4_gather_76 : decode cX4_gather 76 = .ok (.aload_n 1, 1) := sorry
theorem dX4_gather_77 : decode cX4_gather 77 = .ok (.iload 4, 2) := sorry
theorem dX4_gather_79 : decode cX4_gather 79 = .ok (.invokevirtual 24, 3) := sorry
theorem dX4_gather_82 : decode cX4_gather 82 = .ok (.iadd, 1) := sorry
theorem dX4_gather_83 : decode cX4_gather 83 = .ok (.istore 9, 2) := sorry
theorem dX4_gather_85 : decode cX4_gather 85 = .ok (.iinc 4 1, 3) := sorry
theorem dX4_gather_88 : decode cX4_gather 88 = .ok (.iload 6, 2) := sorry
theorem dX4_gather_90 : decode cX4_gather 90 = .ok (.ifCond .lt 19, 3) := sorry
theorem dX4_gather_93 : decode cX4_gather 93 = .ok (.iload 9, 2) := sorry
theorem dX4_gather_95 : decode cX4_gather 95 = .ok (.iload_n 3, 1) := sorry
theorem dX4_gather_96 : decode cX4_gather 96 = .ok (.aload_n 2, 1) := sorry
theorem dX4_gather_97 : decode cX4_gather 97 = .ok (.iload 5, 2) := sorry
theorem dX4_gather_99 : decode cX4_gather 99 = .ok (.invokevirtual 24, 3) := sorry
theorem dX4_gather_102 : decode cX4_gather 102 = .ok (.imul, 1) := sorry
theorem dX4_gather_103 : decode cX4_gather 103 = .ok (.iadd, 1) := sorry
theorem dX4_gather_104 : decode cX4_gather 104 = .ok (.istore 9, 2) := sorry
theorem dX4_gather_106 : decode cX4_gather 106 = .ok (.iinc 5 1, 3) := sorry
theorem dX4_gather_109 : decode cX4_gather 109 = .ok (.iload 9, 2) := sorry
theorem dX4_gather_111 : decode cX4_gather 111 = .ok (.ifCond .eq 18, 3) := sorry
theorem dX4_gather_114 : decode cX4_gather 114 = .ok (.aload_n 0, 1) := sorry
theorem dX4_gather_115 : decode cX4_gather 115 = .ok (.aload 7, 2) := sorry
theorem dX4_gather_117 : decode cX4_gather 117 = .ok (.iload 8, 2) := sorry
theorem dX4_gather_119 : decode cX4_gather 119 = .ok (.iload 9, 2) := sorry
theorem dX4_gather_121 : decode cX4_gather 121 = .ok (.invokevirtual 63, 3) := sorry
theorem dX4_gather_124 : decode cX4_gather 124 = .ok (.ifCond .ne 5, 3) := sorry
theorem dX4_gather_127 : decode cX4_gather 127 = .ok (.iconst 0, 1) := sorry
def dtX4_gather_128_2 : List (Nat × Instr × Nat) := [(128, .ireturn, 1), (129, .goto (-118), 3), (132, .iconst 1, 1), (133, .ireturn, 1)]
theorem dtX4_gather_128_2_ok : dcAll cX4_gather dtX4_gather_128_2 = true := sorry
theorem dX4_gather_128 : decode cX4_gather 128 = .ok (.ireturn, 1) := sorry
theorem dX4_gather_129 : decode cX4_gather 129 = .ok (.goto (-118), 3) := sorry
theorem dX4_gather_132 : decode cX4_gather 132 = .ok (.iconst 1, 1) := sorry
theorem dX4_gather_133 : decode cX4_gather 133 = .ok (.ireturn, 1) := sorry
set_option maxRecDepth 20000 in
theorem ggX4_orderOfHeads_X4_compareRow : GoodIn wsX4_orderOfHeads wsX4_compareRow := sorry
set_option maxRecDepth 20000 in
theorem gX4_orderOfHeads_X4_compareRow : GoodIn wsX4_orderOfHeads (wsV RX4 37 RX4 yX4_compareRow wsX4_compareRow) := sorry
def dtX4_orderOfHeads_0_0 : List (Nat × Instr × Nat) := [(0, .iload_n 1, 1), (1, .aload_n 0, 1), (2, .getfield 34, 3), (5, .if_icmp .lt 5, 3), (8, .iconst 1, 1), (9, .ireturn, 1), (10, .iload_n 3, 1), (11, .aload_n 2, 1), (12, .getfield 34, 3), (15, .if_icmp .lt 5, 3), (18, .iconst (-1), 1), (19, .ireturn, 1), (20, .aload_n 0, 1), (21, .iload_n 1, 1), (22, .aload_n 2, 1), (23, .getfield 16, 3), (26, .iload_n 3, 1), (27, .bipush 6, 2), (29, .imul, 1), (30, .invokevirtual 37, 3), (33, .ireturn, 1)]
theorem dtX4_orderOfHeads_0_0_ok : dcAll cX4_orderOfHeads dtX4_orderOfHeads_0_0 = true := sorry
theorem dX4_orderOfHeads_0 : decode cX4_orderOfHeads 0 = .ok (.iload_n 1, 1) := sorry
theorem dX4_orderOfHeads_1 : decode cX4_orderOfHeads 1 = .ok (.aload_n 0, 1) := sorry
theorem dX4_orderOfHeads_2 : decode cX4_orderOfHeads 2 = .ok (.getfield 34, 3) := sorry
theorem dX4_orderOfHeads_5 : decode cX4_orderOfHeads 5 = .ok (.if_icmp .lt 5, 3) := sorry
theorem dX4_orderOfHeads_8 : decode cX4_orderOfHeads 8 = .ok (.iconst 1, 1) := sorry
theorem dX4_orderOfHeads_9 : decode cX4_orderOfHeads 9 = .ok (.ireturn, 1) := sorry
theorem dX4_orderOfHeads_10 : decode cX4_orderOfHeads 10 = .ok (.iload_n 3, 1) := sorry
theorem dX4_orderOfHeads_11 : decode cX4_orderOfHeads 11 = .ok (.aload_n 2, 1) := sorry
theorem dX4_orderOfHeads_12 : decode cX4_orderOfHeads 12 = .ok (.getfield 34, 3) := sorry
theorem dX4_orderOfHeads_15 : decode cX4_orderOfHeads 15 = .ok (.if_icmp .lt 5, 3) := sorry
theorem dX4_orderOfHeads_18 : decode cX4_orderOfHeads 18 = .ok (.iconst (-1), 1) := sorry
theorem dX4_orderOfHeads_19 : decode cX4_orderOfHeads 19 = .ok (.ireturn, 1) := sorry
theorem dX4_orderOfHeads_20 : decode cX4_orderOfHeads 20 = .ok (.aload_n 0, 1) := sorry
theorem dX4_orderOfHeads_21 : decode cX4_orderOfHeads 21 = .ok (.iload_n 1, 1) := sorry
theorem dX4_orderOfHeads_22 : decode cX4_orderOfHeads 22 = .ok (.aload_n 2, 1) := sorry
theorem dX4_orderOfHeads_23 : decode cX4_orderOfHeads 23 = .ok (.getfield 16, 3) := sorry
theorem dX4_orderOfHeads_26 : decode cX4_orderOfHeads 26 = .ok (.iload_n 3, 1) := sorry
theorem dX4_orderOfHeads_27 : decode cX4_orderOfHeads 27 = .ok (.bipush 6, 2) := sorry
theorem dX4_orderOfHeads_29 : decode cX4_orderOfHeads 29 = .ok (.imul, 1) := sorry
theorem dX4_orderOfHeads_30 : decode cX4_orderOfHeads 30 = .ok (.invokevirtual 37, 3) := sorry
theorem dX4_orderOfHeads_33 : decode cX4_orderOfHeads 33 = .ok (.ireturn, 1) := sorry
def dtX5_init_0_0 : List (Nat × Instr × Nat) := [(0, .aload_n 0, 1), (1, .invokespecial 3, 3), (4, .aload_n 0, 1), (5, .sipush 901, 3), (8, .newarray .int, 2), (10, .putfield 9, 3), (13, .aload_n 0, 1), (14, .sipush 901, 3), (17, .newarray .int, 2), (19, .putfield 15, 3), (22, .aload_n 0, 1), (23, .sipush 901, 3), (26, .newarray .int, 2), (28, .putfield 18, 3), (31, .aload_n 0, 1), (32, .sipush 901, 3), (35, .newarray .long, 2), (37, .putfield 21, 3), (40, .return_, 1)]
theorem dtX5_init_0_0_ok : dcAll cX5_init dtX5_init_0_0 = true := sorry
theorem dX5_init_0 : decode cX5_init 0 = .ok (.aload_n 0, 1) := sorry
theorem dX5_init_1 : decode cX5_init 1 = .ok (.invokespecial 3, 3) := sorry
theorem dX5_init_4 : decode cX5_init 4 = .ok (.aload_n 0, 1) := sorry
theorem dX5_init_5 : decode cX5_init 5 = .ok (.sipush 901, 3) := sorry
theorem dX5_init_8 : decode cX5_init 8 = .ok (.newarray .int, 2) := sorry
theorem dX5_init_10 : decode cX5_init 10 = .ok (.putfield 9, 3) := sorry
theorem dX5_init_13 : decode cX5_init 13 = .ok (.aload_n 0, 1) := sorry
theorem dX5_init_14 : decode cX5_init 14 = .ok (.sipush 901, 3) := sorry
theorem dX5_init_17 : decode cX5_init 17 = .ok (.newarray .int, 2) := sorry
theorem dX5_init_19 : decode cX5_init 19 = .ok (.putfield 15, 3) := sorry
theorem dX5_init_22 : decode cX5_init 22 = .ok (.aload_n 0, 1) := sorry
theorem dX5_init_23 : decode cX5_init 23 = .ok (.sipush 901, 3) := sorry
theorem dX5_init_26 : decode cX5_init 26 = .ok (.newarray .int, 2) := sorry
theorem dX5_init_28 : decode cX5_init 28 = .ok (.putfield 18, 3) := sorry
theorem dX5_init_31 : decode cX5_init 31 = .ok (.aload_n 0, 1) := sorry
theorem dX5_init_32 : decode cX5_init 32 = .ok (.sipush 901, 3) := sorry
theorem dX5_init_35 : decode cX5_init 35 = .ok (.newarray .long, 2) := sorry
theorem dX5_init_37 : decode cX5_init 37 = .ok (.putfield 21, 3) := sorry
theorem dX5_init_40 : decode cX5_init 40 = .ok (.return_, 1) := sorry
set_option maxRecDepth 20000 in
theorem ggX5_read_X5_isRunSign : GoodIn wsX5_read wsX5_isRunSign := sorry
set_option maxRecDepth 20000 in
theorem gX5_read_X5_isRunSign : GoodIn wsX5_read (va_wsS RX5 29 yX5_isRunSign wsX5_isRunSign) := sorry
set_option maxRecDepth 20000 in
theorem ggX5_read_X5_readRun : GoodIn wsX5_read wsX5_readRun := sorry
set_option maxRecDepth 20000 in
theorem gX5_read_X5_readRun : GoodIn wsX5_read (wsV RX5 33 RX5 yX5_readRun wsX5_readRun) := sorry
set_option maxRecDepth 20000 in
theorem ggX5_read_J0_indexOf_0f7a4 : GoodIn wsX5_read wsJ0_indexOf_0f7a4 := sorry
set_option maxRecDepth 20000 in
theorem gX5_read_J0_indexOf_0f7a4 : GoodIn wsX5_read (wsV RX5 39 RJ0 yJ0_indexOf_0f7a4 wsJ0_indexOf_0f7a4) := sorry
set_option maxRecDepth 20000 in
theorem ggX5_read_X5_addToken : GoodIn wsX5_read wsX5_addToken := sorry
set_option maxRecDepth 20000 in
theorem gX5_read_X5_addToken : GoodIn wsX5_read (wsV RX5 45 RX5 yX5_addToken wsX5_addToken) := sorry
def dtX5_read_0_0 : List (Nat × Instr × Nat) := [(0, .aload_n 0, 1), (1, .iconst 0, 1), (2, .putfield 25, 3), (5, .iconst 0, 1), (6, .istore_n 3, 1), (7, .iload_n 3, 1), (8, .iload_n 2, 1), (9, .if_icmp .ge 119, 3), (12, .iload_n 3, 1), (13, .istore 4, 2), (15, .iinc 3 1, 3), (18, .aload_n 1, 1), (19, .iload 4, 2), (21, .baload, 1), (22, .invokestatic 29, 3), (25, .ifCond .eq 34, 3), (28, .iload_n 3, 1), (29, .iload_n 2, 1), (30, .if_icmp .ge 18, 3), (33, .aload_n 1, 1), (34, .iload_n 3, 1), (35, .baload, 1), (36, .invokestatic 29, 3), (39, .ifCond .eq 9, 3), (42, .iinc 3 1, 3), (45, .goto (-17), 3), (48, .aload_n 0, 1), (49, .aload_n 1, 1), (50, .iload 4, 2), (52, .iload_n 3, 1), (53, .invokevirtual 33, 3), (56, .goto 69, 3)]
theorem dtX5_read_0_0_ok : dcAll cX5_read dtX5_read_0_0 = true := sorry
theorem dX5_read_0 : decode cX5_read 0 = .ok (.aload_n 0, 1) := sorry
theorem dX5_read_1 : decode cX5_read 1 = .ok (.iconst 0, 1) := sorry
theorem dX5_read_2 : decode cX5_read 2 = .ok (.putfield 25, 3) := sorry
theorem dX5_read_5 : decode cX5_read 5 = .ok (.iconst 0, 1) := sorry
theorem dX5_read_6 : decode cX5_read 6 = .ok (.istore_n 3, 1) := sorry
theorem dX5_read_7 : decode cX5_read 7 = .ok (.iload_n 3, 1) := sorry
theorem dX5_read_8 : decode cX5_read 8 = .ok (.iload_n 2, 1) := sorry
theorem dX5_read_9 : decode cX5_read 9 = .ok (.if_icmp .ge 119, 3) := sorry
theorem dX5_read_12 : decode cX5_read 12 = .ok (.iload_n 3, 1) := sorry
theorem dX5_read_13 : decode cX5_read 13 = .ok (.istore 4, 2) := sorry
theorem dX5_read_15 : decode cX5_read 15 = .ok (.iinc 3 1, 3) := sorry
theorem dX5_read_18 : decode cX5_read 18 = .ok (.aload_n 1, 1) := sorry
theorem dX5_read_19 : decode cX5_read 19 = .ok (.iload 4, 2) := sorry
theorem dX5_read_21 : decode cX5_read 21 = .ok (.baload, 1) := sorry
theorem dX5_read_22 : decode cX5_read 22 = .ok (.invokestatic 29, 3) := sorry
theorem dX5_read_25 : decode cX5_read 25 = .ok (.ifCond .eq 34, 3) := sorry
theorem dX5_read_28 : decode cX5_read 28 = .ok (.iload_n 3, 1) := sorry
theorem dX5_read_29 : decode cX5_read 29 = .ok (.iload_n 2, 1) := sorry
theorem dX5_read_30 : decode cX5_read 30 = .ok (.if_icmp .ge 18, 3) := sorry
theorem dX5_read_33 : decode cX5_read 33 = .ok (.aload_n 1, 1) := sorry
theorem dX5_read_34 : decode cX5_read 34 = .ok (.iload_n 3, 1) := sorry
theorem dX5_read_35 : decode cX5_read 35 = .ok (.baload, 1) := sorry
theorem dX5_read_36 : decode cX5_read 36 = .ok (.invokestatic 29, 3) := sorry
theorem dX5_read_39 : decode cX5_read 39 = .ok (.ifCond .eq 9, 3) := sorry
theorem dX5_read_42 : decode cX5_read 42 = .ok (.iinc 3 1, 3) := sorry
theorem dX5_read_45 : decode cX5_read 45 = .ok (.goto (-17), 3) := sorry
theorem dX5_read_48 : decode cX5_read 48 = .ok (.aload_n 0, 1) := sorry
theorem dX5_read_49 : decode cX5_read 49 = .ok (.aload_n 1, 1) := sorry
theorem dX5_read_50 : decode cX5_read 50 = .ok (.iload 4, 2) := sorry
theorem dX5_read_52 : decode cX5_read 52 = .ok (.iload_n 3, 1) := sorry
theorem dX5_read_53 : decode cX5_read 53 = .ok (.invokevirtual 33, 3) := sorry
theorem dX5_read_56 : decode cX5_read 56 = .ok (.goto 69, 3) := sorry
def dtX5_read_59_1 : List (Nat × Instr × Nat) := [(59, .aload_n 1, 1), (60, .iload 4, 2), (62, .baload, 1), (63, .bipush 32, 2), (65, .if_icmp .eq 60, 3), (68, .aload_n 1, 1), (69, .iload 4, 2), (71, .baload, 1), (72, .bipush 10, 2), (74, .if_icmp .eq 51, 3), (77, .aload_n 1, 1), (78, .iload 4, 2), (80, .baload, 1), (81, .ifCond .le 20, 3), (84, .ldc 37, 2), (86, .aload_n 1, 1), (87, .iload 4, 2), (89, .baload, 1), (90, .i2c, 1), (91, .invokevirtual 39, 3), (94, .ifCond .lt 7, 3), (97, .iconst 1, 1), (98, .goto 4, 3), (101, .iconst 0, 1), (102, .istore 5, 2), (104, .aload_n 0, 1), (105, .iload 5, 2), (107, .ifCond .eq 10, 3), (110, .aload_n 1, 1), (111, .iload 4, 2), (113, .baload, 1), (114, .goto 4, 3)]
theorem dtX5_read_59_1_ok : dcAll cX5_read dtX5_read_59_1 = true := sorry
theorem dX5_read_59 : decode cX5_read 59 = .ok (.aload_n 1, 1) := sorry
theorem dX5_read_60 : decode cX5_read 60 = .ok (.iload 4, 2) := sorry
theorem dX5_read_62 : decode cX5_read 62 = .ok (.baload, 1) := sorry
theorem dX5_read_63 : decode cX5_read 63 = .ok (.bipush 32, 2) := sorry
theorem dX5_read_65 : decode cX5_read 65 = .ok (.if_icmp .eq 60, 3) := sorry
theorem dX5_read_68 : decode cX5_read 68 = .ok (.aload_n 1, 1) := sorry
theorem dX5_read_69 : decode cX5_read 69 = .ok (.iload 4, 2) := sorry
theorem dX5_read_71 : decode cX5_read 71 = .ok (.baload, 1) := sorry
theorem dX5_read_72 : decode cX5_read 72 = .ok (.bipush 10, 2) := sorry
theorem dX5_read_74 : decode cX5_read 74 = .ok (.if_icmp .eq 51, 3) := sorry
theorem dX5_read_77 : decode cX5_read 77 = .ok (.aload_n 1, 1) := sorry
theorem dX5_read_78 : decode cX5_read 78 = .ok (.iload 4, 2) := sorry
theorem dX5_read_80 : decode cX5_read 80 = .ok (.baload, 1) := sorry
theorem dX5_read_81 : decode cX5_read 81 = .ok (.ifCond .le 20, 3) := sorry
theorem dX5_read_84 : decode cX5_read 84 = .ok (.ldc 37, 2) := sorry
theorem dX5_read_86 : decode cX5_read 86 = .ok (.aload_n 1, 1) := sorry
theorem dX5_read_87 : decode cX5_read 87 = .ok (.iload 4, 2) := sorry
theorem dX5_read_89 : decode cX5_read 89 = .ok (.baload, 1) := sorry
theorem dX5_read_90 : decode cX5_read 90 = .ok (.i2c, 1) := sorry
theorem dX5_read_91 : decode cX5_read 91 = .ok (.invokevirtual 39, 3) := sorry
theorem dX5_read_94 : decode cX5_read 94 = .ok (.ifCond .lt 7, 3) := sorry
theorem dX5_read_97 : decode cX5_read 97 = .ok (.iconst 1, 1) := sorry
theorem dX5_read_98 : decode cX5_read 98 = .ok (.goto 4, 3) := sorry
theorem dX5_read_101 : decode cX5_read 101 = .ok (.iconst 0, 1) := sorry
theorem dX5_read_102 : decode cX5_read 102 = .ok (.istore 5, 2) := sorry
theorem dX5_read_104 : decode cX5_read 104 = .ok (.aload_n 0, 1) := sorry
theorem dX5_read_105 : decode cX5_read 105 = .ok (.iload 5, 2) := sorry
theorem dX5_read_107 : decode cX5_read 107 = .ok (.ifCond .eq 10, 3) := sorry
theorem dX5_read_110 : decode cX5_read 110 = .ok (.aload_n 1, 1) := sorry
theorem dX5_read_111 : decode cX5_read 111 = .ok (.iload 4, 2) := sorry
theorem dX5_read_113 : decode cX5_read 113 = .ok (.baload, 1) := sorry
theorem dX5_read_114 : decode cX5_read 114 = .ok (.goto 4, 3) := sorry
def dtX5_read_117_2 : List (Nat × Instr × Nat) := [(117, .iconst 1, 1), (118, .iload 4, 2), (120, .iconst 0, 1), (121, .lconst 0, 1), (122, .invokevirtual 45, 3), (125, .goto (-118), 3), (128, .aload_n 0, 1), (129, .iconst 0, 1), (130, .iload_n 2, 1), (131, .iconst 0, 1), (132, .lconst 0, 1), (133, .invokevirtual 45, 3), (136, .return_, 1)]
theorem dtX5_read_117_2_ok : dcAll cX5_read dtX5_read_117_2 = true := sorry
theorem dX5_read_117 : decode cX5_read 117 = .ok (.iconst 1, 1) := sorry
theorem dX5_read_118 : decode cX5_read 118 = .ok (.iload 4, 2) := sorry
theorem dX5_read_120 : decode cX5_read 120 = .ok (.iconst 0, 1) := sorry
theorem dX5_read_121 : decode cX5_read 121 = .ok (.lconst 0, 1) := sorry
theorem dX5_read_122 : decode cX5_read 122 = .ok (.invokevirtual 45, 3) := sorry
theorem dX5_read_125 : decode cX5_read 125 = .ok (.goto (-118), 3) := sorry
theorem dX5_read_128 : decode cX5_read 128 = .ok (.aload_n 0, 1) := sorry
theorem dX5_read_129 : decode cX5_read 129 = .ok (.iconst 0, 1) := sorry
theorem dX5_read_130 : decode cX5_read 130 = .ok (.iload_n 2, 1) := sorry
theorem dX5_read_131 : decode cX5_read 131 = .ok (.iconst 0, 1) := sorry
theorem dX5_read_132 : decode cX5_read 132 = .ok (.lconst 0, 1) := sorry
theorem dX5_read_133 : decode cX5_read 133 = .ok (.invokevirtual 45, 3) := sorry
theorem dX5_read_136 : decode cX5_read 136 = .ok (.return_, 1) := sorry
def dtX5_addToken_0_0 : List (Nat × Instr × Nat) := [(0, .aload_n 0, 1), (1, .getfield 9, 3), (4, .aload_n 0, 1), (5, .getfield 25, 3), (8, .iload_n 1, 1), (9, .iastore, 1), (10, .aload_n 0, 1), (11, .getfield 15, 3), (14, .aload_n 0, 1), (15, .getfield 25, 3), (18, .iload_n 2, 1), (19, .iastore, 1), (20, .aload_n 0, 1), (21, .getfield 18, 3), (24, .aload_n 0, 1), (25, .getfield 25, 3), (28, .iload_n 3, 1), (29, .iastore, 1), (30, .aload_n 0, 1), (31, .getfield 21, 3), (34, .aload_n 0, 1), (35, .getfield 25, 3), (38, .lload 4, 2), (40, .lastore, 1), (41, .aload_n 0, 1), (42, .dup, 1), (43, .getfield 25, 3), (46, .iconst 1, 1), (47, .iadd, 1), (48, .putfield 25, 3), (51, .return_, 1)]
theorem dtX5_addToken_0_0_ok : dcAll cX5_addToken dtX5_addToken_0_0 = true := sorry
theorem dX5_addToken_0 : decode cX5_addToken 0 = .ok (.aload_n 0, 1) := sorry
theorem dX5_addToken_1 : decode cX5_addToken 1 = .ok (.getfield 9, 3) := sorry
theorem dX5_addToken_4 : decode cX5_addToken 4 = .ok (.aload_n 0, 1) := sorry
theorem dX5_addToken_5 : decode cX5_addToken 5 = .ok (.getfield 25, 3) := sorry
theorem dX5_addToken_8 : decode cX5_addToken 8 = .ok (.iload_n 1, 1) := sorry
theorem dX5_addToken_9 : decode cX5_addToken 9 = .ok (.iastore, 1) := sorry
theorem dX5_addToken_10 : decode cX5_addToken 10 = .ok (.aload_n 0, 1) := sorry
theorem dX5_addToken_11 : decode cX5_addToken 11 = .ok (.getfield 15, 3) := sorry
theorem dX5_addToken_14 : decode cX5_addToken 14 = .ok (.aload_n 0, 1) := sorry
theorem dX5_addToken_15 : decode cX5_addToken 15 = .ok (.getfield 25, 3) := sorry
theorem dX5_addToken_18 : decode cX5_addToken 18 = .ok (.iload_n 2, 1) := sorry
theorem dX5_addToken_19 : decode cX5_addToken 19 = .ok (.iastore, 1) := sorry
theorem dX5_addToken_20 : decode cX5_addToken 20 = .ok (.aload_n 0, 1) := sorry
theorem dX5_addToken_21 : decode cX5_addToken 21 = .ok (.getfield 18, 3) := sorry
theorem dX5_addToken_24 : decode cX5_addToken 24 = .ok (.aload_n 0, 1) := sorry
theorem dX5_addToken_25 : decode cX5_addToken 25 = .ok (.getfield 25, 3) := sorry
theorem dX5_addToken_28 : decode cX5_addToken 28 = .ok (.iload_n 3, 1) := sorry
theorem dX5_addToken_29 : decode cX5_addToken 29 = .ok (.iastore, 1) := sorry
theorem dX5_addToken_30 : decode cX5_addToken 30 = .ok (.aload_n 0, 1) := sorry
theorem dX5_addToken_31 : decode cX5_addToken 31 = .ok (.getfield 21, 3) := sorry
theorem dX5_addToken_34 : decode cX5_addToken 34 = .ok (.aload_n 0, 1) := sorry
theorem dX5_addToken_35 : decode cX5_addToken 35 = .ok (.getfield 25, 3) := sorry
theorem dX5_addToken_38 : decode cX5_addToken 38 = .ok (.lload 4, 2) := sorry
theorem dX5_addToken_40 : decode cX5_addToken 40 = .ok (.lastore, 1) := sorry
theorem dX5_addToken_41 : decode cX5_addToken 41 = .ok (.aload_n 0, 1) := sorry
theorem dX5_addToken_42 : decode cX5_addToken 42 = .ok (.dup, 1) := sorry
theorem dX5_addToken_43 : decode cX5_addToken 43 = .ok (.getfield 25, 3) := sorry
theorem dX5_addToken_46 : decode cX5_addToken 46 = .ok (.iconst 1, 1) := sorry
theorem dX5_addToken_47 : decode cX5_addToken 47 = .ok (.iadd, 1) := sorry
theorem dX5_addToken_48 : decode cX5_addToken 48 = .ok (.putfield 25, 3) := sorry
theorem dX5_addToken_51 : decode cX5_addToken 51 = .ok (.return_, 1) := sorry
def dtX5_isDigit_0_0 : List (Nat × Instr × Nat) := [(0, .iload_n 0, 1), (1, .bipush 48, 2), (3, .if_icmp .lt 13, 3), (6, .iload_n 0, 1), (7, .bipush 57, 2), (9, .if_icmp .gt 7, 3), (12, .iconst 1, 1), (13, .goto 4, 3), (16, .iconst 0, 1), (17, .ireturn, 1)]
theorem dtX5_isDigit_0_0_ok : dcAll cX5_isDigit dtX5_isDigit_0_0 = true := sorry
theorem dX5_isDigit_0 : decode cX5_isDigit 0 = .ok (.iload_n 0, 1) := sorry
theorem dX5_isDigit_1 : decode cX5_isDigit 1 = .ok (.bipush 48, 2) := sorry
theorem dX5_isDigit_3 : decode cX5_isDigit 3 = .ok (.if_icmp .lt 13, 3) := sorry
theorem dX5_isDigit_6 : decode cX5_isDigit 6 = .ok (.iload_n 0, 1) := sorry
theorem dX5_isDigit_7 : decode cX5_isDigit 7 = .ok (.bipush 57, 2) := sorry
theorem dX5_isDigit_9 : decode cX5_isDigit 9 = .ok (.if_icmp .gt 7, 3) := sorry
theorem dX5_isDigit_12 : decode cX5_isDigit 12 = .ok (.iconst 1, 1) := sorry
theorem dX5_isDigit_13 : decode cX5_isDigit 13 = .ok (.goto 4, 3) := sorry
theorem dX5_isDigit_16 : decode cX5_isDigit 16 = .ok (.iconst 0, 1) := sorry
theorem dX5_isDigit_17 : decode cX5_isDigit 17 = .ok (.ireturn, 1) := sorry
set_option maxRecDepth 20000 in
theorem ggX5_isRunSign_X5_isDigit : GoodIn wsX5_isRunSign wsX5_isDigit := sorry
set_option maxRecDepth 20000 in
theorem gX5_isRunSign_X5_isDigit : GoodIn wsX5_isRunSign (va_wsS RX5 49 yX5_isDigit wsX5_isDigit) := sorry
def dtX5_isRunSign_0_0 : List (Nat × Instr × Nat) := [(0, .iload_n 0, 1), (1, .invokestatic 49, 3), (4, .ifCond .ne 15, 3), (7, .iload_n 0, 1), (8, .bipush 97, 2), (10, .if_icmp .lt 13, 3), (13, .iload_n 0, 1), (14, .bipush 122, 2), (16, .if_icmp .gt 7, 3), (19, .iconst 1, 1), (20, .goto 4, 3), (23, .iconst 0, 1), (24, .ireturn, 1)]
theorem dtX5_isRunSign_0_0_ok : dcAll cX5_isRunSign dtX5_isRunSign_0_0 = true := sorry
theorem dX5_isRunSign_0 : decode cX5_isRunSign 0 = .ok (.iload_n 0, 1) := sorry
theorem dX5_isRunSign_1 : decode cX5_isRunSign 1 = .ok (.invokestatic 49, 3) := sorry
theorem dX5_isRunSign_4 : decode cX5_isRunSign 4 = .ok (.ifCond .ne 15, 3) := sorry
theorem dX5_isRunSign_7 : decode cX5_isRunSign 7 = .ok (.iload_n 0, 1) := sorry
theorem dX5_isRunSign_8 : decode cX5_isRunSign 8 = .ok (.bipush 97, 2) := sorry
theorem dX5_isRunSign_10 : decode cX5_isRunSign 10 = .ok (.if_icmp .lt 13, 3) := sorry
theorem dX5_isRunSign_13 : decode cX5_isRunSign 13 = .ok (.iload_n 0, 1) := sorry
theorem dX5_isRunSign_14 : decode cX5_isRunSign 14 = .ok (.bipush 122, 2) := sorry
theorem dX5_isRunSign_16 : decode cX5_isRunSign 16 = .ok (.if_icmp .gt 7, 3) := sorry
theorem dX5_isRunSign_19 : decode cX5_isRunSign 19 = .ok (.iconst 1, 1) := sorry
theorem dX5_isRunSign_20 : decode cX5_isRunSign 20 = .ok (.goto 4, 3) := sorry
theorem dX5_isRunSign_23 : decode cX5_isRunSign 23 = .ok (.iconst 0, 1) := sorry
theorem dX5_isRunSign_24 : decode cX5_isRunSign 24 = .ok (.ireturn, 1) := sorry
set_option maxRecDepth 20000 in
theorem ggX5_readRun_X5_isDigit : GoodIn wsX5_readRun wsX5_isDigit := sorry
set_option maxRecDepth 20000 in
theorem gX5_readRun_X5_isDigit : GoodIn wsX5_readRun (va_wsS RX5 49 yX5_isDigit wsX5_isDigit) := sorry
set_option maxRecDepth 20000 in
theorem ggX5_readRun_X5_wordNumber : GoodIn wsX5_readRun wsX5_wordNumber := sorry
set_option maxRecDepth 20000 in
theorem gX5_readRun_X5_wordNumber : GoodIn wsX5_readRun (va_wsS RX5 52 yX5_wordNumber wsX5_wordNumber) := sorry
set_option maxRecDepth 20000 in
theorem ggX5_readRun_X5_nameOf : GoodIn wsX5_readRun wsX5_nameOf := sorry
set_option maxRecDepth 20000 in
theorem gX5_readRun_X5_nameOf : GoodIn wsX5_readRun (va_wsS RX5 56 yX5_nameOf wsX5_nameOf) := sorry
set_option maxRecDepth 20000 in
theorem ggX5_readRun_X5_addToken : GoodIn wsX5_readRun wsX5_addToken := sorry
set_option maxRecDepth 20000 in
theorem gX5_readRun_X5_addToken : GoodIn wsX5_readRun (wsV RX5 45 RX5 yX5_addToken wsX5_addToken) := sorry
set_option maxRecDepth 20000 in
theorem ggX5_readRun_X5_numberOf : GoodIn wsX5_readRun wsX5_numberOf := sorry
set_option maxRecDepth 20000 in
theorem gX5_readRun_X5_numberOf : GoodIn wsX5_readRun (va_wsS RX5 60 yX5_numberOf wsX5_numberOf) := sorry
def dtX5_readRun_0_0 : List (Nat × Instr × Nat) := [(0, .iconst 0, 1), (1, .istore 4, 2), (3, .iload_n 2, 1), (4, .istore 5, 2), (6, .iload 5, 2), (8, .iload_n 3, 1), (9, .if_icmp .ge 29, 3), (12, .iload 4, 2), (14, .aload_n 1, 1), (15, .iload 5, 2), (17, .baload, 1), (18, .invokestatic 49, 3), (21, .ifCond .eq 7, 3), (24, .iconst 1, 1), (25, .goto 4, 3), (28, .iconst 0, 1), (29, .iadd, 1), (30, .istore 4, 2), (32, .iinc 5 1, 3), (35, .goto (-29), 3), (38, .iload_n 3, 1), (39, .iload_n 2, 1), (40, .isub, 1), (41, .istore 5, 2), (43, .iload 4, 2), (45, .ifCond .ne 31, 3), (48, .iload 5, 2), (50, .bipush 8, 2), (52, .if_icmp .gt 24, 3), (55, .aload_n 0, 1), (56, .iconst 3, 1), (57, .iload_n 2, 1)]
theorem dtX5_readRun_0_0_ok : dcAll cX5_readRun dtX5_readRun_0_0 = true := sorry
theorem dX5_readRun_0 : decode cX5_readRun 0 = .ok (.iconst 0, 1) := sorry
theorem dX5_readRun_1 : decode cX5_readRun 1 = .ok (.istore 4, 2) := sorry
theorem dX5_readRun_3 : decode cX5_readRun 3 = .ok (.iload_n 2, 1) := sorry
theorem dX5_readRun_4 : decode cX5_readRun 4 = .ok (.istore 5, 2) := sorry
theorem dX5_readRun_6 : decode cX5_readRun 6 = .ok (.iload 5, 2) := sorry
theorem dX5_readRun_8 : decode cX5_readRun 8 = .ok (.iload_n 3, 1) := sorry
theorem dX5_readRun_9 : decode cX5_readRun 9 = .ok (.if_icmp .ge 29, 3) := sorry
theorem dX5_readRun_12 : decode cX5_readRun 12 = .ok (.iload 4, 2) := sorry
theorem dX5_readRun_14 : decode cX5_readRun 14 = .ok (.aload_n 1, 1) := sorry
theorem dX5_readRun_15 : decode cX5_readRun 15 = .ok (.iload 5, 2) := sorry
theorem dX5_readRun_17 : decode cX5_readRun 17 = .ok (.baload, 1) := sorry
theorem dX5_readRun_18 : decode cX5_readRun 18 = .ok (.invokestatic 49, 3) := sorry
theorem dX5_readRun_21 : decode cX5_readRun 21 = .ok (.ifCond .eq 7, 3) := sorry
theorem dX5_readRun_24 : decode cX5_readRun 24 = .ok (.iconst 1, 1) := sorry
theorem dX5_readRun_25 : decode cX5_readRun 25 = .ok (.goto 4, 3) := sorry
theorem dX5_readRun_28 : decode cX5_readRun 28 = .ok (.iconst 0, 1) := sorry
theorem dX5_readRun_29 : decode cX5_readRun 29 = .ok (.iadd, 1) := sorry
theorem dX5_readRun_30 : decode cX5_readRun 30 = .ok (.istore 4, 2) := sorry
theorem dX5_readRun_32 : decode cX5_readRun 32 = .ok (.iinc 5 1, 3) := sorry
theorem dX5_readRun_35 : decode cX5_readRun 35 = .ok (.goto (-29), 3) := sorry
theorem dX5_readRun_38 : decode cX5_readRun 38 = .ok (.iload_n 3, 1) := sorry
theorem dX5_readRun_39 : decode cX5_readRun 39 = .ok (.iload_n 2, 1) := sorry
theorem dX5_readRun_40 : decode cX5_readRun 40 = .ok (.isub, 1) := sorry
theorem dX5_readRun_41 : decode cX5_readRun 41 = .ok (.istore 5, 2) := sorry
theorem dX5_readRun_43 : decode cX5_readRun 43 = .ok (.iload 4, 2) := sorry
theorem dX5_readRun_45 : decode cX5_readRun 45 = .ok (.ifCond .ne 31, 3) := sorry
theorem dX5_readRun_48 : decode cX5_readRun 48 = .ok (.iload 5, 2) := sorry
theorem dX5_readRun_50 : decode cX5_readRun 50 = .ok (.bipush 8, 2) := sorry
theorem dX5_readRun_52 : decode cX5_readRun 52 = .ok (.if_icmp .gt 24, 3) := sorry
theorem dX5_readRun_55 : decode cX5_readRun 55 = .ok (.aload_n 0, 1) := sorry
theorem dX5_readRun_56 : decode cX5_readRun 56 = .ok (.iconst 3, 1) := sorry
theorem dX5_readRun_57 : decode cX5_readRun 57 = .ok (.iload_n 2, 1) := sorry
def dtX5_readRun_58_1 : List (Nat × Instr × Nat) := [(58, .aload_n 1, 1), (59, .iload_n 2, 1), (60, .iload_n 3, 1), (61, .invokestatic 52, 3), (64, .aload_n 1, 1), (65, .iload_n 2, 1), (66, .iload_n 3, 1), (67, .invokestatic 56, 3), (70, .invokevirtual 45, 3), (73, .goto 92, 3), (76, .iload 4, 2), (78, .iload 5, 2), (80, .if_icmp .ne 25, 3), (83, .iload 5, 2), (85, .iconst 4, 1), (86, .if_icmp .gt 19, 3), (89, .aload_n 0, 1), (90, .iconst 4, 1), (91, .iload_n 2, 1), (92, .aload_n 1, 1), (93, .iload_n 2, 1), (94, .iload_n 3, 1), (95, .invokestatic 60, 3), (98, .lconst 0, 1), (99, .invokevirtual 45, 3), (102, .goto 63, 3), (105, .iload 5, 2), (107, .iconst 2, 1), (108, .if_icmp .ne 49, 3), (111, .aload_n 1, 1), (112, .iload_n 2, 1), (113, .baload, 1)]
theorem dtX5_readRun_58_1_ok : dcAll cX5_readRun dtX5_readRun_58_1 = true := sorry
theorem dX5_readRun_58 : decode cX5_readRun 58 = .ok (.aload_n 1, 1) := sorry
theorem dX5_readRun_59 : decode cX5_readRun 59 = .ok (.iload_n 2, 1) := sorry
theorem dX5_readRun_60 : decode cX5_readRun 60 = .ok (.iload_n 3, 1) := sorry
theorem dX5_readRun_61 : decode cX5_readRun 61 = .ok (.invokestatic 52, 3) := sorry
theorem dX5_readRun_64 : decode cX5_readRun 64 = .ok (.aload_n 1, 1) := sorry
theorem dX5_readRun_65 : decode cX5_readRun 65 = .ok (.iload_n 2, 1) := sorry
theorem dX5_readRun_66 : decode cX5_readRun 66 = .ok (.iload_n 3, 1) := sorry
theorem dX5_readRun_67 : decode cX5_readRun 67 = .ok (.invokestatic 56, 3) := sorry
theorem dX5_readRun_70 : decode cX5_readRun 70 = .ok (.invokevirtual 45, 3) := sorry
theorem dX5_readRun_73 : decode cX5_readRun 73 = .ok (.goto 92, 3) := sorry
theorem dX5_readRun_76 : decode cX5_readRun 76 = .ok (.iload 4, 2) := sorry
theorem dX5_readRun_78 : decode cX5_readRun 78 = .ok (.iload 5, 2) := sorry
theorem dX5_readRun_80 : decode cX5_readRun 80 = .ok (.if_icmp .ne 25, 3) := sorry
theorem dX5_readRun_83 : decode cX5_readRun 83 = .ok (.iload 5, 2) := sorry
theorem dX5_readRun_85 : decode cX5_readRun 85 = .ok (.iconst 4, 1) := sorry
theorem dX5_readRun_86 : decode cX5_readRun 86 = .ok (.if_icmp .gt 19, 3) := sorry
theorem dX5_readRun_89 : decode cX5_readRun 89 = .ok (.aload_n 0, 1) := sorry
theorem dX5_readRun_90 : decode cX5_readRun 90 = .ok (.iconst 4, 1) := sorry
theorem dX5_readRun_91 : decode cX5_readRun 91 = .ok (.iload_n 2, 1) := sorry
theorem dX5_readRun_92 : decode cX5_readRun 92 = .ok (.aload_n 1, 1) := sorry
theorem dX5_readRun_93 : decode cX5_readRun 93 = .ok (.iload_n 2, 1) := sorry
theorem dX5_readRun_94 : decode cX5_readRun 94 = .ok (.iload_n 3, 1) := sorry
theorem dX5_readRun_95 : decode cX5_readRun 95 = .ok (.invokestatic 60, 3) := sorry
theorem dX5_readRun_98 : decode cX5_readRun 98 = .ok (.lconst 0, 1) := sorry
theorem dX5_readRun_99 : decode cX5_readRun 99 = .ok (.invokevirtual 45, 3) := sorry
theorem dX5_readRun_102 : decode cX5_readRun 102 = .ok (.goto 63, 3) := sorry
theorem dX5_readRun_105 : decode cX5_readRun 105 = .ok (.iload 5, 2) := sorry
theorem dX5_readRun_107 : decode cX5_readRun 107 = .ok (.iconst 2, 1) := sorry
theorem dX5_readRun_108 : decode cX5_readRun 108 = .ok (.if_icmp .ne 49, 3) := sorry
theorem dX5_readRun_111 : decode cX5_readRun 111 = .ok (.aload_n 1, 1) := sorry
theorem dX5_readRun_112 : decode cX5_readRun 112 = .ok (.iload_n 2, 1) := sorry
theorem dX5_readRun_113 : decode cX5_readRun 113 = .ok (.baload, 1) := sorry
def dtX5_readRun_114_2 : List (Nat × Instr × Nat) := [(114, .bipush 99, 2), (116, .if_icmp .ne 41, 3), (119, .aload_n 1, 1), (120, .iload_n 2, 1), (121, .iconst 1, 1), (122, .iadd, 1), (123, .baload, 1), (124, .bipush 48, 2), (126, .if_icmp .lt 31, 3), (129, .aload_n 1, 1), (130, .iload_n 2, 1), (131, .iconst 1, 1), (132, .iadd, 1), (133, .baload, 1), (134, .bipush 51, 2), (136, .if_icmp .gt 21, 3), (139, .aload_n 0, 1), (140, .iconst 2, 1), (141, .iload_n 2, 1), (142, .aload_n 1, 1), (143, .iload_n 2, 1), (144, .iconst 1, 1), (145, .iadd, 1), (146, .baload, 1), (147, .bipush 48, 2), (149, .isub, 1), (150, .lconst 0, 1), (151, .invokevirtual 45, 3), (154, .goto 11, 3), (157, .aload_n 0, 1), (158, .iconst 1, 1), (159, .iload_n 2, 1)]
theorem dtX5_readRun_114_2_ok : dcAll cX5_readRun dtX5_readRun_114_2 = true := sorry
theorem dX5_readRun_114 : decode cX5_readRun 114 = .ok (.bipush 99, 2) := sorry
theorem dX5_readRun_116 : decode cX5_readRun 116 = .ok (.if_icmp .ne 41, 3) := sorry
theorem dX5_readRun_119 : decode cX5_readRun 119 = .ok (.aload_n 1, 1) := sorry
theorem dX5_readRun_120 : decode cX5_readRun 120 = .ok (.iload_n 2, 1) := sorry
theorem dX5_readRun_121 : decode cX5_readRun 121 = .ok (.iconst 1, 1) := sorry
theorem dX5_readRun_122 : decode cX5_readRun 122 = .ok (.iadd, 1) := sorry
theorem dX5_readRun_123 : decode cX5_readRun 123 = .ok (.baload, 1) := sorry
theorem dX5_readRun_124 : decode cX5_readRun 124 = .ok (.bipush 48, 2) := sorry
theorem dX5_readRun_126 : decode cX5_readRun 126 = .ok (.if_icmp .lt 31, 3) := sorry
theorem dX5_readRun_129 : decode cX5_readRun 129 = .ok (.aload_n 1, 1) := sorry
theorem dX5_readRun_130 : decode cX5_readRun 130 = .ok (.iload_n 2, 1) := sorry
theorem dX5_readRun_131 : decode cX5_readRun 131 = .ok (.iconst 1, 1) := sorry
theorem dX5_readRun_132 : decode cX5_readRun 132 = .ok (.iadd, 1) := sorry
theorem dX5_readRun_133 : decode cX5_readRun 133 = .ok (.baload, 1) := sorry
theorem dX5_readRun_134 : decode cX5_readRun 134 = .ok (.bipush 51, 2) := sorry
theorem dX5_readRun_136 : decode cX5_readRun 136 = .ok (.if_icmp .gt 21, 3) := sorry
theorem dX5_readRun_139 : decode cX5_readRun 139 = .ok (.aload_n 0, 1) := sorry
theorem dX5_readRun_140 : decode cX5_readRun 140 = .ok (.iconst 2, 1) := sorry
theorem dX5_readRun_141 : decode cX5_readRun 141 = .ok (.iload_n 2, 1) := sorry
theorem dX5_readRun_142 : decode cX5_readRun 142 = .ok (.aload_n 1, 1) := sorry
theorem dX5_readRun_143 : decode cX5_readRun 143 = .ok (.iload_n 2, 1) := sorry
theorem dX5_readRun_144 : decode cX5_readRun 144 = .ok (.iconst 1, 1) := sorry
theorem dX5_readRun_145 : decode cX5_readRun 145 = .ok (.iadd, 1) := sorry
theorem dX5_readRun_146 : decode cX5_readRun 146 = .ok (.baload, 1) := sorry
theorem dX5_readRun_147 : decode cX5_readRun 147 = .ok (.bipush 48, 2) := sorry
theorem dX5_readRun_149 : decode cX5_readRun 149 = .ok (.isub, 1) := sorry
theorem dX5_readRun_150 : decode cX5_readRun 150 = .ok (.lconst 0, 1) := sorry
theorem dX5_readRun_151 : decode cX5_readRun 151 = .ok (.invokevirtual 45, 3) := sorry
theorem dX5_readRun_154 : decode cX5_readRun 154 = .ok (.goto 11, 3) := sorry
theorem dX5_readRun_157 : decode cX5_readRun 157 = .ok (.aload_n 0, 1) := sorry
theorem dX5_readRun_158 : decode cX5_readRun 158 = .ok (.iconst 1, 1) := sorry
theorem dX5_readRun_159 : decode cX5_readRun 159 = .ok (.iload_n 2, 1) := sorry
def dtX5_readRun_160_3 : List (Nat × Instr × Nat) := [(160, .iconst 0, 1), (161, .lconst 0, 1), (162, .invokevirtual 45, 3), (165, .return_, 1)]
theorem dtX5_readRun_160_3_ok : dcAll cX5_readRun dtX5_readRun_160_3 = true := sorry
theorem dX5_readRun_160 : decode cX5_readRun 160 = .ok (.iconst 0, 1) := sorry
theorem dX5_readRun_161 : decode cX5_readRun 161 = .ok (.lconst 0, 1) := sorry
theorem dX5_readRun_162 : decode cX5_readRun 162 = .ok (.invokevirtual 45, 3) := sorry
theorem dX5_readRun_165 : decode cX5_readRun 165 = .ok (.return_, 1) := sorry
def dtX5_nameOf_0_0 : List (Nat × Instr × Nat) := [(0, .lconst 0, 1), (1, .lstore_n 3, 1), (2, .iload_n 1, 1), (3, .istore 5, 2), (5, .iload 5, 2), (7, .iload_n 2, 1), (8, .if_icmp .ge 24, 3), (11, .lload_n 3, 1), (12, .iconst 5, 1), (13, .lshl, 1), (14, .aload_n 0, 1), (15, .iload 5, 2), (17, .baload, 1), (18, .bipush 97, 2), (20, .isub, 1), (21, .iconst 1, 1), (22, .iadd, 1), (23, .i2l, 1), (24, .lor, 1), (25, .lstore_n 3, 1), (26, .iinc 5 1, 3), (29, .goto (-24), 3), (32, .lload_n 3, 1), (33, .lreturn, 1)]
theorem dtX5_nameOf_0_0_ok : dcAll cX5_nameOf dtX5_nameOf_0_0 = true := sorry
theorem dX5_nameOf_0 : decode cX5_nameOf 0 = .ok (.lconst 0, 1) := sorry
theorem dX5_nameOf_1 : decode cX5_nameOf 1 = .ok (.lstore_n 3, 1) := sorry
theorem dX5_nameOf_2 : decode cX5_nameOf 2 = .ok (.iload_n 1, 1) := sorry
theorem dX5_nameOf_3 : decode cX5_nameOf 3 = .ok (.istore 5, 2) := sorry
theorem dX5_nameOf_5 : decode cX5_nameOf 5 = .ok (.iload 5, 2) := sorry
theorem dX5_nameOf_7 : decode cX5_nameOf 7 = .ok (.iload_n 2, 1) := sorry
theorem dX5_nameOf_8 : decode cX5_nameOf 8 = .ok (.if_icmp .ge 24, 3) := sorry
theorem dX5_nameOf_11 : decode cX5_nameOf 11 = .ok (.lload_n 3, 1) := sorry
theorem dX5_nameOf_12 : decode cX5_nameOf 12 = .ok (.iconst 5, 1) := sorry
theorem dX5_nameOf_13 : decode cX5_nameOf 13 = .ok (.lshl, 1) := sorry
theorem dX5_nameOf_14 : decode cX5_nameOf 14 = .ok (.aload_n 0, 1) := sorry
theorem dX5_nameOf_15 : decode cX5_nameOf 15 = .ok (.iload 5, 2) := sorry
theorem dX5_nameOf_17 : decode cX5_nameOf 17 = .ok (.baload, 1) := sorry
theorem dX5_nameOf_18 : decode cX5_nameOf 18 = .ok (.bipush 97, 2) := sorry
theorem dX5_nameOf_20 : decode cX5_nameOf 20 = .ok (.isub, 1) := sorry
theorem dX5_nameOf_21 : decode cX5_nameOf 21 = .ok (.iconst 1, 1) := sorry
theorem dX5_nameOf_22 : decode cX5_nameOf 22 = .ok (.iadd, 1) := sorry
theorem dX5_nameOf_23 : decode cX5_nameOf 23 = .ok (.i2l, 1) := sorry
theorem dX5_nameOf_24 : decode cX5_nameOf 24 = .ok (.lor, 1) := sorry
theorem dX5_nameOf_25 : decode cX5_nameOf 25 = .ok (.lstore_n 3, 1) := sorry
theorem dX5_nameOf_26 : decode cX5_nameOf 26 = .ok (.iinc 5 1, 3) := sorry
theorem dX5_nameOf_29 : decode cX5_nameOf 29 = .ok (.goto (-24), 3) := sorry
theorem dX5_nameOf_32 : decode cX5_nameOf 32 = .ok (.lload_n 3, 1) := sorry
theorem dX5_nameOf_33 : decode cX5_nameOf 33 = .ok (.lreturn, 1) := sorry
def dtX5_numberOf_0_0 : List (Nat × Instr × Nat) := [(0, .iconst 0, 1), (1, .istore_n 3, 1), (2, .iload_n 1, 1), (3, .istore 4, 2), (5, .iload 4, 2), (7, .iload_n 2, 1), (8, .if_icmp .ge 22, 3), (11, .bipush 10, 2), (13, .iload_n 3, 1), (14, .imul, 1), (15, .aload_n 0, 1), (16, .iload 4, 2), (18, .baload, 1), (19, .iadd, 1), (20, .bipush 48, 2), (22, .isub, 1), (23, .istore_n 3, 1), (24, .iinc 4 1, 3), (27, .goto (-22), 3), (30, .iload_n 3, 1), (31, .ireturn, 1)]
theorem dtX5_numberOf_0_0_ok : dcAll cX5_numberOf dtX5_numberOf_0_0 = true := sorry
theorem dX5_numberOf_0 : decode cX5_numberOf 0 = .ok (.iconst 0, 1) := sorry
theorem dX5_numberOf_1 : decode cX5_numberOf 1 = .ok (.istore_n 3, 1) := sorry
theorem dX5_numberOf_2 : decode cX5_numberOf 2 = .ok (.iload_n 1, 1) := sorry
theorem dX5_numberOf_3 : decode cX5_numberOf 3 = .ok (.istore 4, 2) := sorry
theorem dX5_numberOf_5 : decode cX5_numberOf 5 = .ok (.iload 4, 2) := sorry
theorem dX5_numberOf_7 : decode cX5_numberOf 7 = .ok (.iload_n 2, 1) := sorry
theorem dX5_numberOf_8 : decode cX5_numberOf 8 = .ok (.if_icmp .ge 22, 3) := sorry
theorem dX5_numberOf_11 : decode cX5_numberOf 11 = .ok (.bipush 10, 2) := sorry
theorem dX5_numberOf_13 : decode cX5_numberOf 13 = .ok (.iload_n 3, 1) := sorry
theorem dX5_numberOf_14 : decode cX5_numberOf 14 = .ok (.imul, 1) := sorry
theorem dX5_numberOf_15 : decode cX5_numberOf 15 = .ok (.aload_n 0, 1) := sorry
theorem dX5_numberOf_16 : decode cX5_numberOf 16 = .ok (.iload 4, 2) := sorry
theorem dX5_numberOf_18 : decode cX5_numberOf 18 = .ok (.baload, 1) := sorry
theorem dX5_numberOf_19 : decode cX5_numberOf 19 = .ok (.iadd, 1) := sorry
theorem dX5_numberOf_20 : decode cX5_numberOf 20 = .ok (.bipush 48, 2) := sorry
theorem dX5_numberOf_22 : decode cX5_numberOf 22 = .ok (.isub, 1) := sorry
theorem dX5_numberOf_23 : decode cX5_numberOf 23 = .ok (.istore_n 3, 1) := sorry
theorem dX5_numberOf_24 : decode cX5_numberOf 24 = .ok (.iinc 4 1, 3) := sorry
theorem dX5_numberOf_27 : decode cX5_numberOf 27 = .ok (.goto (-22), 3) := sorry
theorem dX5_numberOf_30 : decode cX5_numberOf 30 = .ok (.iload_n 3, 1) := sorry
theorem dX5_numberOf_31 : decode cX5_numberOf 31 = .ok (.ireturn, 1) := sorry
set_option maxRecDepth 20000 in
theorem ggX5_wordNumber_J0_length_8abf5 : GoodIn wsX5_wordNumber wsJ0_length_8abf5 := sorry
set_option maxRecDepth 20000 in
theorem gX5_wordNumber_J0_length_8abf5 : GoodIn wsX5_wordNumber (wsV RX5 65 RJ0 yJ0_length_8abf5 wsJ0_length_8abf5) := sorry
set_option maxRecDepth 20000 in
theorem ggX5_wordNumber_J0_charAt_5068e : GoodIn wsX5_wordNumber wsJ0_charAt_5068e := sorry
set_option maxRecDepth 20000 in
theorem gX5_wordNumber_J0_charAt_5068e : GoodIn wsX5_wordNumber (wsV RX5 68 RJ0 yJ0_charAt_5068e wsJ0_charAt_5068e) := sorry
set_option maxRecDepth 20000 in
theorem ggX5_wordNumber_X5_wordsAgree : GoodIn wsX5_wordNumber wsX5_wordsAgree := sorry
set_option maxRecDepth 20000 in
theorem gX5_wordNumber_X5_wordsAgree : GoodIn wsX5_wordNumber (va_wsS RX5 72 yX5_wordsAgree wsX5_wordsAgree) := sorry
def dtX5_wordNumber_0_0 : List (Nat × Instr × Nat) := [(0, .iconst 0, 1), (1, .istore_n 3, 1), (2, .iconst 0, 1), (3, .istore 4, 2), (5, .iconst 0, 1), (6, .istore 5, 2), (8, .iload 5, 2), (10, .ldc 63, 2), (12, .invokevirtual 65, 3), (15, .if_icmp .ge 55, 3), (18, .ldc 63, 2), (20, .iload 5, 2), (22, .invokevirtual 68, 3), (25, .bipush 32, 2), (27, .if_icmp .ne 37, 3), (30, .iload 5, 2), (32, .iload 4, 2), (34, .isub, 1), (35, .iload_n 2, 1), (36, .iload_n 1, 1), (37, .isub, 1), (38, .if_icmp .ne 17, 3), (41, .iload 4, 2), (43, .iload 5, 2), (45, .aload_n 0, 1), (46, .iload_n 1, 1), (47, .invokestatic 72, 3), (50, .ifCond .eq 5, 3), (53, .iload_n 3, 1), (54, .ireturn, 1), (55, .iinc 3 1, 3), (58, .iload 5, 2)]
theorem dtX5_wordNumber_0_0_ok : dcAll cX5_wordNumber dtX5_wordNumber_0_0 = true := sorry
theorem dX5_wordNumber_0 : decode cX5_wordNumber 0 = .ok (.iconst 0, 1) := sorry
theorem dX5_wordNumber_1 : decode cX5_wordNumber 1 = .ok (.istore_n 3, 1) := sorry
theorem dX5_wordNumber_2 : decode cX5_wordNumber 2 = .ok (.iconst 0, 1) := sorry
theorem dX5_wordNumber_3 : decode cX5_wordNumber 3 = .ok (.istore 4, 2) := sorry
theorem dX5_wordNumber_5 : decode cX5_wordNumber 5 = .ok (.iconst 0, 1) := sorry
theorem dX5_wordNumber_6 : decode cX5_wordNumber 6 = .ok (.istore 5, 2) := sorry
theorem dX5_wordNumber_8 : decode cX5_wordNumber 8 = .ok (.iload 5, 2) := sorry
theorem dX5_wordNumber_10 : decode cX5_wordNumber 10 = .ok (.ldc 63, 2) := sorry
theorem dX5_wordNumber_12 : decode cX5_wordNumber 12 = .ok (.invokevirtual 65, 3) := sorry
theorem dX5_wordNumber_15 : decode cX5_wordNumber 15 = .ok (.if_icmp .ge 55, 3) := sorry
theorem dX5_wordNumber_18 : decode cX5_wordNumber 18 = .ok (.ldc 63, 2) := sorry
theorem dX5_wordNumber_20 : decode cX5_wordNumber 20 = .ok (.iload 5, 2) := sorry
theorem dX5_wordNumber_22 : decode cX5_wordNumber 22 = .ok (.invokevirtual 68, 3) := sorry
theorem dX5_wordNumber_25 : decode cX5_wordNumber 25 = .ok (.bipush 32, 2) := sorry
theorem dX5_wordNumber_27 : decode cX5_wordNumber 27 = .ok (.if_icmp .ne 37, 3) := sorry
theorem dX5_wordNumber_30 : decode cX5_wordNumber 30 = .ok (.iload 5, 2) := sorry
theorem dX5_wordNumber_32 : decode cX5_wordNumber 32 = .ok (.iload 4, 2) := sorry
theorem dX5_wordNumber_34 : decode cX5_wordNumber 34 = .ok (.isub, 1) := sorry
theorem dX5_wordNumber_35 : decode cX5_wordNumber 35 = .ok (.iload_n 2, 1) := sorry
theorem dX5_wordNumber_36 : decode cX5_wordNumber 36 = .ok (.iload_n 1, 1) := sorry
theorem dX5_wordNumber_37 : decode cX5_wordNumber 37 = .ok (.isub, 1) := sorry
theorem dX5_wordNumber_38 : decode cX5_wordNumber 38 = .ok (.if_icmp .ne 17, 3) := sorry
theorem dX5_wordNumber_41 : decode cX5_wordNumber 41 = .ok (.iload 4, 2) := sorry
theorem dX5_wordNumber_43 : decode cX5_wordNumber 43 = .ok (.iload 5, 2) := sorry
theorem dX5_wordNumber_45 : decode cX5_wordNumber 45 = .ok (.aload_n 0, 1) := sorry
theorem dX5_wordNumber_46 : decode cX5_wordNumber 46 = .ok (.iload_n 1, 1) := sorry
theorem dX5_wordNumber_47 : decode cX5_wordNumber 47 = .ok (.invokestatic 72, 3) := sorry
theorem dX5_wordNumber_50 : decode cX5_wordNumber 50 = .ok (.ifCond .eq 5, 3) := sorry
theorem dX5_wordNumber_53 : decode cX5_wordNumber 53 = .ok (.iload_n 3, 1) := sorry
theorem dX5_wordNumber_54 : decode cX5_wordNumber 54 = .ok (.ireturn, 1) := sorry
theorem dX5_wordNumber_55 : decode cX5_wordNumber 55 = .ok (.iinc 3 1, 3) := sorry
theorem dX5_wordNumber_58 : decode cX5_wordNumber 58 = .ok (.iload 5, 2) := sorry
def dtX5_wordNumber_60_1 : List (Nat × Instr × Nat) := [(60, .iconst 1, 1), (61, .iadd, 1), (62, .istore 4, 2), (64, .iinc 5 1, 3), (67, .goto (-59), 3), (70, .iconst (-1), 1), (71, .ireturn, 1)]
theorem dtX5_wordNumber_60_1_ok : dcAll cX5_wordNumber dtX5_wordNumber_60_1 = true := sorry
theorem dX5_wordNumber_60 : decode cX5_wordNumber 60 = .ok (.iconst 1, 1) := sorry
theorem dX5_wordNumber_61 : decode cX5_wordNumber 61 = .ok (.iadd, 1) := sorry
theorem dX5_wordNumber_62 : decode cX5_wordNumber 62 = .ok (.istore 4, 2) := sorry
theorem dX5_wordNumber_64 : decode cX5_wordNumber 64 = .ok (.iinc 5 1, 3) := sorry
theorem dX5_wordNumber_67 : decode cX5_wordNumber 67 = .ok (.goto (-59), 3) := sorry
theorem dX5_wordNumber_70 : decode cX5_wordNumber 70 = .ok (.iconst (-1), 1) := sorry
theorem dX5_wordNumber_71 : decode cX5_wordNumber 71 = .ok (.ireturn, 1) := sorry
set_option maxRecDepth 20000 in
theorem ggX5_wordsAgree_J0_charAt_5068e : GoodIn wsX5_wordsAgree wsJ0_charAt_5068e := sorry
set_option maxRecDepth 20000 in
theorem gX5_wordsAgree_J0_charAt_5068e : GoodIn wsX5_wordsAgree (wsV RX5 68 RJ0 yJ0_charAt_5068e wsJ0_charAt_5068e) := sorry
def dtX5_wordsAgree_0_0 : List (Nat × Instr × Nat) := [(0, .iconst 0, 1), (1, .istore 4, 2), (3, .iload 4, 2), (5, .iload_n 1, 1), (6, .iload_n 0, 1), (7, .isub, 1), (8, .if_icmp .ge 29, 3), (11, .ldc 63, 2), (13, .iload_n 0, 1), (14, .iload 4, 2), (16, .iadd, 1), (17, .invokevirtual 68, 3), (20, .aload_n 2, 1), (21, .iload_n 3, 1), (22, .iload 4, 2), (24, .iadd, 1), (25, .baload, 1), (26, .if_icmp .eq 5, 3), (29, .iconst 0, 1), (30, .ireturn, 1), (31, .iinc 4 1, 3), (34, .goto (-31), 3), (37, .iconst 1, 1), (38, .ireturn, 1)]
theorem dtX5_wordsAgree_0_0_ok : dcAll cX5_wordsAgree dtX5_wordsAgree_0_0 = true := sorry
theorem dX5_wordsAgree_0 : decode cX5_wordsAgree 0 = .ok (.iconst 0, 1) := sorry
theorem dX5_wordsAgree_1 : decode cX5_wordsAgree 1 = .ok (.istore 4, 2) := sorry
theorem dX5_wordsAgree_3 : decode cX5_wordsAgree 3 = .ok (.iload 4, 2) := sorry
theorem dX5_wordsAgree_5 : decode cX5_wordsAgree 5 = .ok (.iload_n 1, 1) := sorry
theorem dX5_wordsAgree_6 : decode cX5_wordsAgree 6 = .ok (.iload_n 0, 1) := sorry
theorem dX5_wordsAgree_7 : decode cX5_wordsAgree 7 = .ok (.isub, 1) := sorry
theorem dX5_wordsAgree_8 : decode cX5_wordsAgree 8 = .ok (.if_icmp .ge 29, 3) := sorry
theorem dX5_wordsAgree_11 : decode cX5_wordsAgree 11 = .ok (.ldc 63, 2) := sorry
theorem dX5_wordsAgree_13 : decode cX5_wordsAgree 13 = .ok (.iload_n 0, 1) := sorry
theorem dX5_wordsAgree_14 : decode cX5_wordsAgree 14 = .ok (.iload 4, 2) := sorry
theorem dX5_wordsAgree_16 : decode cX5_wordsAgree 16 = .ok (.iadd, 1) := sorry
theorem dX5_wordsAgree_17 : decode cX5_wordsAgree 17 = .ok (.invokevirtual 68, 3) := sorry
theorem dX5_wordsAgree_20 : decode cX5_wordsAgree 20 = .ok (.aload_n 2, 1) := sorry
theorem dX5_wordsAgree_21 : decode cX5_wordsAgree 21 = .ok (.iload_n 3, 1) := sorry
theorem dX5_wordsAgree_22 : decode cX5_wordsAgree 22 = .ok (.iload 4, 2) := sorry
theorem dX5_wordsAgree_24 : decode cX5_wordsAgree 24 = .ok (.iadd, 1) := sorry
theorem dX5_wordsAgree_25 : decode cX5_wordsAgree 25 = .ok (.baload, 1) := sorry
theorem dX5_wordsAgree_26 : decode cX5_wordsAgree 26 = .ok (.if_icmp .eq 5, 3) := sorry
theorem dX5_wordsAgree_29 : decode cX5_wordsAgree 29 = .ok (.iconst 0, 1) := sorry
theorem dX5_wordsAgree_30 : decode cX5_wordsAgree 30 = .ok (.ireturn, 1) := sorry
theorem dX5_wordsAgree_31 : decode cX5_wordsAgree 31 = .ok (.iinc 4 1, 3) := sorry
theorem dX5_wordsAgree_34 : decode cX5_wordsAgree 34 = .ok (.goto (-31), 3) := sorry
theorem dX5_wordsAgree_37 : decode cX5_wordsAgree 37 = .ok (.iconst 1, 1) := sorry
theorem dX5_wordsAgree_38 : decode cX5_wordsAgree 38 = .ok (.ireturn, 1) := sorry
set_option maxRecDepth 20000 in
theorem ggX6_init_X1_init : GoodIn wsX6_init wsX1_init := sorry
set_option maxRecDepth 20000 in
theorem gX6_init_X1_init_n15 : GoodIn wsX6_init (wsX1_init) := sorry
set_option maxRecDepth 20000 in
theorem ggX6_init_X2_init : GoodIn wsX6_init wsX2_init := sorry
set_option maxRecDepth 20000 in
theorem gX6_init_X2_init : GoodIn wsX6_init (wsX2_init) := sorry
set_option maxRecDepth 20000 in
theorem ggX6_init_X3_init : GoodIn wsX6_init wsX3_init := sorry
set_option maxRecDepth 20000 in
theorem gX6_init_X3_init_n29 : GoodIn wsX6_init (wsX3_init) := sorry
set_option maxRecDepth 20000 in
theorem ggX6_init_X6_newBags : GoodIn wsX6_init wsX6_newBags := sorry
set_option maxRecDepth 20000 in
theorem gX6_init_X6_newBags : GoodIn wsX6_init (va_wsS RX6 34 yX6_newBags wsX6_newBags) := sorry
set_option maxRecDepth 20000 in
theorem ggX6_init_X4_init : GoodIn wsX6_init wsX4_init := sorry
set_option maxRecDepth 20000 in
theorem gX6_init_X4_init : GoodIn wsX6_init (wsX4_init) := sorry
set_option maxRecDepth 20000 in
theorem ggX6_init_X6_newHistory : GoodIn wsX6_init wsX6_newHistory := sorry
set_option maxRecDepth 20000 in
theorem gX6_init_X6_newHistory : GoodIn wsX6_init (va_wsS RX6 70 yX6_newHistory wsX6_newHistory) := sorry
def dtX6_init_0_0 : List (Nat × Instr × Nat) := [(0, .aload_n 0, 1), (1, .invokespecial 1, 3), (4, .aload_n 0, 1), (5, .sipush 936, 3), (8, .newarray .byte, 2), (10, .putfield 9, 3), (13, .aload_n 0, 1), (14, .new 13, 3), (17, .dup, 1), (18, .invokespecial 15, 3), (21, .putfield 16, 3), (24, .aload_n 0, 1), (25, .new 20, 3), (28, .dup, 1), (29, .invokespecial 22, 3), (32, .putfield 23, 3), (35, .aload_n 0, 1), (36, .new 27, 3), (39, .dup, 1), (40, .invokespecial 29, 3), (43, .putfield 30, 3), (46, .aload_n 0, 1), (47, .bipush 120, 2), (49, .invokestatic 34, 3), (52, .putfield 38, 3), (55, .aload_n 0, 1), (56, .bipush 120, 2), (58, .invokestatic 34, 3), (61, .putfield 42, 3), (64, .aload_n 0, 1), (65, .sipush 240, 3), (68, .invokestatic 34, 3)]
theorem dtX6_init_0_0_ok : dcAll cX6_init dtX6_init_0_0 = true := sorry
theorem dX6_init_0 : decode cX6_init 0 = .ok (.aload_n 0, 1) := sorry
theorem dX6_init_1 : decode cX6_init 1 = .ok (.invokespecial 1, 3) := sorry
theorem dX6_init_4 : decode cX6_init 4 = .ok (.aload_n 0, 1) := sorry
theorem dX6_init_5 : decode cX6_init 5 = .ok (.sipush 936, 3) := sorry
theorem dX6_init_8 : decode cX6_init 8 = .ok (.newarray .byte, 2) := sorry
theorem dX6_init_10 : decode cX6_init 10 = .ok (.putfield 9, 3) := sorry
theorem dX6_init_13 : decode cX6_init 13 = .ok (.aload_n 0, 1) := sorry
theorem dX6_init_14 : decode cX6_init 14 = .ok (.new 13, 3) := sorry
theorem dX6_init_17 : decode cX6_init 17 = .ok (.dup, 1) := sorry
theorem dX6_init_18 : decode cX6_init 18 = .ok (.invokespecial 15, 3) := sorry
theorem dX6_init_21 : decode cX6_init 21 = .ok (.putfield 16, 3) := sorry
theorem dX6_init_24 : decode cX6_init 24 = .ok (.aload_n 0, 1) := sorry
theorem dX6_init_25 : decode cX6_init 25 = .ok (.new 20, 3) := sorry
theorem dX6_init_28 : decode cX6_init 28 = .ok (.dup, 1) := sorry
theorem dX6_init_29 : decode cX6_init 29 = .ok (.invokespecial 22, 3) := sorry
theorem dX6_init_32 : decode cX6_init 32 = .ok (.putfield 23, 3) := sorry
theorem dX6_init_35 : decode cX6_init 35 = .ok (.aload_n 0, 1) := sorry
theorem dX6_init_36 : decode cX6_init 36 = .ok (.new 27, 3) := sorry
theorem dX6_init_39 : decode cX6_init 39 = .ok (.dup, 1) := sorry
theorem dX6_init_40 : decode cX6_init 40 = .ok (.invokespecial 29, 3) := sorry
theorem dX6_init_43 : decode cX6_init 43 = .ok (.putfield 30, 3) := sorry
theorem dX6_init_46 : decode cX6_init 46 = .ok (.aload_n 0, 1) := sorry
theorem dX6_init_47 : decode cX6_init 47 = .ok (.bipush 120, 2) := sorry
theorem dX6_init_49 : decode cX6_init 49 = .ok (.invokestatic 34, 3) := sorry
theorem dX6_init_52 : decode cX6_init 52 = .ok (.putfield 38, 3) := sorry
theorem dX6_init_55 : decode cX6_init 55 = .ok (.aload_n 0, 1) := sorry
theorem dX6_init_56 : decode cX6_init 56 = .ok (.bipush 120, 2) := sorry
theorem dX6_init_58 : decode cX6_init 58 = .ok (.invokestatic 34, 3) := sorry
theorem dX6_init_61 : decode cX6_init 61 = .ok (.putfield 42, 3) := sorry
theorem dX6_init_64 : decode cX6_init 64 = .ok (.aload_n 0, 1) := sorry
theorem dX6_init_65 : decode cX6_init 65 = .ok (.sipush 240, 3) := sorry
theorem dX6_init_68 : decode cX6_init 68 = .ok (.invokestatic 34, 3) := sorry
def dtX6_init_71_1 : List (Nat × Instr × Nat) := [(71, .putfield 45, 3), (74, .aload_n 0, 1), (75, .new 48, 3), (78, .dup, 1), (79, .iconst 5, 1), (80, .bipush 40, 2), (82, .invokespecial 50, 3), (85, .putfield 53, 3), (88, .aload_n 0, 1), (89, .new 48, 3), (92, .dup, 1), (93, .iconst 5, 1), (94, .bipush 40, 2), (96, .invokespecial 50, 3), (99, .putfield 57, 3), (102, .aload_n 0, 1), (103, .new 48, 3), (106, .dup, 1), (107, .iconst 4, 1), (108, .bipush 40, 2), (110, .invokespecial 50, 3), (113, .putfield 60, 3), (116, .aload_n 0, 1), (117, .new 48, 3), (120, .dup, 1), (121, .iconst 4, 1), (122, .sipush 240, 3), (125, .invokespecial 50, 3), (128, .putfield 63, 3), (131, .aload_n 0, 1), (132, .iconst 5, 1), (133, .newarray .int, 2)]
theorem dtX6_init_71_1_ok : dcAll cX6_init dtX6_init_71_1 = true := sorry
theorem dX6_init_71 : decode cX6_init 71 = .ok (.putfield 45, 3) := sorry
theorem dX6_init_74 : decode cX6_init 74 = .ok (.aload_n 0, 1) := sorry
theorem dX6_init_75 : decode cX6_init 75 = .ok (.new 48, 3) := sorry
theorem dX6_init_78 : decode cX6_init 78 = .ok (.dup, 1) := sorry
theorem dX6_init_79 : decode cX6_init 79 = .ok (.iconst 5, 1) := sorry
theorem dX6_init_80 : decode cX6_init 80 = .ok (.bipush 40, 2) := sorry
theorem dX6_init_82 : decode cX6_init 82 = .ok (.invokespecial 50, 3) := sorry
theorem dX6_init_85 : decode cX6_init 85 = .ok (.putfield 53, 3) := sorry
theorem dX6_init_88 : decode cX6_init 88 = .ok (.aload_n 0, 1) := sorry
theorem dX6_init_89 : decode cX6_init 89 = .ok (.new 48, 3) := sorry
theorem dX6_init_92 : decode cX6_init 92 = .ok (.dup, 1) := sorry
theorem dX6_init_93 : decode cX6_init 93 = .ok (.iconst 5, 1) := sorry
theorem dX6_init_94 : decode cX6_init 94 = .ok (.bipush 40, 2) := sorry
theorem dX6_init_96 : decode cX6_init 96 = .ok (.invokespecial 50, 3) := sorry
theorem dX6_init_99 : decode cX6_init 99 = .ok (.putfield 57, 3) := sorry
theorem dX6_init_102 : decode cX6_init 102 = .ok (.aload_n 0, 1) := sorry
theorem dX6_init_103 : decode cX6_init 103 = .ok (.new 48, 3) := sorry
theorem dX6_init_106 : decode cX6_init 106 = .ok (.dup, 1) := sorry
theorem dX6_init_107 : decode cX6_init 107 = .ok (.iconst 4, 1) := sorry
theorem dX6_init_108 : decode cX6_init 108 = .ok (.bipush 40, 2) := sorry
theorem dX6_init_110 : decode cX6_init 110 = .ok (.invokespecial 50, 3) := sorry
theorem dX6_init_113 : decode cX6_init 113 = .ok (.putfield 60, 3) := sorry
theorem dX6_init_116 : decode cX6_init 116 = .ok (.aload_n 0, 1) := sorry
theorem dX6_init_117 : decode cX6_init 117 = .ok (.new 48, 3) := sorry
theorem dX6_init_120 : decode cX6_init 120 = .ok (.dup, 1) := sorry
theorem dX6_init_121 : decode cX6_init 121 = .ok (.iconst 4, 1) := sorry
theorem dX6_init_122 : decode cX6_init 122 = .ok (.sipush 240, 3) := sorry
theorem dX6_init_125 : decode cX6_init 125 = .ok (.invokespecial 50, 3) := sorry
theorem dX6_init_128 : decode cX6_init 128 = .ok (.putfield 63, 3) := sorry
theorem dX6_init_131 : decode cX6_init 131 = .ok (.aload_n 0, 1) := sorry
theorem dX6_init_132 : decode cX6_init 132 = .ok (.iconst 5, 1) := sorry
theorem dX6_init_133 : decode cX6_init 133 = .ok (.newarray .int, 2) := sorry
def dtX6_init_135_2 : List (Nat × Instr × Nat) := [(135, .putfield 66, 3), (138, .aload_n 0, 1), (139, .invokestatic 70, 3), (142, .putfield 74, 3), (145, .return_, 1)]
theorem dtX6_init_135_2_ok : dcAll cX6_init dtX6_init_135_2 = true := sorry
theorem dX6_init_135 : decode cX6_init 135 = .ok (.putfield 66, 3) := sorry
theorem dX6_init_138 : decode cX6_init 138 = .ok (.aload_n 0, 1) := sorry
theorem dX6_init_139 : decode cX6_init 139 = .ok (.invokestatic 70, 3) := sorry
theorem dX6_init_142 : decode cX6_init 142 = .ok (.putfield 74, 3) := sorry
theorem dX6_init_145 : decode cX6_init 145 = .ok (.return_, 1) := sorry
set_option maxRecDepth 20000 in
theorem ggX6_newBags_X4_init : GoodIn wsX6_newBags wsX4_init := sorry
set_option maxRecDepth 20000 in
theorem gX6_newBags_X4_init : GoodIn wsX6_newBags (wsX4_init) := sorry
def dtX6_newBags_0_0 : List (Nat × Instr × Nat) := [(0, .bipush 16, 2), (2, .anewarray 48, 3), (5, .astore_n 1, 1), (6, .iconst 0, 1), (7, .istore_n 2, 1), (8, .iload_n 2, 1), (9, .bipush 16, 2), (11, .if_icmp .ge 21, 3), (14, .aload_n 1, 1), (15, .iload_n 2, 1), (16, .new 48, 3), (19, .dup, 1), (20, .iconst 4, 1), (21, .iload_n 0, 1), (22, .invokespecial 50, 3), (25, .aastore, 1), (26, .iinc 2 1, 3), (29, .goto (-21), 3), (32, .aload_n 1, 1), (33, .areturn, 1)]
theorem dtX6_newBags_0_0_ok : dcAll cX6_newBags dtX6_newBags_0_0 = true := sorry
theorem dX6_newBags_0 : decode cX6_newBags 0 = .ok (.bipush 16, 2) := sorry
theorem dX6_newBags_2 : decode cX6_newBags 2 = .ok (.anewarray 48, 3) := sorry
theorem dX6_newBags_5 : decode cX6_newBags 5 = .ok (.astore_n 1, 1) := sorry
theorem dX6_newBags_6 : decode cX6_newBags 6 = .ok (.iconst 0, 1) := sorry
theorem dX6_newBags_7 : decode cX6_newBags 7 = .ok (.istore_n 2, 1) := sorry
theorem dX6_newBags_8 : decode cX6_newBags 8 = .ok (.iload_n 2, 1) := sorry
theorem dX6_newBags_9 : decode cX6_newBags 9 = .ok (.bipush 16, 2) := sorry
theorem dX6_newBags_11 : decode cX6_newBags 11 = .ok (.if_icmp .ge 21, 3) := sorry
theorem dX6_newBags_14 : decode cX6_newBags 14 = .ok (.aload_n 1, 1) := sorry
theorem dX6_newBags_15 : decode cX6_newBags 15 = .ok (.iload_n 2, 1) := sorry
theorem dX6_newBags_16 : decode cX6_newBags 16 = .ok (.new 48, 3) := sorry
theorem dX6_newBags_19 : decode cX6_newBags 19 = .ok (.dup, 1) := sorry
theorem dX6_newBags_20 : decode cX6_newBags 20 = .ok (.iconst 4, 1) := sorry
theorem dX6_newBags_21 : decode cX6_newBags 21 = .ok (.iload_n 0, 1) := sorry
theorem dX6_newBags_22 : decode cX6_newBags 22 = .ok (.invokespecial 50, 3) := sorry
theorem dX6_newBags_25 : decode cX6_newBags 25 = .ok (.aastore, 1) := sorry
theorem dX6_newBags_26 : decode cX6_newBags 26 = .ok (.iinc 2 1, 3) := sorry
theorem dX6_newBags_29 : decode cX6_newBags 29 = .ok (.goto (-21), 3) := sorry
theorem dX6_newBags_32 : decode cX6_newBags 32 = .ok (.aload_n 1, 1) := sorry
theorem dX6_newBags_33 : decode cX6_newBags 33 = .ok (.areturn, 1) := sorry
set_option maxRecDepth 20000 in
theorem ggX6_newHistory_X4_init : GoodIn wsX6_newHistory wsX4_init := sorry
set_option maxRecDepth 20000 in
theorem gX6_newHistory_X4_init : GoodIn wsX6_newHistory (wsX4_init) := sorry
def dtX6_newHistory_0_0 : List (Nat × Instr × Nat) := [(0, .bipush 8, 2), (2, .anewarray 48, 3), (5, .astore_n 0, 1), (6, .iconst 0, 1), (7, .istore_n 1, 1), (8, .iload_n 1, 1), (9, .bipush 8, 2), (11, .if_icmp .ge 22, 3), (14, .aload_n 0, 1), (15, .iload_n 1, 1), (16, .new 48, 3), (19, .dup, 1), (20, .iconst 5, 1), (21, .bipush 40, 2), (23, .invokespecial 50, 3), (26, .aastore, 1), (27, .iinc 1 1, 3), (30, .goto (-22), 3), (33, .aload_n 0, 1), (34, .areturn, 1)]
theorem dtX6_newHistory_0_0_ok : dcAll cX6_newHistory dtX6_newHistory_0_0 = true := sorry
theorem dX6_newHistory_0 : decode cX6_newHistory 0 = .ok (.bipush 8, 2) := sorry
theorem dX6_newHistory_2 : decode cX6_newHistory 2 = .ok (.anewarray 48, 3) := sorry
theorem dX6_newHistory_5 : decode cX6_newHistory 5 = .ok (.astore_n 0, 1) := sorry
theorem dX6_newHistory_6 : decode cX6_newHistory 6 = .ok (.iconst 0, 1) := sorry
theorem dX6_newHistory_7 : decode cX6_newHistory 7 = .ok (.istore_n 1, 1) := sorry
theorem dX6_newHistory_8 : decode cX6_newHistory 8 = .ok (.iload_n 1, 1) := sorry
theorem dX6_newHistory_9 : decode cX6_newHistory 9 = .ok (.bipush 8, 2) := sorry
theorem dX6_newHistory_11 : decode cX6_newHistory 11 = .ok (.if_icmp .ge 22, 3) := sorry
theorem dX6_newHistory_14 : decode cX6_newHistory 14 = .ok (.aload_n 0, 1) := sorry
theorem dX6_newHistory_15 : decode cX6_newHistory 15 = .ok (.iload_n 1, 1) := sorry
theorem dX6_newHistory_16 : decode cX6_newHistory 16 = .ok (.new 48, 3) := sorry
theorem dX6_newHistory_19 : decode cX6_newHistory 19 = .ok (.dup, 1) := sorry
theorem dX6_newHistory_20 : decode cX6_newHistory 20 = .ok (.iconst 5, 1) := sorry
theorem dX6_newHistory_21 : decode cX6_newHistory 21 = .ok (.bipush 40, 2) := sorry
theorem dX6_newHistory_23 : decode cX6_newHistory 23 = .ok (.invokespecial 50, 3) := sorry
theorem dX6_newHistory_26 : decode cX6_newHistory 26 = .ok (.aastore, 1) := sorry
theorem dX6_newHistory_27 : decode cX6_newHistory 27 = .ok (.iinc 1 1, 3) := sorry
theorem dX6_newHistory_30 : decode cX6_newHistory 30 = .ok (.goto (-22), 3) := sorry
theorem dX6_newHistory_33 : decode cX6_newHistory 33 = .ok (.aload_n 0, 1) := sorry
theorem dX6_newHistory_34 : decode cX6_newHistory 34 = .ok (.areturn, 1) := sorry
set_option maxRecDepth 20000 in
theorem ggX6_feed_X6_putBytes : GoodIn wsX6_feed wsX6_putBytes := sorry
set_option maxRecDepth 20000 in
theorem gX6_feed_X6_putBytes : GoodIn wsX6_feed (wsV RX6 81 RX6 yX6_putBytes wsX6_putBytes) := sorry
def dtX6_feed_0_0 : List (Nat × Instr × Nat) := [(0, .aload_n 0, 1), (1, .getfield 77, 3), (4, .bipush 24, 2), (6, .iadd, 1), (7, .sipush 936, 3), (10, .if_icmp .le 5, 3), (13, .iconst (-1), 1), (14, .ireturn, 1), (15, .aload_n 0, 1), (16, .lload_n 1, 1), (17, .invokevirtual 81, 3), (20, .aload_n 0, 1), (21, .lload_n 3, 1), (22, .invokevirtual 81, 3), (25, .aload_n 0, 1), (26, .lload 5, 2), (28, .invokevirtual 81, 3), (31, .aload_n 0, 1), (32, .getfield 77, 3), (35, .ireturn, 1)]
theorem dtX6_feed_0_0_ok : dcAll cX6_feed dtX6_feed_0_0 = true := sorry
theorem dX6_feed_0 : decode cX6_feed 0 = .ok (.aload_n 0, 1) := sorry
theorem dX6_feed_1 : decode cX6_feed 1 = .ok (.getfield 77, 3) := sorry
theorem dX6_feed_4 : decode cX6_feed 4 = .ok (.bipush 24, 2) := sorry
theorem dX6_feed_6 : decode cX6_feed 6 = .ok (.iadd, 1) := sorry
theorem dX6_feed_7 : decode cX6_feed 7 = .ok (.sipush 936, 3) := sorry
theorem dX6_feed_10 : decode cX6_feed 10 = .ok (.if_icmp .le 5, 3) := sorry
theorem dX6_feed_13 : decode cX6_feed 13 = .ok (.iconst (-1), 1) := sorry
theorem dX6_feed_14 : decode cX6_feed 14 = .ok (.ireturn, 1) := sorry
theorem dX6_feed_15 : decode cX6_feed 15 = .ok (.aload_n 0, 1) := sorry
theorem dX6_feed_16 : decode cX6_feed 16 = .ok (.lload_n 1, 1) := sorry
theorem dX6_feed_17 : decode cX6_feed 17 = .ok (.invokevirtual 81, 3) := sorry
theorem dX6_feed_20 : decode cX6_feed 20 = .ok (.aload_n 0, 1) := sorry
theorem dX6_feed_21 : decode cX6_feed 21 = .ok (.lload_n 3, 1) := sorry
theorem dX6_feed_22 : decode cX6_feed 22 = .ok (.invokevirtual 81, 3) := sorry
theorem dX6_feed_25 : decode cX6_feed 25 = .ok (.aload_n 0, 1) := sorry
theorem dX6_feed_26 : decode cX6_feed 26 = .ok (.lload 5, 2) := sorry
theorem dX6_feed_28 : decode cX6_feed 28 = .ok (.invokevirtual 81, 3) := sorry
theorem dX6_feed_31 : decode cX6_feed 31 = .ok (.aload_n 0, 1) := sorry
theorem dX6_feed_32 : decode cX6_feed 32 = .ok (.getfield 77, 3) := sorry
theorem dX6_feed_35 : decode cX6_feed 35 = .ok (.ireturn, 1) := sorry
def dtX6_putBytes_0_0 : List (Nat × Instr × Nat) := [(0, .bipush 56, 2), (2, .istore_n 3, 1), (3, .iload_n 3, 1), (4, .ifCond .lt 33, 3), (7, .aload_n 0, 1), (8, .getfield 9, 3), (11, .aload_n 0, 1), (12, .getfield 77, 3), (15, .lload_n 1, 1), (16, .iload_n 3, 1), (17, .lushr, 1), (18, .l2i, 1), (19, .i2b, 1), (20, .bastore, 1), (21, .aload_n 0, 1), (22, .dup, 1), (23, .getfield 77, 3), (26, .iconst 1, 1), (27, .iadd, 1), (28, .putfield 77, 3), (31, .iinc 3 (-8), 3), (34, .goto (-31), 3), (37, .return_, 1)]
theorem dtX6_putBytes_0_0_ok : dcAll cX6_putBytes dtX6_putBytes_0_0 = true := sorry
theorem dX6_putBytes_0 : decode cX6_putBytes 0 = .ok (.bipush 56, 2) := sorry
theorem dX6_putBytes_2 : decode cX6_putBytes 2 = .ok (.istore_n 3, 1) := sorry
theorem dX6_putBytes_3 : decode cX6_putBytes 3 = .ok (.iload_n 3, 1) := sorry
theorem dX6_putBytes_4 : decode cX6_putBytes 4 = .ok (.ifCond .lt 33, 3) := sorry
theorem dX6_putBytes_7 : decode cX6_putBytes 7 = .ok (.aload_n 0, 1) := sorry
theorem dX6_putBytes_8 : decode cX6_putBytes 8 = .ok (.getfield 9, 3) := sorry
theorem dX6_putBytes_11 : decode cX6_putBytes 11 = .ok (.aload_n 0, 1) := sorry
theorem dX6_putBytes_12 : decode cX6_putBytes 12 = .ok (.getfield 77, 3) := sorry
theorem dX6_putBytes_15 : decode cX6_putBytes 15 = .ok (.lload_n 1, 1) := sorry
theorem dX6_putBytes_16 : decode cX6_putBytes 16 = .ok (.iload_n 3, 1) := sorry
theorem dX6_putBytes_17 : decode cX6_putBytes 17 = .ok (.lushr, 1) := sorry
theorem dX6_putBytes_18 : decode cX6_putBytes 18 = .ok (.l2i, 1) := sorry
theorem dX6_putBytes_19 : decode cX6_putBytes 19 = .ok (.i2b, 1) := sorry
theorem dX6_putBytes_20 : decode cX6_putBytes 20 = .ok (.bastore, 1) := sorry
theorem dX6_putBytes_21 : decode cX6_putBytes 21 = .ok (.aload_n 0, 1) := sorry
theorem dX6_putBytes_22 : decode cX6_putBytes 22 = .ok (.dup, 1) := sorry
theorem dX6_putBytes_23 : decode cX6_putBytes 23 = .ok (.getfield 77, 3) := sorry
theorem dX6_putBytes_26 : decode cX6_putBytes 26 = .ok (.iconst 1, 1) := sorry
theorem dX6_putBytes_27 : decode cX6_putBytes 27 = .ok (.iadd, 1) := sorry
theorem dX6_putBytes_28 : decode cX6_putBytes 28 = .ok (.putfield 77, 3) := sorry
theorem dX6_putBytes_31 : decode cX6_putBytes 31 = .ok (.iinc 3 (-8), 3) := sorry
theorem dX6_putBytes_34 : decode cX6_putBytes 34 = .ok (.goto (-31), 3) := sorry
theorem dX6_putBytes_37 : decode cX6_putBytes 37 = .ok (.return_, 1) := sorry
def dtX6_end_0_0 : List (Nat × Instr × Nat) := [(0, .iload_n 1, 1), (1, .ifCond .lt 11, 3), (4, .iload_n 1, 1), (5, .aload_n 0, 1), (6, .getfield 77, 3), (9, .if_icmp .le 5, 3), (12, .iconst (-1), 1), (13, .ireturn, 1), (14, .aload_n 0, 1), (15, .iload_n 1, 1), (16, .putfield 77, 3), (19, .iload_n 1, 1), (20, .ireturn, 1)]
theorem dtX6_end_0_0_ok : dcAll cX6_end dtX6_end_0_0 = true := sorry
theorem dX6_end_0 : decode cX6_end 0 = .ok (.iload_n 1, 1) := sorry
theorem dX6_end_1 : decode cX6_end 1 = .ok (.ifCond .lt 11, 3) := sorry
theorem dX6_end_4 : decode cX6_end 4 = .ok (.iload_n 1, 1) := sorry
theorem dX6_end_5 : decode cX6_end 5 = .ok (.aload_n 0, 1) := sorry
theorem dX6_end_6 : decode cX6_end 6 = .ok (.getfield 77, 3) := sorry
theorem dX6_end_9 : decode cX6_end 9 = .ok (.if_icmp .le 5, 3) := sorry
theorem dX6_end_12 : decode cX6_end 12 = .ok (.iconst (-1), 1) := sorry
theorem dX6_end_13 : decode cX6_end 13 = .ok (.ireturn, 1) := sorry
theorem dX6_end_14 : decode cX6_end 14 = .ok (.aload_n 0, 1) := sorry
theorem dX6_end_15 : decode cX6_end 15 = .ok (.iload_n 1, 1) := sorry
theorem dX6_end_16 : decode cX6_end 16 = .ok (.putfield 77, 3) := sorry
theorem dX6_end_19 : decode cX6_end 19 = .ok (.iload_n 1, 1) := sorry
theorem dX6_end_20 : decode cX6_end 20 = .ok (.ireturn, 1) := sorry
set_option maxRecDepth 20000 in
theorem ggX6_plan_X1_parse : GoodIn wsX6_plan wsX1_parse := sorry
set_option maxRecDepth 20000 in
theorem gX6_plan_X1_parse : GoodIn wsX6_plan (wsV RX6 85 RX1 yX1_parse wsX1_parse) := sorry
set_option maxRecDepth 20000 in
theorem ggX6_plan_X1_exchangePlan : GoodIn wsX6_plan wsX1_exchangePlan := sorry
set_option maxRecDepth 20000 in
theorem gX6_plan_X1_exchangePlan : GoodIn wsX6_plan (wsV RX6 89 RX1 yX1_exchangePlan wsX1_exchangePlan) := sorry
set_option maxRecDepth 20000 in
theorem ggX6_plan_X6_startAnew : GoodIn wsX6_plan wsX6_startAnew := sorry
set_option maxRecDepth 20000 in
theorem gX6_plan_X6_startAnew : GoodIn wsX6_plan (wsV RX6 93 RX6 yX6_startAnew wsX6_startAnew) := sorry
def dtX6_plan_0_0 : List (Nat × Instr × Nat) := [(0, .aload_n 0, 1), (1, .getfield 77, 3), (4, .istore_n 1, 1), (5, .aload_n 0, 1), (6, .iconst 0, 1), (7, .putfield 77, 3), (10, .iload_n 1, 1), (11, .sipush 900, 3), (14, .if_icmp .le 5, 3), (17, .iconst (-1), 1), (18, .ireturn, 1), (19, .aload_n 0, 1), (20, .getfield 16, 3), (23, .aload_n 0, 1), (24, .getfield 9, 3), (27, .iload_n 1, 1), (28, .invokevirtual 85, 3), (31, .istore_n 2, 1), (32, .iload_n 2, 1), (33, .ifCond .eq 8, 3), (36, .bipush (-2), 2), (38, .iload_n 2, 1), (39, .isub, 1), (40, .ireturn, 1), (41, .aload_n 0, 1), (42, .aload_n 0, 1), (43, .getfield 16, 3), (46, .aload_n 0, 1), (47, .getfield 23, 3), (50, .invokevirtual 89, 3), (53, .putfield 23, 3), (56, .aload_n 0, 1)]
theorem dtX6_plan_0_0_ok : dcAll cX6_plan dtX6_plan_0_0 = true := sorry
theorem dX6_plan_0 : decode cX6_plan 0 = .ok (.aload_n 0, 1) := sorry
theorem dX6_plan_1 : decode cX6_plan 1 = .ok (.getfield 77, 3) := sorry
theorem dX6_plan_4 : decode cX6_plan 4 = .ok (.istore_n 1, 1) := sorry
theorem dX6_plan_5 : decode cX6_plan 5 = .ok (.aload_n 0, 1) := sorry
theorem dX6_plan_6 : decode cX6_plan 6 = .ok (.iconst 0, 1) := sorry
theorem dX6_plan_7 : decode cX6_plan 7 = .ok (.putfield 77, 3) := sorry
theorem dX6_plan_10 : decode cX6_plan 10 = .ok (.iload_n 1, 1) := sorry
theorem dX6_plan_11 : decode cX6_plan 11 = .ok (.sipush 900, 3) := sorry
theorem dX6_plan_14 : decode cX6_plan 14 = .ok (.if_icmp .le 5, 3) := sorry
theorem dX6_plan_17 : decode cX6_plan 17 = .ok (.iconst (-1), 1) := sorry
theorem dX6_plan_18 : decode cX6_plan 18 = .ok (.ireturn, 1) := sorry
theorem dX6_plan_19 : decode cX6_plan 19 = .ok (.aload_n 0, 1) := sorry
theorem dX6_plan_20 : decode cX6_plan 20 = .ok (.getfield 16, 3) := sorry
theorem dX6_plan_23 : decode cX6_plan 23 = .ok (.aload_n 0, 1) := sorry
theorem dX6_plan_24 : decode cX6_plan 24 = .ok (.getfield 9, 3) := sorry
theorem dX6_plan_27 : decode cX6_plan 27 = .ok (.iload_n 1, 1) := sorry
theorem dX6_plan_28 : decode cX6_plan 28 = .ok (.invokevirtual 85, 3) := sorry
theorem dX6_plan_31 : decode cX6_plan 31 = .ok (.istore_n 2, 1) := sorry
theorem dX6_plan_32 : decode cX6_plan 32 = .ok (.iload_n 2, 1) := sorry
theorem dX6_plan_33 : decode cX6_plan 33 = .ok (.ifCond .eq 8, 3) := sorry
theorem dX6_plan_36 : decode cX6_plan 36 = .ok (.bipush (-2), 2) := sorry
theorem dX6_plan_38 : decode cX6_plan 38 = .ok (.iload_n 2, 1) := sorry
theorem dX6_plan_39 : decode cX6_plan 39 = .ok (.isub, 1) := sorry
theorem dX6_plan_40 : decode cX6_plan 40 = .ok (.ireturn, 1) := sorry
theorem dX6_plan_41 : decode cX6_plan 41 = .ok (.aload_n 0, 1) := sorry
theorem dX6_plan_42 : decode cX6_plan 42 = .ok (.aload_n 0, 1) := sorry
theorem dX6_plan_43 : decode cX6_plan 43 = .ok (.getfield 16, 3) := sorry
theorem dX6_plan_46 : decode cX6_plan 46 = .ok (.aload_n 0, 1) := sorry
theorem dX6_plan_47 : decode cX6_plan 47 = .ok (.getfield 23, 3) := sorry
theorem dX6_plan_50 : decode cX6_plan 50 = .ok (.invokevirtual 89, 3) := sorry
theorem dX6_plan_53 : decode cX6_plan 53 = .ok (.putfield 23, 3) := sorry
theorem dX6_plan_56 : decode cX6_plan 56 = .ok (.aload_n 0, 1) := sorry
def dtX6_plan_57_1 : List (Nat × Instr × Nat) := [(57, .invokevirtual 93, 3), (60, .aload_n 0, 1), (61, .getfield 23, 3), (64, .getfield 96, 3), (67, .ireturn, 1)]
theorem dtX6_plan_57_1_ok : dcAll cX6_plan dtX6_plan_57_1 = true := sorry
theorem dX6_plan_57 : decode cX6_plan 57 = .ok (.invokevirtual 93, 3) := sorry
theorem dX6_plan_60 : decode cX6_plan 60 = .ok (.aload_n 0, 1) := sorry
theorem dX6_plan_61 : decode cX6_plan 61 = .ok (.getfield 23, 3) := sorry
theorem dX6_plan_64 : decode cX6_plan 64 = .ok (.getfield 96, 3) := sorry
theorem dX6_plan_67 : decode cX6_plan 67 = .ok (.ireturn, 1) := sorry
def dtX6_startAnew_0_0 : List (Nat × Instr × Nat) := [(0, .iconst 0, 1), (1, .istore_n 1, 1), (2, .iload_n 1, 1), (3, .bipush 16, 2), (5, .if_icmp .ge 29, 3), (8, .aload_n 0, 1), (9, .getfield 38, 3), (12, .iload_n 1, 1), (13, .aaload, 1), (14, .iconst 0, 1), (15, .putfield 99, 3), (18, .aload_n 0, 1), (19, .getfield 45, 3), (22, .iload_n 1, 1), (23, .aaload, 1), (24, .iconst 0, 1), (25, .putfield 99, 3), (28, .iinc 1 1, 3), (31, .goto (-29), 3), (34, .aload_n 0, 1), (35, .getfield 53, 3), (38, .iconst 0, 1), (39, .putfield 99, 3), (42, .aload_n 0, 1), (43, .iconst 0, 1), (44, .putfield 100, 3), (47, .aload_n 0, 1), (48, .iconst 0, 1), (49, .putfield 103, 3), (52, .aload_n 0, 1), (53, .iconst 0, 1), (54, .putfield 106, 3)]
theorem dtX6_startAnew_0_0_ok : dcAll cX6_startAnew dtX6_startAnew_0_0 = true := sorry
theorem dX6_startAnew_0 : decode cX6_startAnew 0 = .ok (.iconst 0, 1) := sorry
theorem dX6_startAnew_1 : decode cX6_startAnew 1 = .ok (.istore_n 1, 1) := sorry
theorem dX6_startAnew_2 : decode cX6_startAnew 2 = .ok (.iload_n 1, 1) := sorry
theorem dX6_startAnew_3 : decode cX6_startAnew 3 = .ok (.bipush 16, 2) := sorry
theorem dX6_startAnew_5 : decode cX6_startAnew 5 = .ok (.if_icmp .ge 29, 3) := sorry
theorem dX6_startAnew_8 : decode cX6_startAnew 8 = .ok (.aload_n 0, 1) := sorry
theorem dX6_startAnew_9 : decode cX6_startAnew 9 = .ok (.getfield 38, 3) := sorry
theorem dX6_startAnew_12 : decode cX6_startAnew 12 = .ok (.iload_n 1, 1) := sorry
theorem dX6_startAnew_13 : decode cX6_startAnew 13 = .ok (.aaload, 1) := sorry
theorem dX6_startAnew_14 : decode cX6_startAnew 14 = .ok (.iconst 0, 1) := sorry
theorem dX6_startAnew_15 : decode cX6_startAnew 15 = .ok (.putfield 99, 3) := sorry
theorem dX6_startAnew_18 : decode cX6_startAnew 18 = .ok (.aload_n 0, 1) := sorry
theorem dX6_startAnew_19 : decode cX6_startAnew 19 = .ok (.getfield 45, 3) := sorry
theorem dX6_startAnew_22 : decode cX6_startAnew 22 = .ok (.iload_n 1, 1) := sorry
theorem dX6_startAnew_23 : decode cX6_startAnew 23 = .ok (.aaload, 1) := sorry
theorem dX6_startAnew_24 : decode cX6_startAnew 24 = .ok (.iconst 0, 1) := sorry
theorem dX6_startAnew_25 : decode cX6_startAnew 25 = .ok (.putfield 99, 3) := sorry
theorem dX6_startAnew_28 : decode cX6_startAnew 28 = .ok (.iinc 1 1, 3) := sorry
theorem dX6_startAnew_31 : decode cX6_startAnew 31 = .ok (.goto (-29), 3) := sorry
theorem dX6_startAnew_34 : decode cX6_startAnew 34 = .ok (.aload_n 0, 1) := sorry
theorem dX6_startAnew_35 : decode cX6_startAnew 35 = .ok (.getfield 53, 3) := sorry
theorem dX6_startAnew_38 : decode cX6_startAnew 38 = .ok (.iconst 0, 1) := sorry
theorem dX6_startAnew_39 : decode cX6_startAnew 39 = .ok (.putfield 99, 3) := sorry
theorem dX6_startAnew_42 : decode cX6_startAnew 42 = .ok (.aload_n 0, 1) := sorry
theorem dX6_startAnew_43 : decode cX6_startAnew 43 = .ok (.iconst 0, 1) := sorry
theorem dX6_startAnew_44 : decode cX6_startAnew 44 = .ok (.putfield 100, 3) := sorry
theorem dX6_startAnew_47 : decode cX6_startAnew 47 = .ok (.aload_n 0, 1) := sorry
theorem dX6_startAnew_48 : decode cX6_startAnew 48 = .ok (.iconst 0, 1) := sorry
theorem dX6_startAnew_49 : decode cX6_startAnew 49 = .ok (.putfield 103, 3) := sorry
theorem dX6_startAnew_52 : decode cX6_startAnew 52 = .ok (.aload_n 0, 1) := sorry
theorem dX6_startAnew_53 : decode cX6_startAnew 53 = .ok (.iconst 0, 1) := sorry
theorem dX6_startAnew_54 : decode cX6_startAnew 54 = .ok (.putfield 106, 3) := sorry
def dtX6_startAnew_57_1 : List (Nat × Instr × Nat) := [(57, .return_, 1)]
theorem dtX6_startAnew_57_1_ok : dcAll cX6_startAnew dtX6_startAnew_57_1 = true := sorry
theorem dX6_startAnew_57 : decode cX6_startAnew 57 = .ok (.return_, 1) := sorry
def dtX6_isRelation_0_0 : List (Nat × Instr × Nat) := [(0, .iload_n 1, 1), (1, .ifCond .lt 18, 3), (4, .iload_n 1, 1), (5, .aload_n 0, 1), (6, .getfield 23, 3), (9, .getfield 96, 3), (12, .if_icmp .ge 7, 3), (15, .iconst 1, 1), (16, .goto 4, 3), (19, .iconst 0, 1)]
theorem dtX6_isRelation_0_0_ok : dcAll cX6_isRelation dtX6_isRelation_0_0 = true := sorry
theorem dX6_isRelation_0 : decode cX6_isRelation 0 = .ok (.iload_n 1, 1) := sorry
theorem dX6_isRelation_1 : decode cX6_isRelation 1 = .ok (.ifCond .lt 18, 3) := sorry
theorem dX6_isRelation_4 : decode cX6_isRelation 4 = .ok (.iload_n 1, 1) := sorry
theorem dX6_isRelation_5 : decode cX6_isRelation 5 = .ok (.aload_n 0, 1) := sorry
theorem dX6_isRelation_6 : decode cX6_isRelation 6 = .ok (.getfield 23, 3) := sorry
theorem dX6_isRelation_9 : decode cX6_isRelation 9 = .ok (.getfield 96, 3) := sorry
theorem dX6_isRelation_12 : decode cX6_isRelation 12 = .ok (.if_icmp .ge 7, 3) := sorry
theorem dX6_isRelation_15 : decode cX6_isRelation 15 = .ok (.iconst 1, 1) := sorry
theorem dX6_isRelation_16 : decode cX6_isRelation 16 = .ok (.goto 4, 3) := sorry
theorem dX6_isRelation_19 : decode cX6_isRelation 19 = .ok (.iconst 0, 1) := sorry

end

section
def dtX6_isRelation_20_0 : List (Nat × Instr × Nat) := [(20, .ireturn, 1)]
theorem dtX6_isRelation_20_0_ok : dcAll cX6_isRelation dtX6_isRelation_20_0 = true := sorry
theorem dX6_isRelation_20 : decode cX6_isRelation 20 = .ok (.ireturn, 1) := sorry
set_option maxRecDepth 20000 in
theorem ggX6_isRing_X6_isRelation : GoodIn wsX6_isRing wsX6_isRelation := sorry
set_option maxRecDepth 20000 in
theorem gX6_isRing_X6_isRelation : GoodIn wsX6_isRing (wsV RX6 109 RX6 yX6_isRelation wsX6_isRelation) := sorry
def dtX6_isRing_0_0 : List (Nat × Instr × Nat) := [(0, .aload_n 0, 1), (1, .iload_n 1, 1), (2, .invokevirtual 109, 3), (5, .ifCond .eq 24, 3), (8, .aload_n 0, 1), (9, .getfield 23, 3), (12, .getfield 113, 3), (15, .iload_n 1, 1), (16, .aaload, 1), (17, .getfield 117, 3), (20, .bipush 8, 2), (22, .if_icmp .ne 7, 3), (25, .iconst 1, 1), (26, .goto 4, 3), (29, .iconst 0, 1), (30, .ireturn, 1)]
theorem dtX6_isRing_0_0_ok : dcAll cX6_isRing dtX6_isRing_0_0 = true := sorry
theorem dX6_isRing_0 : decode cX6_isRing 0 = .ok (.aload_n 0, 1) := sorry
theorem dX6_isRing_1 : decode cX6_isRing 1 = .ok (.iload_n 1, 1) := sorry
theorem dX6_isRing_2 : decode cX6_isRing 2 = .ok (.invokevirtual 109, 3) := sorry
theorem dX6_isRing_5 : decode cX6_isRing 5 = .ok (.ifCond .eq 24, 3) := sorry
theorem dX6_isRing_8 : decode cX6_isRing 8 = .ok (.aload_n 0, 1) := sorry
theorem dX6_isRing_9 : decode cX6_isRing 9 = .ok (.getfield 23, 3) := sorry
theorem dX6_isRing_12 : decode cX6_isRing 12 = .ok (.getfield 113, 3) := sorry
theorem dX6_isRing_15 : decode cX6_isRing 15 = .ok (.iload_n 1, 1) := sorry
theorem dX6_isRing_16 : decode cX6_isRing 16 = .ok (.aaload, 1) := sorry
theorem dX6_isRing_17 : decode cX6_isRing 17 = .ok (.getfield 117, 3) := sorry
theorem dX6_isRing_20 : decode cX6_isRing 20 = .ok (.bipush 8, 2) := sorry
theorem dX6_isRing_22 : decode cX6_isRing 22 = .ok (.if_icmp .ne 7, 3) := sorry
theorem dX6_isRing_25 : decode cX6_isRing 25 = .ok (.iconst 1, 1) := sorry
theorem dX6_isRing_26 : decode cX6_isRing 26 = .ok (.goto 4, 3) := sorry
theorem dX6_isRing_29 : decode cX6_isRing 29 = .ok (.iconst 0, 1) := sorry
theorem dX6_isRing_30 : decode cX6_isRing 30 = .ok (.ireturn, 1) := sorry
set_option maxRecDepth 20000 in
theorem ggX6_change_X4_addAmount : GoodIn wsX6_change wsX4_addAmount := sorry
set_option maxRecDepth 20000 in
theorem gX6_change_X4_addAmount : GoodIn wsX6_change (wsV RX6 128 RX4 yX4_addAmount wsX4_addAmount) := sorry
def dtX6_change_0_0 : List (Nat × Instr × Nat) := [(0, .iload_n 1, 1), (1, .ifCond .lt 14, 3), (4, .iload_n 1, 1), (5, .aload_n 0, 1), (6, .getfield 23, 3), (9, .getfield 122, 3), (12, .if_icmp .lt 5, 3), (15, .iconst (-1), 1), (16, .ireturn, 1), (17, .iload 6, 2), (19, .bipush (-9), 2), (21, .if_icmp .lt 15, 3), (24, .iload 6, 2), (26, .bipush 9, 2), (28, .if_icmp .gt 8, 3), (31, .iload 6, 2), (33, .ifCond .ne 5, 3), (36, .iconst (-1), 1), (37, .ireturn, 1), (38, .aload_n 0, 1), (39, .getfield 23, 3), (42, .getfield 113, 3), (45, .iload_n 1, 1), (46, .aaload, 1), (47, .getfield 125, 3), (50, .istore 7, 2), (52, .aload_n 0, 1), (53, .getfield 66, 3), (56, .iconst 0, 1), (57, .iload_n 1, 1), (58, .iastore, 1), (59, .aload_n 0, 1)]
theorem dtX6_change_0_0_ok : dcAll cX6_change dtX6_change_0_0 = true := sorry
theorem dX6_change_0 : decode cX6_change 0 = .ok (.iload_n 1, 1) := sorry
theorem dX6_change_1 : decode cX6_change 1 = .ok (.ifCond .lt 14, 3) := sorry
theorem dX6_change_4 : decode cX6_change 4 = .ok (.iload_n 1, 1) := sorry
theorem dX6_change_5 : decode cX6_change 5 = .ok (.aload_n 0, 1) := sorry
theorem dX6_change_6 : decode cX6_change 6 = .ok (.getfield 23, 3) := sorry
theorem dX6_change_9 : decode cX6_change 9 = .ok (.getfield 122, 3) := sorry
theorem dX6_change_12 : decode cX6_change 12 = .ok (.if_icmp .lt 5, 3) := sorry
theorem dX6_change_15 : decode cX6_change 15 = .ok (.iconst (-1), 1) := sorry
theorem dX6_change_16 : decode cX6_change 16 = .ok (.ireturn, 1) := sorry
theorem dX6_change_17 : decode cX6_change 17 = .ok (.iload 6, 2) := sorry
theorem dX6_change_19 : decode cX6_change 19 = .ok (.bipush (-9), 2) := sorry
theorem dX6_change_21 : decode cX6_change 21 = .ok (.if_icmp .lt 15, 3) := sorry
theorem dX6_change_24 : decode cX6_change 24 = .ok (.iload 6, 2) := sorry
theorem dX6_change_26 : decode cX6_change 26 = .ok (.bipush 9, 2) := sorry
theorem dX6_change_28 : decode cX6_change 28 = .ok (.if_icmp .gt 8, 3) := sorry
theorem dX6_change_31 : decode cX6_change 31 = .ok (.iload 6, 2) := sorry
theorem dX6_change_33 : decode cX6_change 33 = .ok (.ifCond .ne 5, 3) := sorry
theorem dX6_change_36 : decode cX6_change 36 = .ok (.iconst (-1), 1) := sorry
theorem dX6_change_37 : decode cX6_change 37 = .ok (.ireturn, 1) := sorry
theorem dX6_change_38 : decode cX6_change 38 = .ok (.aload_n 0, 1) := sorry
theorem dX6_change_39 : decode cX6_change 39 = .ok (.getfield 23, 3) := sorry
theorem dX6_change_42 : decode cX6_change 42 = .ok (.getfield 113, 3) := sorry
theorem dX6_change_45 : decode cX6_change 45 = .ok (.iload_n 1, 1) := sorry
theorem dX6_change_46 : decode cX6_change 46 = .ok (.aaload, 1) := sorry
theorem dX6_change_47 : decode cX6_change 47 = .ok (.getfield 125, 3) := sorry
theorem dX6_change_50 : decode cX6_change 50 = .ok (.istore 7, 2) := sorry
theorem dX6_change_52 : decode cX6_change 52 = .ok (.aload_n 0, 1) := sorry
theorem dX6_change_53 : decode cX6_change 53 = .ok (.getfield 66, 3) := sorry
theorem dX6_change_56 : decode cX6_change 56 = .ok (.iconst 0, 1) := sorry
theorem dX6_change_57 : decode cX6_change 57 = .ok (.iload_n 1, 1) := sorry
theorem dX6_change_58 : decode cX6_change 58 = .ok (.iastore, 1) := sorry
theorem dX6_change_59 : decode cX6_change 59 = .ok (.aload_n 0, 1) := sorry
def dtX6_change_60_1 : List (Nat × Instr × Nat) := [(60, .getfield 66, 3), (63, .iconst 1, 1), (64, .iload_n 2, 1), (65, .iastore, 1), (66, .aload_n 0, 1), (67, .getfield 66, 3), (70, .iconst 2, 1), (71, .iload 7, 2), (73, .iconst 1, 1), (74, .if_icmp .le 7, 3), (77, .iload_n 3, 1), (78, .goto 4, 3), (81, .iconst 0, 1), (82, .iastore, 1), (83, .aload_n 0, 1), (84, .getfield 66, 3), (87, .iconst 3, 1), (88, .iload 7, 2), (90, .iconst 2, 1), (91, .if_icmp .le 8, 3), (94, .iload 4, 2), (96, .goto 4, 3), (99, .iconst 0, 1), (100, .iastore, 1), (101, .aload_n 0, 1), (102, .getfield 66, 3), (105, .iconst 4, 1), (106, .iload 7, 2), (108, .iconst 3, 1), (109, .if_icmp .le 8, 3), (112, .iload 5, 2), (114, .goto 4, 3)]
theorem dtX6_change_60_1_ok : dcAll cX6_change dtX6_change_60_1 = true := sorry
theorem dX6_change_60 : decode cX6_change 60 = .ok (.getfield 66, 3) := sorry
theorem dX6_change_63 : decode cX6_change 63 = .ok (.iconst 1, 1) := sorry
theorem dX6_change_64 : decode cX6_change 64 = .ok (.iload_n 2, 1) := sorry
theorem dX6_change_65 : decode cX6_change 65 = .ok (.iastore, 1) := sorry
theorem dX6_change_66 : decode cX6_change 66 = .ok (.aload_n 0, 1) := sorry
theorem dX6_change_67 : decode cX6_change 67 = .ok (.getfield 66, 3) := sorry
theorem dX6_change_70 : decode cX6_change 70 = .ok (.iconst 2, 1) := sorry
theorem dX6_change_71 : decode cX6_change 71 = .ok (.iload 7, 2) := sorry
theorem dX6_change_73 : decode cX6_change 73 = .ok (.iconst 1, 1) := sorry
theorem dX6_change_74 : decode cX6_change 74 = .ok (.if_icmp .le 7, 3) := sorry
theorem dX6_change_77 : decode cX6_change 77 = .ok (.iload_n 3, 1) := sorry
theorem dX6_change_78 : decode cX6_change 78 = .ok (.goto 4, 3) := sorry
theorem dX6_change_81 : decode cX6_change 81 = .ok (.iconst 0, 1) := sorry
theorem dX6_change_82 : decode cX6_change 82 = .ok (.iastore, 1) := sorry
theorem dX6_change_83 : decode cX6_change 83 = .ok (.aload_n 0, 1) := sorry
theorem dX6_change_84 : decode cX6_change 84 = .ok (.getfield 66, 3) := sorry
theorem dX6_change_87 : decode cX6_change 87 = .ok (.iconst 3, 1) := sorry
theorem dX6_change_88 : decode cX6_change 88 = .ok (.iload 7, 2) := sorry
theorem dX6_change_90 : decode cX6_change 90 = .ok (.iconst 2, 1) := sorry
theorem dX6_change_91 : decode cX6_change 91 = .ok (.if_icmp .le 8, 3) := sorry
theorem dX6_change_94 : decode cX6_change 94 = .ok (.iload 4, 2) := sorry
theorem dX6_change_96 : decode cX6_change 96 = .ok (.goto 4, 3) := sorry
theorem dX6_change_99 : decode cX6_change 99 = .ok (.iconst 0, 1) := sorry
theorem dX6_change_100 : decode cX6_change 100 = .ok (.iastore, 1) := sorry
theorem dX6_change_101 : decode cX6_change 101 = .ok (.aload_n 0, 1) := sorry
theorem dX6_change_102 : decode cX6_change 102 = .ok (.getfield 66, 3) := sorry
theorem dX6_change_105 : decode cX6_change 105 = .ok (.iconst 4, 1) := sorry
theorem dX6_change_106 : decode cX6_change 106 = .ok (.iload 7, 2) := sorry
theorem dX6_change_108 : decode cX6_change 108 = .ok (.iconst 3, 1) := sorry
theorem dX6_change_109 : decode cX6_change 109 = .ok (.if_icmp .le 8, 3) := sorry
theorem dX6_change_112 : decode cX6_change 112 = .ok (.iload 5, 2) := sorry
theorem dX6_change_114 : decode cX6_change 114 = .ok (.goto 4, 3) := sorry
def dtX6_change_117_2 : List (Nat × Instr × Nat) := [(117, .iconst 0, 1), (118, .iastore, 1), (119, .aload_n 0, 1), (120, .getfield 53, 3), (123, .aload_n 0, 1), (124, .getfield 66, 3), (127, .iload 6, 2), (129, .invokevirtual 128, 3), (132, .ifCond .eq 13, 3), (135, .aload_n 0, 1), (136, .getfield 53, 3), (139, .getfield 99, 3), (142, .goto 4, 3), (145, .iconst (-1), 1), (146, .ireturn, 1)]
theorem dtX6_change_117_2_ok : dcAll cX6_change dtX6_change_117_2 = true := sorry
theorem dX6_change_117 : decode cX6_change 117 = .ok (.iconst 0, 1) := sorry
theorem dX6_change_118 : decode cX6_change 118 = .ok (.iastore, 1) := sorry
theorem dX6_change_119 : decode cX6_change 119 = .ok (.aload_n 0, 1) := sorry
theorem dX6_change_120 : decode cX6_change 120 = .ok (.getfield 53, 3) := sorry
theorem dX6_change_123 : decode cX6_change 123 = .ok (.aload_n 0, 1) := sorry
theorem dX6_change_124 : decode cX6_change 124 = .ok (.getfield 66, 3) := sorry
theorem dX6_change_127 : decode cX6_change 127 = .ok (.iload 6, 2) := sorry
theorem dX6_change_129 : decode cX6_change 129 = .ok (.invokevirtual 128, 3) := sorry
theorem dX6_change_132 : decode cX6_change 132 = .ok (.ifCond .eq 13, 3) := sorry
theorem dX6_change_135 : decode cX6_change 135 = .ok (.aload_n 0, 1) := sorry
theorem dX6_change_136 : decode cX6_change 136 = .ok (.getfield 53, 3) := sorry
theorem dX6_change_139 : decode cX6_change 139 = .ok (.getfield 99, 3) := sorry
theorem dX6_change_142 : decode cX6_change 142 = .ok (.goto 4, 3) := sorry
theorem dX6_change_145 : decode cX6_change 145 = .ok (.iconst (-1), 1) := sorry
theorem dX6_change_146 : decode cX6_change 146 = .ok (.ireturn, 1) := sorry
set_option maxRecDepth 20000 in
theorem ggX6_pending_X4_cell : GoodIn wsX6_pending wsX4_cell := sorry
set_option maxRecDepth 20000 in
theorem gX6_pending_X4_cell : GoodIn wsX6_pending (wsV RX6 139 RX4 yX4_cell wsX4_cell) := sorry
def dtX6_pending_0_0 : List (Nat × Instr × Nat) := [(0, .iload_n 1, 1), (1, .iconst (-1), 1), (2, .if_icmp .ne 11, 3), (5, .aload_n 0, 1), (6, .getfield 53, 3), (9, .getfield 99, 3), (12, .ireturn, 1), (13, .iload_n 1, 1), (14, .ifCond .lt 23, 3), (17, .iload_n 1, 1), (18, .aload_n 0, 1), (19, .getfield 53, 3), (22, .getfield 99, 3), (25, .if_icmp .ge 12, 3), (28, .iload_n 2, 1), (29, .ifCond .lt 8, 3), (32, .iload_n 2, 1), (33, .iconst 5, 1), (34, .if_icmp .le 13, 3), (37, .new 132, 3), (40, .dup, 1), (41, .ldc 134, 2), (43, .invokespecial 136, 3), (46, .athrow, 1), (47, .aload_n 0, 1), (48, .getfield 23, 3), (51, .getfield 113, 3), (54, .aload_n 0, 1), (55, .getfield 53, 3), (58, .iload_n 1, 1), (59, .iconst 0, 1), (60, .invokevirtual 139, 3)]
theorem dtX6_pending_0_0_ok : dcAll cX6_pending dtX6_pending_0_0 = true := sorry
theorem dX6_pending_0 : decode cX6_pending 0 = .ok (.iload_n 1, 1) := sorry
theorem dX6_pending_1 : decode cX6_pending 1 = .ok (.iconst (-1), 1) := sorry
theorem dX6_pending_2 : decode cX6_pending 2 = .ok (.if_icmp .ne 11, 3) := sorry
theorem dX6_pending_5 : decode cX6_pending 5 = .ok (.aload_n 0, 1) := sorry
theorem dX6_pending_6 : decode cX6_pending 6 = .ok (.getfield 53, 3) := sorry
theorem dX6_pending_9 : decode cX6_pending 9 = .ok (.getfield 99, 3) := sorry
theorem dX6_pending_12 : decode cX6_pending 12 = .ok (.ireturn, 1) := sorry
theorem dX6_pending_13 : decode cX6_pending 13 = .ok (.iload_n 1, 1) := sorry
theorem dX6_pending_14 : decode cX6_pending 14 = .ok (.ifCond .lt 23, 3) := sorry
theorem dX6_pending_17 : decode cX6_pending 17 = .ok (.iload_n 1, 1) := sorry
theorem dX6_pending_18 : decode cX6_pending 18 = .ok (.aload_n 0, 1) := sorry
theorem dX6_pending_19 : decode cX6_pending 19 = .ok (.getfield 53, 3) := sorry
theorem dX6_pending_22 : decode cX6_pending 22 = .ok (.getfield 99, 3) := sorry
theorem dX6_pending_25 : decode cX6_pending 25 = .ok (.if_icmp .ge 12, 3) := sorry
theorem dX6_pending_28 : decode cX6_pending 28 = .ok (.iload_n 2, 1) := sorry
theorem dX6_pending_29 : decode cX6_pending 29 = .ok (.ifCond .lt 8, 3) := sorry
theorem dX6_pending_32 : decode cX6_pending 32 = .ok (.iload_n 2, 1) := sorry
theorem dX6_pending_33 : decode cX6_pending 33 = .ok (.iconst 5, 1) := sorry
theorem dX6_pending_34 : decode cX6_pending 34 = .ok (.if_icmp .le 13, 3) := sorry
theorem dX6_pending_37 : decode cX6_pending 37 = .ok (.new 132, 3) := sorry
theorem dX6_pending_40 : decode cX6_pending 40 = .ok (.dup, 1) := sorry
theorem dX6_pending_41 : decode cX6_pending 41 = .ok (.ldc 134, 2) := sorry
theorem dX6_pending_43 : decode cX6_pending 43 = .ok (.invokespecial 136, 3) := sorry
theorem dX6_pending_46 : decode cX6_pending 46 = .ok (.athrow, 1) := sorry
theorem dX6_pending_47 : decode cX6_pending 47 = .ok (.aload_n 0, 1) := sorry
theorem dX6_pending_48 : decode cX6_pending 48 = .ok (.getfield 23, 3) := sorry
theorem dX6_pending_51 : decode cX6_pending 51 = .ok (.getfield 113, 3) := sorry
theorem dX6_pending_54 : decode cX6_pending 54 = .ok (.aload_n 0, 1) := sorry
theorem dX6_pending_55 : decode cX6_pending 55 = .ok (.getfield 53, 3) := sorry
theorem dX6_pending_58 : decode cX6_pending 58 = .ok (.iload_n 1, 1) := sorry
theorem dX6_pending_59 : decode cX6_pending 59 = .ok (.iconst 0, 1) := sorry
theorem dX6_pending_60 : decode cX6_pending 60 = .ok (.invokevirtual 139, 3) := sorry
def dtX6_pending_63_1 : List (Nat × Instr × Nat) := [(63, .aaload, 1), (64, .getfield 125, 3), (67, .istore_n 3, 1), (68, .iload_n 2, 1), (69, .iload_n 3, 1), (70, .if_icmp .le 18, 3), (73, .iload_n 2, 1), (74, .iconst 5, 1), (75, .if_icmp .ge 13, 3), (78, .new 132, 3), (81, .dup, 1), (82, .ldc 143, 2), (84, .invokespecial 136, 3), (87, .athrow, 1), (88, .aload_n 0, 1), (89, .getfield 53, 3), (92, .iload_n 1, 1), (93, .iload_n 2, 1), (94, .invokevirtual 139, 3), (97, .ireturn, 1)]
theorem dtX6_pending_63_1_ok : dcAll cX6_pending dtX6_pending_63_1 = true := sorry
theorem dX6_pending_63 : decode cX6_pending 63 = .ok (.aaload, 1) := sorry
theorem dX6_pending_64 : decode cX6_pending 64 = .ok (.getfield 125, 3) := sorry
theorem dX6_pending_67 : decode cX6_pending 67 = .ok (.istore_n 3, 1) := sorry
theorem dX6_pending_68 : decode cX6_pending 68 = .ok (.iload_n 2, 1) := sorry
theorem dX6_pending_69 : decode cX6_pending 69 = .ok (.iload_n 3, 1) := sorry
theorem dX6_pending_70 : decode cX6_pending 70 = .ok (.if_icmp .le 18, 3) := sorry
theorem dX6_pending_73 : decode cX6_pending 73 = .ok (.iload_n 2, 1) := sorry
theorem dX6_pending_74 : decode cX6_pending 74 = .ok (.iconst 5, 1) := sorry
theorem dX6_pending_75 : decode cX6_pending 75 = .ok (.if_icmp .ge 13, 3) := sorry
theorem dX6_pending_78 : decode cX6_pending 78 = .ok (.new 132, 3) := sorry
theorem dX6_pending_81 : decode cX6_pending 81 = .ok (.dup, 1) := sorry
theorem dX6_pending_82 : decode cX6_pending 82 = .ok (.ldc 143, 2) := sorry
theorem dX6_pending_84 : decode cX6_pending 84 = .ok (.invokespecial 136, 3) := sorry
theorem dX6_pending_87 : decode cX6_pending 87 = .ok (.athrow, 1) := sorry
theorem dX6_pending_88 : decode cX6_pending 88 = .ok (.aload_n 0, 1) := sorry
theorem dX6_pending_89 : decode cX6_pending 89 = .ok (.getfield 53, 3) := sorry
theorem dX6_pending_92 : decode cX6_pending 92 = .ok (.iload_n 1, 1) := sorry
theorem dX6_pending_93 : decode cX6_pending 93 = .ok (.iload_n 2, 1) := sorry
theorem dX6_pending_94 : decode cX6_pending 94 = .ok (.invokevirtual 139, 3) := sorry
theorem dX6_pending_97 : decode cX6_pending 97 = .ok (.ireturn, 1) := sorry
def dtX6_cancel_0_0 : List (Nat × Instr × Nat) := [(0, .aload_n 0, 1), (1, .getfield 53, 3), (4, .getfield 99, 3), (7, .istore_n 1, 1), (8, .aload_n 0, 1), (9, .getfield 53, 3), (12, .iconst 0, 1), (13, .putfield 99, 3), (16, .iload_n 1, 1), (17, .ireturn, 1)]
theorem dtX6_cancel_0_0_ok : dcAll cX6_cancel dtX6_cancel_0_0 = true := sorry
theorem dX6_cancel_0 : decode cX6_cancel 0 = .ok (.aload_n 0, 1) := sorry
theorem dX6_cancel_1 : decode cX6_cancel 1 = .ok (.getfield 53, 3) := sorry
theorem dX6_cancel_4 : decode cX6_cancel 4 = .ok (.getfield 99, 3) := sorry
theorem dX6_cancel_7 : decode cX6_cancel 7 = .ok (.istore_n 1, 1) := sorry
theorem dX6_cancel_8 : decode cX6_cancel 8 = .ok (.aload_n 0, 1) := sorry
theorem dX6_cancel_9 : decode cX6_cancel 9 = .ok (.getfield 53, 3) := sorry
theorem dX6_cancel_12 : decode cX6_cancel 12 = .ok (.iconst 0, 1) := sorry
theorem dX6_cancel_13 : decode cX6_cancel 13 = .ok (.putfield 99, 3) := sorry
theorem dX6_cancel_16 : decode cX6_cancel 16 = .ok (.iload_n 1, 1) := sorry
theorem dX6_cancel_17 : decode cX6_cancel 17 = .ok (.ireturn, 1) := sorry
set_option maxRecDepth 20000 in
theorem ggX6_commit_X6_reckonNext : GoodIn wsX6_commit wsX6_reckonNext := sorry
set_option maxRecDepth 20000 in
theorem gX6_commit_X6_reckonNext : GoodIn wsX6_commit (wsV RX6 145 RX6 yX6_reckonNext wsX6_reckonNext) := sorry
set_option maxRecDepth 20000 in
theorem ggX6_commit_X6_remember : GoodIn wsX6_commit wsX6_remember := sorry
set_option maxRecDepth 20000 in
theorem gX6_commit_X6_remember : GoodIn wsX6_commit (wsV RX6 149 RX6 yX6_remember wsX6_remember) := sorry
set_option maxRecDepth 20000 in
theorem ggX6_commit_X6_takeNext : GoodIn wsX6_commit wsX6_takeNext := sorry
set_option maxRecDepth 20000 in
theorem gX6_commit_X6_takeNext : GoodIn wsX6_commit (wsV RX6 153 RX6 yX6_takeNext wsX6_takeNext) := sorry
set_option maxRecDepth 20000 in
theorem ggX6_commit_X6_movedInViews : GoodIn wsX6_commit wsX6_movedInViews := sorry
set_option maxRecDepth 20000 in
theorem gX6_commit_X6_movedInViews : GoodIn wsX6_commit (wsV RX6 156 RX6 yX6_movedInViews wsX6_movedInViews) := sorry
def dtX6_commit_0_0 : List (Nat × Instr × Nat) := [(0, .aload_n 0, 1), (1, .aload_n 0, 1), (2, .getfield 53, 3), (5, .iconst 1, 1), (6, .invokevirtual 145, 3), (9, .istore_n 1, 1), (10, .iload_n 1, 1), (11, .ifCond .ne 33, 3), (14, .aload_n 0, 1), (15, .aload_n 0, 1), (16, .getfield 53, 3), (19, .invokevirtual 149, 3), (22, .aload_n 0, 1), (23, .dup, 1), (24, .getfield 103, 3), (27, .iconst 1, 1), (28, .iadd, 1), (29, .putfield 103, 3), (32, .aload_n 0, 1), (33, .invokevirtual 153, 3), (36, .aload_n 0, 1), (37, .invokevirtual 156, 3), (40, .istore_n 1, 1), (41, .goto 13, 3), (44, .aload_n 0, 1), (45, .dup, 1), (46, .getfield 106, 3), (49, .iconst 1, 1), (50, .iadd, 1), (51, .putfield 106, 3), (54, .aload_n 0, 1), (55, .getfield 53, 3)]
theorem dtX6_commit_0_0_ok : dcAll cX6_commit dtX6_commit_0_0 = true := sorry
theorem dX6_commit_0 : decode cX6_commit 0 = .ok (.aload_n 0, 1) := sorry
theorem dX6_commit_1 : decode cX6_commit 1 = .ok (.aload_n 0, 1) := sorry
theorem dX6_commit_2 : decode cX6_commit 2 = .ok (.getfield 53, 3) := sorry
theorem dX6_commit_5 : decode cX6_commit 5 = .ok (.iconst 1, 1) := sorry
theorem dX6_commit_6 : decode cX6_commit 6 = .ok (.invokevirtual 145, 3) := sorry
theorem dX6_commit_9 : decode cX6_commit 9 = .ok (.istore_n 1, 1) := sorry
theorem dX6_commit_10 : decode cX6_commit 10 = .ok (.iload_n 1, 1) := sorry
theorem dX6_commit_11 : decode cX6_commit 11 = .ok (.ifCond .ne 33, 3) := sorry
theorem dX6_commit_14 : decode cX6_commit 14 = .ok (.aload_n 0, 1) := sorry
theorem dX6_commit_15 : decode cX6_commit 15 = .ok (.aload_n 0, 1) := sorry
theorem dX6_commit_16 : decode cX6_commit 16 = .ok (.getfield 53, 3) := sorry
theorem dX6_commit_19 : decode cX6_commit 19 = .ok (.invokevirtual 149, 3) := sorry
theorem dX6_commit_22 : decode cX6_commit 22 = .ok (.aload_n 0, 1) := sorry
theorem dX6_commit_23 : decode cX6_commit 23 = .ok (.dup, 1) := sorry
theorem dX6_commit_24 : decode cX6_commit 24 = .ok (.getfield 103, 3) := sorry
theorem dX6_commit_27 : decode cX6_commit 27 = .ok (.iconst 1, 1) := sorry
theorem dX6_commit_28 : decode cX6_commit 28 = .ok (.iadd, 1) := sorry
theorem dX6_commit_29 : decode cX6_commit 29 = .ok (.putfield 103, 3) := sorry
theorem dX6_commit_32 : decode cX6_commit 32 = .ok (.aload_n 0, 1) := sorry
theorem dX6_commit_33 : decode cX6_commit 33 = .ok (.invokevirtual 153, 3) := sorry
theorem dX6_commit_36 : decode cX6_commit 36 = .ok (.aload_n 0, 1) := sorry
theorem dX6_commit_37 : decode cX6_commit 37 = .ok (.invokevirtual 156, 3) := sorry
theorem dX6_commit_40 : decode cX6_commit 40 = .ok (.istore_n 1, 1) := sorry
theorem dX6_commit_41 : decode cX6_commit 41 = .ok (.goto 13, 3) := sorry
theorem dX6_commit_44 : decode cX6_commit 44 = .ok (.aload_n 0, 1) := sorry
theorem dX6_commit_45 : decode cX6_commit 45 = .ok (.dup, 1) := sorry
theorem dX6_commit_46 : decode cX6_commit 46 = .ok (.getfield 106, 3) := sorry
theorem dX6_commit_49 : decode cX6_commit 49 = .ok (.iconst 1, 1) := sorry
theorem dX6_commit_50 : decode cX6_commit 50 = .ok (.iadd, 1) := sorry
theorem dX6_commit_51 : decode cX6_commit 51 = .ok (.putfield 106, 3) := sorry
theorem dX6_commit_54 : decode cX6_commit 54 = .ok (.aload_n 0, 1) := sorry
theorem dX6_commit_55 : decode cX6_commit 55 = .ok (.getfield 53, 3) := sorry
def dtX6_commit_58_1 : List (Nat × Instr × Nat) := [(58, .iconst 0, 1), (59, .putfield 99, 3), (62, .iload_n 1, 1), (63, .ireturn, 1)]
theorem dtX6_commit_58_1_ok : dcAll cX6_commit dtX6_commit_58_1 = true := sorry
theorem dX6_commit_58 : decode cX6_commit 58 = .ok (.iconst 0, 1) := sorry
theorem dX6_commit_59 : decode cX6_commit 59 = .ok (.putfield 99, 3) := sorry
theorem dX6_commit_62 : decode cX6_commit 62 = .ok (.iload_n 1, 1) := sorry
theorem dX6_commit_63 : decode cX6_commit 63 = .ok (.ireturn, 1) := sorry
set_option maxRecDepth 20000 in
theorem ggX6_would_X6_isRelation : GoodIn wsX6_would wsX6_isRelation := sorry
set_option maxRecDepth 20000 in
theorem gX6_would_X6_isRelation : GoodIn wsX6_would (wsV RX6 109 RX6 yX6_isRelation wsX6_isRelation) := sorry
set_option maxRecDepth 20000 in
theorem ggX6_would_X6_reckonNext : GoodIn wsX6_would wsX6_reckonNext := sorry
set_option maxRecDepth 20000 in
theorem gX6_would_X6_reckonNext : GoodIn wsX6_would (wsV RX6 145 RX6 yX6_reckonNext wsX6_reckonNext) := sorry
def dtX6_would_0_0 : List (Nat × Instr × Nat) := [(0, .aload_n 0, 1), (1, .iload_n 1, 1), (2, .invokevirtual 109, 3), (5, .ifCond .ne 5, 3), (8, .iconst (-1), 1), (9, .ireturn, 1), (10, .aload_n 0, 1), (11, .aload_n 0, 1), (12, .getfield 53, 3), (15, .iconst 1, 1), (16, .invokevirtual 145, 3), (19, .istore_n 2, 1), (20, .iload_n 2, 1), (21, .ifCond .eq 7, 3), (24, .iload_n 2, 1), (25, .goto 12, 3), (28, .aload_n 0, 1), (29, .getfield 42, 3), (32, .iload_n 1, 1), (33, .aaload, 1), (34, .getfield 99, 3), (37, .ireturn, 1)]
theorem dtX6_would_0_0_ok : dcAll cX6_would dtX6_would_0_0 = true := sorry
theorem dX6_would_0 : decode cX6_would 0 = .ok (.aload_n 0, 1) := sorry
theorem dX6_would_1 : decode cX6_would 1 = .ok (.iload_n 1, 1) := sorry
theorem dX6_would_2 : decode cX6_would 2 = .ok (.invokevirtual 109, 3) := sorry
theorem dX6_would_5 : decode cX6_would 5 = .ok (.ifCond .ne 5, 3) := sorry
theorem dX6_would_8 : decode cX6_would 8 = .ok (.iconst (-1), 1) := sorry
theorem dX6_would_9 : decode cX6_would 9 = .ok (.ireturn, 1) := sorry
theorem dX6_would_10 : decode cX6_would 10 = .ok (.aload_n 0, 1) := sorry
theorem dX6_would_11 : decode cX6_would 11 = .ok (.aload_n 0, 1) := sorry
theorem dX6_would_12 : decode cX6_would 12 = .ok (.getfield 53, 3) := sorry
theorem dX6_would_15 : decode cX6_would 15 = .ok (.iconst 1, 1) := sorry
theorem dX6_would_16 : decode cX6_would 16 = .ok (.invokevirtual 145, 3) := sorry
theorem dX6_would_19 : decode cX6_would 19 = .ok (.istore_n 2, 1) := sorry
theorem dX6_would_20 : decode cX6_would 20 = .ok (.iload_n 2, 1) := sorry
theorem dX6_would_21 : decode cX6_would 21 = .ok (.ifCond .eq 7, 3) := sorry
theorem dX6_would_24 : decode cX6_would 24 = .ok (.iload_n 2, 1) := sorry
theorem dX6_would_25 : decode cX6_would 25 = .ok (.goto 12, 3) := sorry
theorem dX6_would_28 : decode cX6_would 28 = .ok (.aload_n 0, 1) := sorry
theorem dX6_would_29 : decode cX6_would 29 = .ok (.getfield 42, 3) := sorry
theorem dX6_would_32 : decode cX6_would 32 = .ok (.iload_n 1, 1) := sorry
theorem dX6_would_33 : decode cX6_would 33 = .ok (.aaload, 1) := sorry
theorem dX6_would_34 : decode cX6_would 34 = .ok (.getfield 99, 3) := sorry
theorem dX6_would_37 : decode cX6_would 37 = .ok (.ireturn, 1) := sorry
set_option maxRecDepth 20000 in
theorem ggX6_undo_X6_reckonNext : GoodIn wsX6_undo wsX6_reckonNext := sorry
set_option maxRecDepth 20000 in
theorem gX6_undo_X6_reckonNext : GoodIn wsX6_undo (wsV RX6 145 RX6 yX6_reckonNext wsX6_reckonNext) := sorry
set_option maxRecDepth 20000 in
theorem ggX6_undo_X6_takeNext : GoodIn wsX6_undo wsX6_takeNext := sorry
set_option maxRecDepth 20000 in
theorem gX6_undo_X6_takeNext : GoodIn wsX6_undo (wsV RX6 153 RX6 yX6_takeNext wsX6_takeNext) := sorry
def dtX6_undo_0_0 : List (Nat × Instr × Nat) := [(0, .aload_n 0, 1), (1, .getfield 100, 3), (4, .ifCond .ne 5, 3), (7, .iconst (-1), 1), (8, .ireturn, 1), (9, .aload_n 0, 1), (10, .dup, 1), (11, .getfield 100, 3), (14, .iconst 1, 1), (15, .isub, 1), (16, .putfield 100, 3), (19, .aload_n 0, 1), (20, .aload_n 0, 1), (21, .getfield 160, 3), (24, .bipush 8, 2), (26, .iadd, 1), (27, .iconst 1, 1), (28, .isub, 1), (29, .bipush 8, 2), (31, .irem, 1), (32, .putfield 160, 3), (35, .aload_n 0, 1), (36, .aload_n 0, 1), (37, .getfield 74, 3), (40, .aload_n 0, 1), (41, .getfield 160, 3), (44, .aaload, 1), (45, .iconst (-1), 1), (46, .invokevirtual 145, 3), (49, .pop, 1), (50, .aload_n 0, 1), (51, .invokevirtual 153, 3)]
theorem dtX6_undo_0_0_ok : dcAll cX6_undo dtX6_undo_0_0 = true := sorry
theorem dX6_undo_0 : decode cX6_undo 0 = .ok (.aload_n 0, 1) := sorry
theorem dX6_undo_1 : decode cX6_undo 1 = .ok (.getfield 100, 3) := sorry
theorem dX6_undo_4 : decode cX6_undo 4 = .ok (.ifCond .ne 5, 3) := sorry
theorem dX6_undo_7 : decode cX6_undo 7 = .ok (.iconst (-1), 1) := sorry
theorem dX6_undo_8 : decode cX6_undo 8 = .ok (.ireturn, 1) := sorry
theorem dX6_undo_9 : decode cX6_undo 9 = .ok (.aload_n 0, 1) := sorry
theorem dX6_undo_10 : decode cX6_undo 10 = .ok (.dup, 1) := sorry
theorem dX6_undo_11 : decode cX6_undo 11 = .ok (.getfield 100, 3) := sorry
theorem dX6_undo_14 : decode cX6_undo 14 = .ok (.iconst 1, 1) := sorry
theorem dX6_undo_15 : decode cX6_undo 15 = .ok (.isub, 1) := sorry
theorem dX6_undo_16 : decode cX6_undo 16 = .ok (.putfield 100, 3) := sorry
theorem dX6_undo_19 : decode cX6_undo 19 = .ok (.aload_n 0, 1) := sorry
theorem dX6_undo_20 : decode cX6_undo 20 = .ok (.aload_n 0, 1) := sorry
theorem dX6_undo_21 : decode cX6_undo 21 = .ok (.getfield 160, 3) := sorry
theorem dX6_undo_24 : decode cX6_undo 24 = .ok (.bipush 8, 2) := sorry
theorem dX6_undo_26 : decode cX6_undo 26 = .ok (.iadd, 1) := sorry
theorem dX6_undo_27 : decode cX6_undo 27 = .ok (.iconst 1, 1) := sorry
theorem dX6_undo_28 : decode cX6_undo 28 = .ok (.isub, 1) := sorry
theorem dX6_undo_29 : decode cX6_undo 29 = .ok (.bipush 8, 2) := sorry
theorem dX6_undo_31 : decode cX6_undo 31 = .ok (.irem, 1) := sorry
theorem dX6_undo_32 : decode cX6_undo 32 = .ok (.putfield 160, 3) := sorry
theorem dX6_undo_35 : decode cX6_undo 35 = .ok (.aload_n 0, 1) := sorry
theorem dX6_undo_36 : decode cX6_undo 36 = .ok (.aload_n 0, 1) := sorry
theorem dX6_undo_37 : decode cX6_undo 37 = .ok (.getfield 74, 3) := sorry
theorem dX6_undo_40 : decode cX6_undo 40 = .ok (.aload_n 0, 1) := sorry
theorem dX6_undo_41 : decode cX6_undo 41 = .ok (.getfield 160, 3) := sorry
theorem dX6_undo_44 : decode cX6_undo 44 = .ok (.aaload, 1) := sorry
theorem dX6_undo_45 : decode cX6_undo 45 = .ok (.iconst (-1), 1) := sorry
theorem dX6_undo_46 : decode cX6_undo 46 = .ok (.invokevirtual 145, 3) := sorry
theorem dX6_undo_49 : decode cX6_undo 49 = .ok (.pop, 1) := sorry
theorem dX6_undo_50 : decode cX6_undo 50 = .ok (.aload_n 0, 1) := sorry
theorem dX6_undo_51 : decode cX6_undo 51 = .ok (.invokevirtual 153, 3) := sorry
def dtX6_undo_54_1 : List (Nat × Instr × Nat) := [(54, .aload_n 0, 1), (55, .getfield 100, 3), (58, .ireturn, 1)]
theorem dtX6_undo_54_1_ok : dcAll cX6_undo dtX6_undo_54_1 = true := sorry
theorem dX6_undo_54 : decode cX6_undo 54 = .ok (.aload_n 0, 1) := sorry
theorem dX6_undo_55 : decode cX6_undo 55 = .ok (.getfield 100, 3) := sorry
theorem dX6_undo_58 : decode cX6_undo 58 = .ok (.ireturn, 1) := sorry
set_option maxRecDepth 20000 in
theorem ggX6_remember_X4_copyFrom : GoodIn wsX6_remember wsX4_copyFrom := sorry
set_option maxRecDepth 20000 in
theorem gX6_remember_X4_copyFrom : GoodIn wsX6_remember (wsV RX6 163 RX4 yX4_copyFrom wsX4_copyFrom) := sorry
def dtX6_remember_0_0 : List (Nat × Instr × Nat) := [(0, .aload_n 0, 1), (1, .getfield 74, 3), (4, .aload_n 0, 1), (5, .getfield 160, 3), (8, .aaload, 1), (9, .aload_n 1, 1), (10, .invokevirtual 163, 3), (13, .aload_n 0, 1), (14, .aload_n 0, 1), (15, .getfield 160, 3), (18, .iconst 1, 1), (19, .iadd, 1), (20, .bipush 8, 2), (22, .irem, 1), (23, .putfield 160, 3), (26, .aload_n 0, 1), (27, .aload_n 0, 1), (28, .getfield 100, 3), (31, .iconst 1, 1), (32, .iadd, 1), (33, .bipush 8, 2), (35, .invokestatic 166, 3), (38, .putfield 100, 3), (41, .return_, 1)]
theorem dtX6_remember_0_0_ok : dcAll cX6_remember dtX6_remember_0_0 = true := sorry
theorem dX6_remember_0 : decode cX6_remember 0 = .ok (.aload_n 0, 1) := sorry
theorem dX6_remember_1 : decode cX6_remember 1 = .ok (.getfield 74, 3) := sorry
theorem dX6_remember_4 : decode cX6_remember 4 = .ok (.aload_n 0, 1) := sorry
theorem dX6_remember_5 : decode cX6_remember 5 = .ok (.getfield 160, 3) := sorry
theorem dX6_remember_8 : decode cX6_remember 8 = .ok (.aaload, 1) := sorry
theorem dX6_remember_9 : decode cX6_remember 9 = .ok (.aload_n 1, 1) := sorry
theorem dX6_remember_10 : decode cX6_remember 10 = .ok (.invokevirtual 163, 3) := sorry
theorem dX6_remember_13 : decode cX6_remember 13 = .ok (.aload_n 0, 1) := sorry
theorem dX6_remember_14 : decode cX6_remember 14 = .ok (.aload_n 0, 1) := sorry
theorem dX6_remember_15 : decode cX6_remember 15 = .ok (.getfield 160, 3) := sorry
theorem dX6_remember_18 : decode cX6_remember 18 = .ok (.iconst 1, 1) := sorry
theorem dX6_remember_19 : decode cX6_remember 19 = .ok (.iadd, 1) := sorry
theorem dX6_remember_20 : decode cX6_remember 20 = .ok (.bipush 8, 2) := sorry
theorem dX6_remember_22 : decode cX6_remember 22 = .ok (.irem, 1) := sorry
theorem dX6_remember_23 : decode cX6_remember 23 = .ok (.putfield 160, 3) := sorry
theorem dX6_remember_26 : decode cX6_remember 26 = .ok (.aload_n 0, 1) := sorry
theorem dX6_remember_27 : decode cX6_remember 27 = .ok (.aload_n 0, 1) := sorry
theorem dX6_remember_28 : decode cX6_remember 28 = .ok (.getfield 100, 3) := sorry
theorem dX6_remember_31 : decode cX6_remember 31 = .ok (.iconst 1, 1) := sorry
theorem dX6_remember_32 : decode cX6_remember 32 = .ok (.iadd, 1) := sorry
theorem dX6_remember_33 : decode cX6_remember 33 = .ok (.bipush 8, 2) := sorry
theorem dX6_remember_35 : decode cX6_remember 35 = .ok (.invokestatic 166, 3) := sorry
theorem dX6_remember_38 : decode cX6_remember 38 = .ok (.putfield 100, 3) := sorry
theorem dX6_remember_41 : decode cX6_remember 41 = .ok (.return_, 1) := sorry
set_option maxRecDepth 20000 in
theorem ggX6_reckonNext_X6_fallsBelowZero : GoodIn wsX6_reckonNext wsX6_fallsBelowZero := sorry
set_option maxRecDepth 20000 in
theorem gX6_reckonNext_X6_fallsBelowZero : GoodIn wsX6_reckonNext (wsV RX6 171 RX6 yX6_fallsBelowZero wsX6_fallsBelowZero) := sorry
set_option maxRecDepth 20000 in
theorem ggX6_reckonNext_X6_pickChanges : GoodIn wsX6_reckonNext wsX6_pickChanges := sorry
set_option maxRecDepth 20000 in
theorem gX6_reckonNext_X6_pickChanges : GoodIn wsX6_reckonNext (wsV RX6 175 RX6 yX6_pickChanges wsX6_pickChanges) := sorry
set_option maxRecDepth 20000 in
theorem ggX6_reckonNext_X4_gather : GoodIn wsX6_reckonNext wsX4_gather := sorry
set_option maxRecDepth 20000 in
theorem gX6_reckonNext_X4_gather : GoodIn wsX6_reckonNext (wsV RX6 179 RX4 yX4_gather wsX4_gather) := sorry
set_option maxRecDepth 20000 in
theorem ggX6_reckonNext_X3_reckon : GoodIn wsX6_reckonNext wsX3_reckon := sorry
set_option maxRecDepth 20000 in
theorem gX6_reckonNext_X3_reckon : GoodIn wsX6_reckonNext (wsV RX6 183 RX3 yX3_reckon wsX3_reckon) := sorry
def dtX6_reckonNext_0_0 : List (Nat × Instr × Nat) := [(0, .aload_n 0, 1), (1, .aload_n 1, 1), (2, .iload_n 2, 1), (3, .invokevirtual 171, 3), (6, .ifCond .eq 6, 3), (9, .bipush (-2), 2), (11, .ireturn, 1), (12, .iconst 0, 1), (13, .istore_n 3, 1), (14, .iload_n 3, 1), (15, .aload_n 0, 1), (16, .getfield 23, 3), (19, .getfield 122, 3), (22, .if_icmp .ge 41, 3), (25, .aload_n 0, 1), (26, .aload_n 1, 1), (27, .iload_n 3, 1), (28, .invokevirtual 175, 3), (31, .aload_n 0, 1), (32, .getfield 42, 3), (35, .iload_n 3, 1), (36, .aaload, 1), (37, .aload_n 0, 1), (38, .getfield 38, 3), (41, .iload_n 3, 1), (42, .aaload, 1), (43, .aload_n 0, 1), (44, .getfield 60, 3), (47, .iload_n 2, 1), (48, .invokevirtual 179, 3), (51, .ifCond .ne 6, 3), (54, .bipush (-3), 2)]
theorem dtX6_reckonNext_0_0_ok : dcAll cX6_reckonNext dtX6_reckonNext_0_0 = true := sorry
theorem dX6_reckonNext_0 : decode cX6_reckonNext 0 = .ok (.aload_n 0, 1) := sorry
theorem dX6_reckonNext_1 : decode cX6_reckonNext 1 = .ok (.aload_n 1, 1) := sorry
theorem dX6_reckonNext_2 : decode cX6_reckonNext 2 = .ok (.iload_n 2, 1) := sorry
theorem dX6_reckonNext_3 : decode cX6_reckonNext 3 = .ok (.invokevirtual 171, 3) := sorry
theorem dX6_reckonNext_6 : decode cX6_reckonNext 6 = .ok (.ifCond .eq 6, 3) := sorry
theorem dX6_reckonNext_9 : decode cX6_reckonNext 9 = .ok (.bipush (-2), 2) := sorry
theorem dX6_reckonNext_11 : decode cX6_reckonNext 11 = .ok (.ireturn, 1) := sorry
theorem dX6_reckonNext_12 : decode cX6_reckonNext 12 = .ok (.iconst 0, 1) := sorry
theorem dX6_reckonNext_13 : decode cX6_reckonNext 13 = .ok (.istore_n 3, 1) := sorry
theorem dX6_reckonNext_14 : decode cX6_reckonNext 14 = .ok (.iload_n 3, 1) := sorry
theorem dX6_reckonNext_15 : decode cX6_reckonNext 15 = .ok (.aload_n 0, 1) := sorry
theorem dX6_reckonNext_16 : decode cX6_reckonNext 16 = .ok (.getfield 23, 3) := sorry
theorem dX6_reckonNext_19 : decode cX6_reckonNext 19 = .ok (.getfield 122, 3) := sorry
theorem dX6_reckonNext_22 : decode cX6_reckonNext 22 = .ok (.if_icmp .ge 41, 3) := sorry
theorem dX6_reckonNext_25 : decode cX6_reckonNext 25 = .ok (.aload_n 0, 1) := sorry
theorem dX6_reckonNext_26 : decode cX6_reckonNext 26 = .ok (.aload_n 1, 1) := sorry
theorem dX6_reckonNext_27 : decode cX6_reckonNext 27 = .ok (.iload_n 3, 1) := sorry
theorem dX6_reckonNext_28 : decode cX6_reckonNext 28 = .ok (.invokevirtual 175, 3) := sorry
theorem dX6_reckonNext_31 : decode cX6_reckonNext 31 = .ok (.aload_n 0, 1) := sorry
theorem dX6_reckonNext_32 : decode cX6_reckonNext 32 = .ok (.getfield 42, 3) := sorry
theorem dX6_reckonNext_35 : decode cX6_reckonNext 35 = .ok (.iload_n 3, 1) := sorry
theorem dX6_reckonNext_36 : decode cX6_reckonNext 36 = .ok (.aaload, 1) := sorry
theorem dX6_reckonNext_37 : decode cX6_reckonNext 37 = .ok (.aload_n 0, 1) := sorry
theorem dX6_reckonNext_38 : decode cX6_reckonNext 38 = .ok (.getfield 38, 3) := sorry
theorem dX6_reckonNext_41 : decode cX6_reckonNext 41 = .ok (.iload_n 3, 1) := sorry
theorem dX6_reckonNext_42 : decode cX6_reckonNext 42 = .ok (.aaload, 1) := sorry
theorem dX6_reckonNext_43 : decode cX6_reckonNext 43 = .ok (.aload_n 0, 1) := sorry
theorem dX6_reckonNext_44 : decode cX6_reckonNext 44 = .ok (.getfield 60, 3) := sorry
theorem dX6_reckonNext_47 : decode cX6_reckonNext 47 = .ok (.iload_n 2, 1) := sorry
theorem dX6_reckonNext_48 : decode cX6_reckonNext 48 = .ok (.invokevirtual 179, 3) := sorry
theorem dX6_reckonNext_51 : decode cX6_reckonNext 51 = .ok (.ifCond .ne 6, 3) := sorry
theorem dX6_reckonNext_54 : decode cX6_reckonNext 54 = .ok (.bipush (-3), 2) := sorry
def dtX6_reckonNext_56_1 : List (Nat × Instr × Nat) := [(56, .ireturn, 1), (57, .iinc 3 1, 3), (60, .goto (-46), 3), (63, .aload_n 0, 1), (64, .getfield 23, 3), (67, .getfield 122, 3), (70, .istore_n 3, 1), (71, .iload_n 3, 1), (72, .aload_n 0, 1), (73, .getfield 23, 3), (76, .getfield 96, 3), (79, .if_icmp .ge 45, 3), (82, .aload_n 0, 1), (83, .getfield 30, 3), (86, .aload_n 0, 1), (87, .getfield 23, 3), (90, .getfield 113, 3), (93, .iload_n 3, 1), (94, .aaload, 1), (95, .aload_n 0, 1), (96, .getfield 42, 3), (99, .aload_n 0, 1), (100, .getfield 42, 3), (103, .iload_n 3, 1), (104, .aaload, 1), (105, .invokevirtual 183, 3), (108, .istore 4, 2), (110, .iload 4, 2), (112, .ifCond .eq 6, 3), (115, .iload 4, 2), (117, .ireturn, 1), (118, .iinc 3 1, 3)]
theorem dtX6_reckonNext_56_1_ok : dcAll cX6_reckonNext dtX6_reckonNext_56_1 = true := sorry
theorem dX6_reckonNext_56 : decode cX6_reckonNext 56 = .ok (.ireturn, 1) := sorry
theorem dX6_reckonNext_57 : decode cX6_reckonNext 57 = .ok (.iinc 3 1, 3) := sorry
theorem dX6_reckonNext_60 : decode cX6_reckonNext 60 = .ok (.goto (-46), 3) := sorry
theorem dX6_reckonNext_63 : decode cX6_reckonNext 63 = .ok (.aload_n 0, 1) := sorry
theorem dX6_reckonNext_64 : decode cX6_reckonNext 64 = .ok (.getfield 23, 3) := sorry
theorem dX6_reckonNext_67 : decode cX6_reckonNext 67 = .ok (.getfield 122, 3) := sorry
theorem dX6_reckonNext_70 : decode cX6_reckonNext 70 = .ok (.istore_n 3, 1) := sorry
theorem dX6_reckonNext_71 : decode cX6_reckonNext 71 = .ok (.iload_n 3, 1) := sorry
theorem dX6_reckonNext_72 : decode cX6_reckonNext 72 = .ok (.aload_n 0, 1) := sorry
theorem dX6_reckonNext_73 : decode cX6_reckonNext 73 = .ok (.getfield 23, 3) := sorry
theorem dX6_reckonNext_76 : decode cX6_reckonNext 76 = .ok (.getfield 96, 3) := sorry
theorem dX6_reckonNext_79 : decode cX6_reckonNext 79 = .ok (.if_icmp .ge 45, 3) := sorry
theorem dX6_reckonNext_82 : decode cX6_reckonNext 82 = .ok (.aload_n 0, 1) := sorry
theorem dX6_reckonNext_83 : decode cX6_reckonNext 83 = .ok (.getfield 30, 3) := sorry
theorem dX6_reckonNext_86 : decode cX6_reckonNext 86 = .ok (.aload_n 0, 1) := sorry
theorem dX6_reckonNext_87 : decode cX6_reckonNext 87 = .ok (.getfield 23, 3) := sorry
theorem dX6_reckonNext_90 : decode cX6_reckonNext 90 = .ok (.getfield 113, 3) := sorry
theorem dX6_reckonNext_93 : decode cX6_reckonNext 93 = .ok (.iload_n 3, 1) := sorry
theorem dX6_reckonNext_94 : decode cX6_reckonNext 94 = .ok (.aaload, 1) := sorry
theorem dX6_reckonNext_95 : decode cX6_reckonNext 95 = .ok (.aload_n 0, 1) := sorry
theorem dX6_reckonNext_96 : decode cX6_reckonNext 96 = .ok (.getfield 42, 3) := sorry
theorem dX6_reckonNext_99 : decode cX6_reckonNext 99 = .ok (.aload_n 0, 1) := sorry
theorem dX6_reckonNext_100 : decode cX6_reckonNext 100 = .ok (.getfield 42, 3) := sorry
theorem dX6_reckonNext_103 : decode cX6_reckonNext 103 = .ok (.iload_n 3, 1) := sorry
theorem dX6_reckonNext_104 : decode cX6_reckonNext 104 = .ok (.aaload, 1) := sorry
theorem dX6_reckonNext_105 : decode cX6_reckonNext 105 = .ok (.invokevirtual 183, 3) := sorry
theorem dX6_reckonNext_108 : decode cX6_reckonNext 108 = .ok (.istore 4, 2) := sorry
theorem dX6_reckonNext_110 : decode cX6_reckonNext 110 = .ok (.iload 4, 2) := sorry
theorem dX6_reckonNext_112 : decode cX6_reckonNext 112 = .ok (.ifCond .eq 6, 3) := sorry
theorem dX6_reckonNext_115 : decode cX6_reckonNext 115 = .ok (.iload 4, 2) := sorry
theorem dX6_reckonNext_117 : decode cX6_reckonNext 117 = .ok (.ireturn, 1) := sorry
theorem dX6_reckonNext_118 : decode cX6_reckonNext 118 = .ok (.iinc 3 1, 3) := sorry
def dtX6_reckonNext_121_2 : List (Nat × Instr × Nat) := [(121, .goto (-50), 3), (124, .iconst 0, 1), (125, .ireturn, 1)]
theorem dtX6_reckonNext_121_2_ok : dcAll cX6_reckonNext dtX6_reckonNext_121_2 = true := sorry
theorem dX6_reckonNext_121 : decode cX6_reckonNext 121 = .ok (.goto (-50), 3) := sorry
theorem dX6_reckonNext_124 : decode cX6_reckonNext 124 = .ok (.iconst 0, 1) := sorry
theorem dX6_reckonNext_125 : decode cX6_reckonNext 125 = .ok (.ireturn, 1) := sorry
set_option maxRecDepth 20000 in
theorem ggX6_fallsBelowZero_X4_copyKey : GoodIn wsX6_fallsBelowZero wsX4_copyKey := sorry
set_option maxRecDepth 20000 in
theorem gX6_fallsBelowZero_X4_copyKey : GoodIn wsX6_fallsBelowZero (wsV RX6 187 RX4 yX4_copyKey wsX4_copyKey) := sorry
set_option maxRecDepth 20000 in
theorem ggX6_fallsBelowZero_X4_cell : GoodIn wsX6_fallsBelowZero wsX4_cell := sorry
set_option maxRecDepth 20000 in
theorem gX6_fallsBelowZero_X4_cell : GoodIn wsX6_fallsBelowZero (wsV RX6 139 RX4 yX4_cell wsX4_cell) := sorry
set_option maxRecDepth 20000 in
theorem ggX6_fallsBelowZero_X4_amountOf : GoodIn wsX6_fallsBelowZero wsX4_amountOf := sorry
set_option maxRecDepth 20000 in
theorem gX6_fallsBelowZero_X4_amountOf : GoodIn wsX6_fallsBelowZero (wsV RX6 191 RX4 yX4_amountOf wsX4_amountOf) := sorry
set_option maxRecDepth 20000 in
theorem ggX6_fallsBelowZero_X4_amount : GoodIn wsX6_fallsBelowZero wsX4_amount := sorry
set_option maxRecDepth 20000 in
theorem gX6_fallsBelowZero_X4_amount : GoodIn wsX6_fallsBelowZero (wsV RX6 195 RX4 yX4_amount wsX4_amount) := sorry
def dtX6_fallsBelowZero_0_0 : List (Nat × Instr × Nat) := [(0, .iconst 0, 1), (1, .istore_n 3, 1), (2, .iload_n 3, 1), (3, .aload_n 1, 1), (4, .getfield 99, 3), (7, .if_icmp .ge 54, 3), (10, .aload_n 1, 1), (11, .iload_n 3, 1), (12, .iconst 1, 1), (13, .aload_n 0, 1), (14, .getfield 66, 3), (17, .invokevirtual 187, 3), (20, .aload_n 0, 1), (21, .getfield 38, 3), (24, .aload_n 1, 1), (25, .iload_n 3, 1), (26, .iconst 0, 1), (27, .invokevirtual 139, 3), (30, .aaload, 1), (31, .aload_n 0, 1), (32, .getfield 66, 3), (35, .invokevirtual 191, 3), (38, .istore 4, 2), (40, .iload 4, 2), (42, .iload_n 2, 1), (43, .aload_n 1, 1), (44, .iload_n 3, 1), (45, .invokevirtual 195, 3), (48, .imul, 1), (49, .iadd, 1), (50, .ifCond .ge 5, 3), (53, .iconst 1, 1)]
theorem dtX6_fallsBelowZero_0_0_ok : dcAll cX6_fallsBelowZero dtX6_fallsBelowZero_0_0 = true := sorry
theorem dX6_fallsBelowZero_0 : decode cX6_fallsBelowZero 0 = .ok (.iconst 0, 1) := sorry
theorem dX6_fallsBelowZero_1 : decode cX6_fallsBelowZero 1 = .ok (.istore_n 3, 1) := sorry
theorem dX6_fallsBelowZero_2 : decode cX6_fallsBelowZero 2 = .ok (.iload_n 3, 1) := sorry
theorem dX6_fallsBelowZero_3 : decode cX6_fallsBelowZero 3 = .ok (.aload_n 1, 1) := sorry
theorem dX6_fallsBelowZero_4 : decode cX6_fallsBelowZero 4 = .ok (.getfield 99, 3) := sorry
theorem dX6_fallsBelowZero_7 : decode cX6_fallsBelowZero 7 = .ok (.if_icmp .ge 54, 3) := sorry
theorem dX6_fallsBelowZero_10 : decode cX6_fallsBelowZero 10 = .ok (.aload_n 1, 1) := sorry
theorem dX6_fallsBelowZero_11 : decode cX6_fallsBelowZero 11 = .ok (.iload_n 3, 1) := sorry
theorem dX6_fallsBelowZero_12 : decode cX6_fallsBelowZero 12 = .ok (.iconst 1, 1) := sorry
theorem dX6_fallsBelowZero_13 : decode cX6_fallsBelowZero 13 = .ok (.aload_n 0, 1) := sorry
theorem dX6_fallsBelowZero_14 : decode cX6_fallsBelowZero 14 = .ok (.getfield 66, 3) := sorry
theorem dX6_fallsBelowZero_17 : decode cX6_fallsBelowZero 17 = .ok (.invokevirtual 187, 3) := sorry
theorem dX6_fallsBelowZero_20 : decode cX6_fallsBelowZero 20 = .ok (.aload_n 0, 1) := sorry
theorem dX6_fallsBelowZero_21 : decode cX6_fallsBelowZero 21 = .ok (.getfield 38, 3) := sorry
theorem dX6_fallsBelowZero_24 : decode cX6_fallsBelowZero 24 = .ok (.aload_n 1, 1) := sorry
theorem dX6_fallsBelowZero_25 : decode cX6_fallsBelowZero 25 = .ok (.iload_n 3, 1) := sorry
theorem dX6_fallsBelowZero_26 : decode cX6_fallsBelowZero 26 = .ok (.iconst 0, 1) := sorry
theorem dX6_fallsBelowZero_27 : decode cX6_fallsBelowZero 27 = .ok (.invokevirtual 139, 3) := sorry
theorem dX6_fallsBelowZero_30 : decode cX6_fallsBelowZero 30 = .ok (.aaload, 1) := sorry
theorem dX6_fallsBelowZero_31 : decode cX6_fallsBelowZero 31 = .ok (.aload_n 0, 1) := sorry
theorem dX6_fallsBelowZero_32 : decode cX6_fallsBelowZero 32 = .ok (.getfield 66, 3) := sorry
theorem dX6_fallsBelowZero_35 : decode cX6_fallsBelowZero 35 = .ok (.invokevirtual 191, 3) := sorry
theorem dX6_fallsBelowZero_38 : decode cX6_fallsBelowZero 38 = .ok (.istore 4, 2) := sorry
theorem dX6_fallsBelowZero_40 : decode cX6_fallsBelowZero 40 = .ok (.iload 4, 2) := sorry
theorem dX6_fallsBelowZero_42 : decode cX6_fallsBelowZero 42 = .ok (.iload_n 2, 1) := sorry
theorem dX6_fallsBelowZero_43 : decode cX6_fallsBelowZero 43 = .ok (.aload_n 1, 1) := sorry
theorem dX6_fallsBelowZero_44 : decode cX6_fallsBelowZero 44 = .ok (.iload_n 3, 1) := sorry
theorem dX6_fallsBelowZero_45 : decode cX6_fallsBelowZero 45 = .ok (.invokevirtual 195, 3) := sorry
theorem dX6_fallsBelowZero_48 : decode cX6_fallsBelowZero 48 = .ok (.imul, 1) := sorry
theorem dX6_fallsBelowZero_49 : decode cX6_fallsBelowZero 49 = .ok (.iadd, 1) := sorry
theorem dX6_fallsBelowZero_50 : decode cX6_fallsBelowZero 50 = .ok (.ifCond .ge 5, 3) := sorry
theorem dX6_fallsBelowZero_53 : decode cX6_fallsBelowZero 53 = .ok (.iconst 1, 1) := sorry
def dtX6_fallsBelowZero_54_1 : List (Nat × Instr × Nat) := [(54, .ireturn, 1), (55, .iinc 3 1, 3), (58, .goto (-56), 3), (61, .iconst 0, 1), (62, .ireturn, 1)]
theorem dtX6_fallsBelowZero_54_1_ok : dcAll cX6_fallsBelowZero dtX6_fallsBelowZero_54_1 = true := sorry
theorem dX6_fallsBelowZero_54 : decode cX6_fallsBelowZero 54 = .ok (.ireturn, 1) := sorry
theorem dX6_fallsBelowZero_55 : decode cX6_fallsBelowZero 55 = .ok (.iinc 3 1, 3) := sorry
theorem dX6_fallsBelowZero_58 : decode cX6_fallsBelowZero 58 = .ok (.goto (-56), 3) := sorry
theorem dX6_fallsBelowZero_61 : decode cX6_fallsBelowZero 61 = .ok (.iconst 0, 1) := sorry
theorem dX6_fallsBelowZero_62 : decode cX6_fallsBelowZero 62 = .ok (.ireturn, 1) := sorry
set_option maxRecDepth 20000 in
theorem ggX6_pickChanges_X4_cell : GoodIn wsX6_pickChanges wsX4_cell := sorry
set_option maxRecDepth 20000 in
theorem gX6_pickChanges_X4_cell : GoodIn wsX6_pickChanges (wsV RX6 139 RX4 yX4_cell wsX4_cell) := sorry
set_option maxRecDepth 20000 in
theorem ggX6_pickChanges_X4_copyKey : GoodIn wsX6_pickChanges wsX4_copyKey := sorry
set_option maxRecDepth 20000 in
theorem gX6_pickChanges_X4_copyKey : GoodIn wsX6_pickChanges (wsV RX6 187 RX4 yX4_copyKey wsX4_copyKey) := sorry
set_option maxRecDepth 20000 in
theorem ggX6_pickChanges_X4_amount : GoodIn wsX6_pickChanges wsX4_amount := sorry
set_option maxRecDepth 20000 in
theorem gX6_pickChanges_X4_amount : GoodIn wsX6_pickChanges (wsV RX6 195 RX4 yX4_amount wsX4_amount) := sorry
set_option maxRecDepth 20000 in
theorem ggX6_pickChanges_X4_insert : GoodIn wsX6_pickChanges wsX4_insert := sorry
set_option maxRecDepth 20000 in
theorem gX6_pickChanges_X4_insert : GoodIn wsX6_pickChanges (wsV RX6 199 RX4 yX4_insert wsX4_insert) := sorry
def dtX6_pickChanges_0_0 : List (Nat × Instr × Nat) := [(0, .aload_n 0, 1), (1, .getfield 60, 3), (4, .iconst 0, 1), (5, .putfield 99, 3), (8, .iconst 0, 1), (9, .istore_n 3, 1), (10, .iload_n 3, 1), (11, .aload_n 1, 1), (12, .getfield 99, 3), (15, .if_icmp .ge 53, 3), (18, .aload_n 1, 1), (19, .iload_n 3, 1), (20, .iconst 0, 1), (21, .invokevirtual 139, 3), (24, .iload_n 2, 1), (25, .if_icmp .ne 37, 3), (28, .aload_n 1, 1), (29, .iload_n 3, 1), (30, .iconst 1, 1), (31, .aload_n 0, 1), (32, .getfield 66, 3), (35, .invokevirtual 187, 3), (38, .aload_n 0, 1), (39, .getfield 60, 3), (42, .aload_n 0, 1), (43, .getfield 60, 3), (46, .getfield 99, 3), (49, .aload_n 0, 1), (50, .getfield 66, 3), (53, .aload_n 1, 1), (54, .iload_n 3, 1), (55, .invokevirtual 195, 3)]
theorem dtX6_pickChanges_0_0_ok : dcAll cX6_pickChanges dtX6_pickChanges_0_0 = true := sorry
theorem dX6_pickChanges_0 : decode cX6_pickChanges 0 = .ok (.aload_n 0, 1) := sorry
theorem dX6_pickChanges_1 : decode cX6_pickChanges 1 = .ok (.getfield 60, 3) := sorry
theorem dX6_pickChanges_4 : decode cX6_pickChanges 4 = .ok (.iconst 0, 1) := sorry
theorem dX6_pickChanges_5 : decode cX6_pickChanges 5 = .ok (.putfield 99, 3) := sorry
theorem dX6_pickChanges_8 : decode cX6_pickChanges 8 = .ok (.iconst 0, 1) := sorry
theorem dX6_pickChanges_9 : decode cX6_pickChanges 9 = .ok (.istore_n 3, 1) := sorry
theorem dX6_pickChanges_10 : decode cX6_pickChanges 10 = .ok (.iload_n 3, 1) := sorry
theorem dX6_pickChanges_11 : decode cX6_pickChanges 11 = .ok (.aload_n 1, 1) := sorry
theorem dX6_pickChanges_12 : decode cX6_pickChanges 12 = .ok (.getfield 99, 3) := sorry
theorem dX6_pickChanges_15 : decode cX6_pickChanges 15 = .ok (.if_icmp .ge 53, 3) := sorry
theorem dX6_pickChanges_18 : decode cX6_pickChanges 18 = .ok (.aload_n 1, 1) := sorry
theorem dX6_pickChanges_19 : decode cX6_pickChanges 19 = .ok (.iload_n 3, 1) := sorry
theorem dX6_pickChanges_20 : decode cX6_pickChanges 20 = .ok (.iconst 0, 1) := sorry
theorem dX6_pickChanges_21 : decode cX6_pickChanges 21 = .ok (.invokevirtual 139, 3) := sorry
theorem dX6_pickChanges_24 : decode cX6_pickChanges 24 = .ok (.iload_n 2, 1) := sorry
theorem dX6_pickChanges_25 : decode cX6_pickChanges 25 = .ok (.if_icmp .ne 37, 3) := sorry
theorem dX6_pickChanges_28 : decode cX6_pickChanges 28 = .ok (.aload_n 1, 1) := sorry
theorem dX6_pickChanges_29 : decode cX6_pickChanges 29 = .ok (.iload_n 3, 1) := sorry
theorem dX6_pickChanges_30 : decode cX6_pickChanges 30 = .ok (.iconst 1, 1) := sorry
theorem dX6_pickChanges_31 : decode cX6_pickChanges 31 = .ok (.aload_n 0, 1) := sorry
theorem dX6_pickChanges_32 : decode cX6_pickChanges 32 = .ok (.getfield 66, 3) := sorry
theorem dX6_pickChanges_35 : decode cX6_pickChanges 35 = .ok (.invokevirtual 187, 3) := sorry
theorem dX6_pickChanges_38 : decode cX6_pickChanges 38 = .ok (.aload_n 0, 1) := sorry
theorem dX6_pickChanges_39 : decode cX6_pickChanges 39 = .ok (.getfield 60, 3) := sorry
theorem dX6_pickChanges_42 : decode cX6_pickChanges 42 = .ok (.aload_n 0, 1) := sorry
theorem dX6_pickChanges_43 : decode cX6_pickChanges 43 = .ok (.getfield 60, 3) := sorry
theorem dX6_pickChanges_46 : decode cX6_pickChanges 46 = .ok (.getfield 99, 3) := sorry
theorem dX6_pickChanges_49 : decode cX6_pickChanges 49 = .ok (.aload_n 0, 1) := sorry
theorem dX6_pickChanges_50 : decode cX6_pickChanges 50 = .ok (.getfield 66, 3) := sorry
theorem dX6_pickChanges_53 : decode cX6_pickChanges 53 = .ok (.aload_n 1, 1) := sorry
theorem dX6_pickChanges_54 : decode cX6_pickChanges 54 = .ok (.iload_n 3, 1) := sorry
theorem dX6_pickChanges_55 : decode cX6_pickChanges 55 = .ok (.invokevirtual 195, 3) := sorry
def dtX6_pickChanges_58_1 : List (Nat × Instr × Nat) := [(58, .invokevirtual 199, 3), (61, .pop, 1), (62, .iinc 3 1, 3), (65, .goto (-55), 3), (68, .return_, 1)]
theorem dtX6_pickChanges_58_1_ok : dcAll cX6_pickChanges dtX6_pickChanges_58_1 = true := sorry
theorem dX6_pickChanges_58 : decode cX6_pickChanges 58 = .ok (.invokevirtual 199, 3) := sorry
theorem dX6_pickChanges_61 : decode cX6_pickChanges 61 = .ok (.pop, 1) := sorry
theorem dX6_pickChanges_62 : decode cX6_pickChanges 62 = .ok (.iinc 3 1, 3) := sorry
theorem dX6_pickChanges_65 : decode cX6_pickChanges 65 = .ok (.goto (-55), 3) := sorry
theorem dX6_pickChanges_68 : decode cX6_pickChanges 68 = .ok (.return_, 1) := sorry
set_option maxRecDepth 20000 in
theorem ggX6_takeNext_X4_gather : GoodIn wsX6_takeNext wsX4_gather := sorry
set_option maxRecDepth 20000 in
theorem gX6_takeNext_X4_gather : GoodIn wsX6_takeNext (wsV RX6 179 RX4 yX4_gather wsX4_gather) := sorry
def dtX6_takeNext_0_0 : List (Nat × Instr × Nat) := [(0, .iconst 0, 1), (1, .istore_n 1, 1), (2, .iload_n 1, 1), (3, .aload_n 0, 1), (4, .getfield 23, 3), (7, .getfield 96, 3), (10, .if_icmp .ge 32, 3), (13, .aload_n 0, 1), (14, .getfield 45, 3), (17, .iload_n 1, 1), (18, .aaload, 1), (19, .aload_n 0, 1), (20, .getfield 42, 3), (23, .iload_n 1, 1), (24, .aaload, 1), (25, .aload_n 0, 1), (26, .getfield 38, 3), (29, .iload_n 1, 1), (30, .aaload, 1), (31, .iconst (-1), 1), (32, .invokevirtual 179, 3), (35, .pop, 1), (36, .iinc 1 1, 3), (39, .goto (-37), 3), (42, .aload_n 0, 1), (43, .getfield 38, 3), (46, .astore_n 1, 1), (47, .aload_n 0, 1), (48, .aload_n 0, 1), (49, .getfield 42, 3), (52, .putfield 38, 3), (55, .aload_n 0, 1)]
theorem dtX6_takeNext_0_0_ok : dcAll cX6_takeNext dtX6_takeNext_0_0 = true := sorry
theorem dX6_takeNext_0 : decode cX6_takeNext 0 = .ok (.iconst 0, 1) := sorry
theorem dX6_takeNext_1 : decode cX6_takeNext 1 = .ok (.istore_n 1, 1) := sorry
theorem dX6_takeNext_2 : decode cX6_takeNext 2 = .ok (.iload_n 1, 1) := sorry
theorem dX6_takeNext_3 : decode cX6_takeNext 3 = .ok (.aload_n 0, 1) := sorry
theorem dX6_takeNext_4 : decode cX6_takeNext 4 = .ok (.getfield 23, 3) := sorry
theorem dX6_takeNext_7 : decode cX6_takeNext 7 = .ok (.getfield 96, 3) := sorry
theorem dX6_takeNext_10 : decode cX6_takeNext 10 = .ok (.if_icmp .ge 32, 3) := sorry
theorem dX6_takeNext_13 : decode cX6_takeNext 13 = .ok (.aload_n 0, 1) := sorry
theorem dX6_takeNext_14 : decode cX6_takeNext 14 = .ok (.getfield 45, 3) := sorry
theorem dX6_takeNext_17 : decode cX6_takeNext 17 = .ok (.iload_n 1, 1) := sorry
theorem dX6_takeNext_18 : decode cX6_takeNext 18 = .ok (.aaload, 1) := sorry
theorem dX6_takeNext_19 : decode cX6_takeNext 19 = .ok (.aload_n 0, 1) := sorry
theorem dX6_takeNext_20 : decode cX6_takeNext 20 = .ok (.getfield 42, 3) := sorry
theorem dX6_takeNext_23 : decode cX6_takeNext 23 = .ok (.iload_n 1, 1) := sorry
theorem dX6_takeNext_24 : decode cX6_takeNext 24 = .ok (.aaload, 1) := sorry
theorem dX6_takeNext_25 : decode cX6_takeNext 25 = .ok (.aload_n 0, 1) := sorry
theorem dX6_takeNext_26 : decode cX6_takeNext 26 = .ok (.getfield 38, 3) := sorry
theorem dX6_takeNext_29 : decode cX6_takeNext 29 = .ok (.iload_n 1, 1) := sorry
theorem dX6_takeNext_30 : decode cX6_takeNext 30 = .ok (.aaload, 1) := sorry
theorem dX6_takeNext_31 : decode cX6_takeNext 31 = .ok (.iconst (-1), 1) := sorry
theorem dX6_takeNext_32 : decode cX6_takeNext 32 = .ok (.invokevirtual 179, 3) := sorry
theorem dX6_takeNext_35 : decode cX6_takeNext 35 = .ok (.pop, 1) := sorry
theorem dX6_takeNext_36 : decode cX6_takeNext 36 = .ok (.iinc 1 1, 3) := sorry
theorem dX6_takeNext_39 : decode cX6_takeNext 39 = .ok (.goto (-37), 3) := sorry
theorem dX6_takeNext_42 : decode cX6_takeNext 42 = .ok (.aload_n 0, 1) := sorry
theorem dX6_takeNext_43 : decode cX6_takeNext 43 = .ok (.getfield 38, 3) := sorry
theorem dX6_takeNext_46 : decode cX6_takeNext 46 = .ok (.astore_n 1, 1) := sorry
theorem dX6_takeNext_47 : decode cX6_takeNext 47 = .ok (.aload_n 0, 1) := sorry
theorem dX6_takeNext_48 : decode cX6_takeNext 48 = .ok (.aload_n 0, 1) := sorry
theorem dX6_takeNext_49 : decode cX6_takeNext 49 = .ok (.getfield 42, 3) := sorry
theorem dX6_takeNext_52 : decode cX6_takeNext 52 = .ok (.putfield 38, 3) := sorry
theorem dX6_takeNext_55 : decode cX6_takeNext 55 = .ok (.aload_n 0, 1) := sorry
def dtX6_takeNext_56_1 : List (Nat × Instr × Nat) := [(56, .aload_n 1, 1), (57, .putfield 42, 3), (60, .return_, 1)]
theorem dtX6_takeNext_56_1_ok : dcAll cX6_takeNext dtX6_takeNext_56_1 = true := sorry
theorem dX6_takeNext_56 : decode cX6_takeNext 56 = .ok (.aload_n 1, 1) := sorry
theorem dX6_takeNext_57 : decode cX6_takeNext 57 = .ok (.putfield 42, 3) := sorry
theorem dX6_takeNext_60 : decode cX6_takeNext 60 = .ok (.return_, 1) := sorry
set_option maxRecDepth 20000 in
theorem ggX6_size_X6_isRelation : GoodIn wsX6_size wsX6_isRelation := sorry
set_option maxRecDepth 20000 in
theorem gX6_size_X6_isRelation : GoodIn wsX6_size (wsV RX6 109 RX6 yX6_isRelation wsX6_isRelation) := sorry
def dtX6_size_0_0 : List (Nat × Instr × Nat) := [(0, .aload_n 0, 1), (1, .iload_n 1, 1), (2, .invokevirtual 109, 3), (5, .ifCond .eq 15, 3), (8, .aload_n 0, 1), (9, .getfield 38, 3), (12, .iload_n 1, 1), (13, .aaload, 1), (14, .getfield 99, 3), (17, .goto 4, 3), (20, .iconst (-1), 1), (21, .ireturn, 1)]
theorem dtX6_size_0_0_ok : dcAll cX6_size dtX6_size_0_0 = true := sorry
theorem dX6_size_0 : decode cX6_size 0 = .ok (.aload_n 0, 1) := sorry
theorem dX6_size_1 : decode cX6_size 1 = .ok (.iload_n 1, 1) := sorry
theorem dX6_size_2 : decode cX6_size 2 = .ok (.invokevirtual 109, 3) := sorry
theorem dX6_size_5 : decode cX6_size 5 = .ok (.ifCond .eq 15, 3) := sorry
theorem dX6_size_8 : decode cX6_size 8 = .ok (.aload_n 0, 1) := sorry
theorem dX6_size_9 : decode cX6_size 9 = .ok (.getfield 38, 3) := sorry
theorem dX6_size_12 : decode cX6_size 12 = .ok (.iload_n 1, 1) := sorry
theorem dX6_size_13 : decode cX6_size 13 = .ok (.aaload, 1) := sorry
theorem dX6_size_14 : decode cX6_size 14 = .ok (.getfield 99, 3) := sorry
theorem dX6_size_17 : decode cX6_size 17 = .ok (.goto 4, 3) := sorry
theorem dX6_size_20 : decode cX6_size 20 = .ok (.iconst (-1), 1) := sorry
theorem dX6_size_21 : decode cX6_size 21 = .ok (.ireturn, 1) := sorry
set_option maxRecDepth 20000 in
theorem ggX6_at_X6_isRelation : GoodIn wsX6_at wsX6_isRelation := sorry
set_option maxRecDepth 20000 in
theorem gX6_at_X6_isRelation : GoodIn wsX6_at (wsV RX6 109 RX6 yX6_isRelation wsX6_isRelation) := sorry
set_option maxRecDepth 20000 in
theorem ggX6_at_X6_tupleCell : GoodIn wsX6_at wsX6_tupleCell := sorry
set_option maxRecDepth 20000 in
theorem gX6_at_X6_tupleCell : GoodIn wsX6_at (va_wsS RX6 205 yX6_tupleCell wsX6_tupleCell) := sorry
def dtX6_at_0_0 : List (Nat × Instr × Nat) := [(0, .aload_n 0, 1), (1, .iload_n 1, 1), (2, .invokevirtual 109, 3), (5, .ifCond .ne 13, 3), (8, .new 132, 3), (11, .dup, 1), (12, .ldc 203, 2), (14, .invokespecial 136, 3), (17, .athrow, 1), (18, .aload_n 0, 1), (19, .getfield 38, 3), (22, .iload_n 1, 1), (23, .aaload, 1), (24, .aload_n 0, 1), (25, .getfield 23, 3), (28, .getfield 113, 3), (31, .iload_n 1, 1), (32, .aaload, 1), (33, .getfield 125, 3), (36, .iload_n 2, 1), (37, .iload_n 3, 1), (38, .invokestatic 205, 3), (41, .ireturn, 1)]
theorem dtX6_at_0_0_ok : dcAll cX6_at dtX6_at_0_0 = true := sorry
theorem dX6_at_0 : decode cX6_at 0 = .ok (.aload_n 0, 1) := sorry
theorem dX6_at_1 : decode cX6_at 1 = .ok (.iload_n 1, 1) := sorry
theorem dX6_at_2 : decode cX6_at 2 = .ok (.invokevirtual 109, 3) := sorry
theorem dX6_at_5 : decode cX6_at 5 = .ok (.ifCond .ne 13, 3) := sorry
theorem dX6_at_8 : decode cX6_at 8 = .ok (.new 132, 3) := sorry
theorem dX6_at_11 : decode cX6_at 11 = .ok (.dup, 1) := sorry
theorem dX6_at_12 : decode cX6_at 12 = .ok (.ldc 203, 2) := sorry
theorem dX6_at_14 : decode cX6_at 14 = .ok (.invokespecial 136, 3) := sorry
theorem dX6_at_17 : decode cX6_at 17 = .ok (.athrow, 1) := sorry
theorem dX6_at_18 : decode cX6_at 18 = .ok (.aload_n 0, 1) := sorry
theorem dX6_at_19 : decode cX6_at 19 = .ok (.getfield 38, 3) := sorry
theorem dX6_at_22 : decode cX6_at 22 = .ok (.iload_n 1, 1) := sorry
theorem dX6_at_23 : decode cX6_at 23 = .ok (.aaload, 1) := sorry
theorem dX6_at_24 : decode cX6_at 24 = .ok (.aload_n 0, 1) := sorry
theorem dX6_at_25 : decode cX6_at 25 = .ok (.getfield 23, 3) := sorry
theorem dX6_at_28 : decode cX6_at 28 = .ok (.getfield 113, 3) := sorry
theorem dX6_at_31 : decode cX6_at 31 = .ok (.iload_n 1, 1) := sorry
theorem dX6_at_32 : decode cX6_at 32 = .ok (.aaload, 1) := sorry
theorem dX6_at_33 : decode cX6_at 33 = .ok (.getfield 125, 3) := sorry
theorem dX6_at_36 : decode cX6_at 36 = .ok (.iload_n 2, 1) := sorry
theorem dX6_at_37 : decode cX6_at 37 = .ok (.iload_n 3, 1) := sorry
theorem dX6_at_38 : decode cX6_at 38 = .ok (.invokestatic 205, 3) := sorry
theorem dX6_at_41 : decode cX6_at 41 = .ok (.ireturn, 1) := sorry
set_option maxRecDepth 20000 in
theorem ggX6_tupleCell_X4_amount : GoodIn wsX6_tupleCell wsX4_amount := sorry
set_option maxRecDepth 20000 in
theorem gX6_tupleCell_X4_amount : GoodIn wsX6_tupleCell (wsV RX6 195 RX4 yX4_amount wsX4_amount) := sorry
set_option maxRecDepth 20000 in
theorem ggX6_tupleCell_X4_cell : GoodIn wsX6_tupleCell wsX4_cell := sorry
set_option maxRecDepth 20000 in
theorem gX6_tupleCell_X4_cell : GoodIn wsX6_tupleCell (wsV RX6 139 RX4 yX4_cell wsX4_cell) := sorry
def dtX6_tupleCell_0_0 : List (Nat × Instr × Nat) := [(0, .iload_n 2, 1), (1, .ifCond .lt 11, 3), (4, .iload_n 2, 1), (5, .aload_n 0, 1), (6, .getfield 99, 3), (9, .if_icmp .lt 13, 3), (12, .new 132, 3), (15, .dup, 1), (16, .ldc 209, 2), (18, .invokespecial 136, 3), (21, .athrow, 1), (22, .iload_n 3, 1), (23, .iconst 4, 1), (24, .if_icmp .ne 9, 3), (27, .aload_n 0, 1), (28, .iload_n 2, 1), (29, .invokevirtual 195, 3), (32, .ireturn, 1), (33, .iload_n 3, 1), (34, .ifCond .lt 8, 3), (37, .iload_n 3, 1), (38, .iload_n 1, 1), (39, .if_icmp .lt 13, 3), (42, .new 132, 3), (45, .dup, 1), (46, .ldc 143, 2), (48, .invokespecial 136, 3), (51, .athrow, 1), (52, .aload_n 0, 1), (53, .iload_n 2, 1), (54, .iload_n 3, 1), (55, .invokevirtual 139, 3)]
theorem dtX6_tupleCell_0_0_ok : dcAll cX6_tupleCell dtX6_tupleCell_0_0 = true := sorry
theorem dX6_tupleCell_0 : decode cX6_tupleCell 0 = .ok (.iload_n 2, 1) := sorry
theorem dX6_tupleCell_1 : decode cX6_tupleCell 1 = .ok (.ifCond .lt 11, 3) := sorry
theorem dX6_tupleCell_4 : decode cX6_tupleCell 4 = .ok (.iload_n 2, 1) := sorry
theorem dX6_tupleCell_5 : decode cX6_tupleCell 5 = .ok (.aload_n 0, 1) := sorry
theorem dX6_tupleCell_6 : decode cX6_tupleCell 6 = .ok (.getfield 99, 3) := sorry
theorem dX6_tupleCell_9 : decode cX6_tupleCell 9 = .ok (.if_icmp .lt 13, 3) := sorry
theorem dX6_tupleCell_12 : decode cX6_tupleCell 12 = .ok (.new 132, 3) := sorry
theorem dX6_tupleCell_15 : decode cX6_tupleCell 15 = .ok (.dup, 1) := sorry
theorem dX6_tupleCell_16 : decode cX6_tupleCell 16 = .ok (.ldc 209, 2) := sorry
theorem dX6_tupleCell_18 : decode cX6_tupleCell 18 = .ok (.invokespecial 136, 3) := sorry
theorem dX6_tupleCell_21 : decode cX6_tupleCell 21 = .ok (.athrow, 1) := sorry
theorem dX6_tupleCell_22 : decode cX6_tupleCell 22 = .ok (.iload_n 3, 1) := sorry
theorem dX6_tupleCell_23 : decode cX6_tupleCell 23 = .ok (.iconst 4, 1) := sorry
theorem dX6_tupleCell_24 : decode cX6_tupleCell 24 = .ok (.if_icmp .ne 9, 3) := sorry
theorem dX6_tupleCell_27 : decode cX6_tupleCell 27 = .ok (.aload_n 0, 1) := sorry
theorem dX6_tupleCell_28 : decode cX6_tupleCell 28 = .ok (.iload_n 2, 1) := sorry
theorem dX6_tupleCell_29 : decode cX6_tupleCell 29 = .ok (.invokevirtual 195, 3) := sorry
theorem dX6_tupleCell_32 : decode cX6_tupleCell 32 = .ok (.ireturn, 1) := sorry
theorem dX6_tupleCell_33 : decode cX6_tupleCell 33 = .ok (.iload_n 3, 1) := sorry
theorem dX6_tupleCell_34 : decode cX6_tupleCell 34 = .ok (.ifCond .lt 8, 3) := sorry
theorem dX6_tupleCell_37 : decode cX6_tupleCell 37 = .ok (.iload_n 3, 1) := sorry
theorem dX6_tupleCell_38 : decode cX6_tupleCell 38 = .ok (.iload_n 1, 1) := sorry
theorem dX6_tupleCell_39 : decode cX6_tupleCell 39 = .ok (.if_icmp .lt 13, 3) := sorry
theorem dX6_tupleCell_42 : decode cX6_tupleCell 42 = .ok (.new 132, 3) := sorry
theorem dX6_tupleCell_45 : decode cX6_tupleCell 45 = .ok (.dup, 1) := sorry
theorem dX6_tupleCell_46 : decode cX6_tupleCell 46 = .ok (.ldc 143, 2) := sorry
theorem dX6_tupleCell_48 : decode cX6_tupleCell 48 = .ok (.invokespecial 136, 3) := sorry
theorem dX6_tupleCell_51 : decode cX6_tupleCell 51 = .ok (.athrow, 1) := sorry
theorem dX6_tupleCell_52 : decode cX6_tupleCell 52 = .ok (.aload_n 0, 1) := sorry
theorem dX6_tupleCell_53 : decode cX6_tupleCell 53 = .ok (.iload_n 2, 1) := sorry
theorem dX6_tupleCell_54 : decode cX6_tupleCell 54 = .ok (.iload_n 3, 1) := sorry
theorem dX6_tupleCell_55 : decode cX6_tupleCell 55 = .ok (.invokevirtual 139, 3) := sorry
def dtX6_tupleCell_58_1 : List (Nat × Instr × Nat) := [(58, .ireturn, 1)]
theorem dtX6_tupleCell_58_1_ok : dcAll cX6_tupleCell dtX6_tupleCell_58_1 = true := sorry
theorem dX6_tupleCell_58 : decode cX6_tupleCell 58 = .ok (.ireturn, 1) := sorry
set_option maxRecDepth 20000 in
theorem ggX6_count_X6_isRelation : GoodIn wsX6_count wsX6_isRelation := sorry
set_option maxRecDepth 20000 in
theorem gX6_count_X6_isRelation : GoodIn wsX6_count (wsV RX6 109 RX6 yX6_isRelation wsX6_isRelation) := sorry
set_option maxRecDepth 20000 in
theorem ggX6_count_X6_setKey : GoodIn wsX6_count wsX6_setKey := sorry
set_option maxRecDepth 20000 in
theorem gX6_count_X6_setKey : GoodIn wsX6_count (wsV RX6 211 RX6 yX6_setKey wsX6_setKey) := sorry
set_option maxRecDepth 20000 in
theorem ggX6_count_X4_amountOf : GoodIn wsX6_count wsX4_amountOf := sorry
set_option maxRecDepth 20000 in
theorem gX6_count_X4_amountOf : GoodIn wsX6_count (wsV RX6 191 RX4 yX4_amountOf wsX4_amountOf) := sorry
def dtX6_count_0_0 : List (Nat × Instr × Nat) := [(0, .aload_n 0, 1), (1, .iload_n 1, 1), (2, .invokevirtual 109, 3), (5, .ifCond .ne 13, 3), (8, .new 132, 3), (11, .dup, 1), (12, .ldc 203, 2), (14, .invokespecial 136, 3), (17, .athrow, 1), (18, .aload_n 0, 1), (19, .aload_n 0, 1), (20, .getfield 23, 3), (23, .getfield 113, 3), (26, .iload_n 1, 1), (27, .aaload, 1), (28, .getfield 125, 3), (31, .iload_n 2, 1), (32, .iload_n 3, 1), (33, .iload 4, 2), (35, .iload 5, 2), (37, .invokevirtual 211, 3), (40, .aload_n 0, 1), (41, .getfield 38, 3), (44, .iload_n 1, 1), (45, .aaload, 1), (46, .aload_n 0, 1), (47, .getfield 66, 3), (50, .invokevirtual 191, 3), (53, .ireturn, 1)]
theorem dtX6_count_0_0_ok : dcAll cX6_count dtX6_count_0_0 = true := sorry
theorem dX6_count_0 : decode cX6_count 0 = .ok (.aload_n 0, 1) := sorry
theorem dX6_count_1 : decode cX6_count 1 = .ok (.iload_n 1, 1) := sorry
theorem dX6_count_2 : decode cX6_count 2 = .ok (.invokevirtual 109, 3) := sorry
theorem dX6_count_5 : decode cX6_count 5 = .ok (.ifCond .ne 13, 3) := sorry
theorem dX6_count_8 : decode cX6_count 8 = .ok (.new 132, 3) := sorry
theorem dX6_count_11 : decode cX6_count 11 = .ok (.dup, 1) := sorry
theorem dX6_count_12 : decode cX6_count 12 = .ok (.ldc 203, 2) := sorry
theorem dX6_count_14 : decode cX6_count 14 = .ok (.invokespecial 136, 3) := sorry
theorem dX6_count_17 : decode cX6_count 17 = .ok (.athrow, 1) := sorry
theorem dX6_count_18 : decode cX6_count 18 = .ok (.aload_n 0, 1) := sorry
theorem dX6_count_19 : decode cX6_count 19 = .ok (.aload_n 0, 1) := sorry
theorem dX6_count_20 : decode cX6_count 20 = .ok (.getfield 23, 3) := sorry
theorem dX6_count_23 : decode cX6_count 23 = .ok (.getfield 113, 3) := sorry
theorem dX6_count_26 : decode cX6_count 26 = .ok (.iload_n 1, 1) := sorry
theorem dX6_count_27 : decode cX6_count 27 = .ok (.aaload, 1) := sorry
theorem dX6_count_28 : decode cX6_count 28 = .ok (.getfield 125, 3) := sorry
theorem dX6_count_31 : decode cX6_count 31 = .ok (.iload_n 2, 1) := sorry
theorem dX6_count_32 : decode cX6_count 32 = .ok (.iload_n 3, 1) := sorry
theorem dX6_count_33 : decode cX6_count 33 = .ok (.iload 4, 2) := sorry
theorem dX6_count_35 : decode cX6_count 35 = .ok (.iload 5, 2) := sorry
theorem dX6_count_37 : decode cX6_count 37 = .ok (.invokevirtual 211, 3) := sorry
theorem dX6_count_40 : decode cX6_count 40 = .ok (.aload_n 0, 1) := sorry
theorem dX6_count_41 : decode cX6_count 41 = .ok (.getfield 38, 3) := sorry
theorem dX6_count_44 : decode cX6_count 44 = .ok (.iload_n 1, 1) := sorry
theorem dX6_count_45 : decode cX6_count 45 = .ok (.aaload, 1) := sorry
theorem dX6_count_46 : decode cX6_count 46 = .ok (.aload_n 0, 1) := sorry
theorem dX6_count_47 : decode cX6_count 47 = .ok (.getfield 66, 3) := sorry
theorem dX6_count_50 : decode cX6_count 50 = .ok (.invokevirtual 191, 3) := sorry
theorem dX6_count_53 : decode cX6_count 53 = .ok (.ireturn, 1) := sorry
def dtX6_setKey_0_0 : List (Nat × Instr × Nat) := [(0, .aload_n 0, 1), (1, .getfield 66, 3), (4, .iconst 0, 1), (5, .iload_n 2, 1), (6, .iastore, 1), (7, .aload_n 0, 1), (8, .getfield 66, 3), (11, .iconst 1, 1), (12, .iload_n 1, 1), (13, .iconst 1, 1), (14, .if_icmp .le 7, 3), (17, .iload_n 3, 1), (18, .goto 4, 3), (21, .iconst 0, 1), (22, .iastore, 1), (23, .aload_n 0, 1), (24, .getfield 66, 3), (27, .iconst 2, 1), (28, .iload_n 1, 1), (29, .iconst 2, 1), (30, .if_icmp .le 8, 3), (33, .iload 4, 2), (35, .goto 4, 3), (38, .iconst 0, 1), (39, .iastore, 1), (40, .aload_n 0, 1), (41, .getfield 66, 3), (44, .iconst 3, 1), (45, .iload_n 1, 1), (46, .iconst 3, 1), (47, .if_icmp .le 8, 3), (50, .iload 5, 2)]
theorem dtX6_setKey_0_0_ok : dcAll cX6_setKey dtX6_setKey_0_0 = true := sorry
theorem dX6_setKey_0 : decode cX6_setKey 0 = .ok (.aload_n 0, 1) := sorry
theorem dX6_setKey_1 : decode cX6_setKey 1 = .ok (.getfield 66, 3) := sorry
theorem dX6_setKey_4 : decode cX6_setKey 4 = .ok (.iconst 0, 1) := sorry
theorem dX6_setKey_5 : decode cX6_setKey 5 = .ok (.iload_n 2, 1) := sorry
theorem dX6_setKey_6 : decode cX6_setKey 6 = .ok (.iastore, 1) := sorry
theorem dX6_setKey_7 : decode cX6_setKey 7 = .ok (.aload_n 0, 1) := sorry
theorem dX6_setKey_8 : decode cX6_setKey 8 = .ok (.getfield 66, 3) := sorry
theorem dX6_setKey_11 : decode cX6_setKey 11 = .ok (.iconst 1, 1) := sorry
theorem dX6_setKey_12 : decode cX6_setKey 12 = .ok (.iload_n 1, 1) := sorry
theorem dX6_setKey_13 : decode cX6_setKey 13 = .ok (.iconst 1, 1) := sorry
theorem dX6_setKey_14 : decode cX6_setKey 14 = .ok (.if_icmp .le 7, 3) := sorry
theorem dX6_setKey_17 : decode cX6_setKey 17 = .ok (.iload_n 3, 1) := sorry
theorem dX6_setKey_18 : decode cX6_setKey 18 = .ok (.goto 4, 3) := sorry
theorem dX6_setKey_21 : decode cX6_setKey 21 = .ok (.iconst 0, 1) := sorry
theorem dX6_setKey_22 : decode cX6_setKey 22 = .ok (.iastore, 1) := sorry
theorem dX6_setKey_23 : decode cX6_setKey 23 = .ok (.aload_n 0, 1) := sorry
theorem dX6_setKey_24 : decode cX6_setKey 24 = .ok (.getfield 66, 3) := sorry
theorem dX6_setKey_27 : decode cX6_setKey 27 = .ok (.iconst 2, 1) := sorry
theorem dX6_setKey_28 : decode cX6_setKey 28 = .ok (.iload_n 1, 1) := sorry
theorem dX6_setKey_29 : decode cX6_setKey 29 = .ok (.iconst 2, 1) := sorry
theorem dX6_setKey_30 : decode cX6_setKey 30 = .ok (.if_icmp .le 8, 3) := sorry
theorem dX6_setKey_33 : decode cX6_setKey 33 = .ok (.iload 4, 2) := sorry
theorem dX6_setKey_35 : decode cX6_setKey 35 = .ok (.goto 4, 3) := sorry
theorem dX6_setKey_38 : decode cX6_setKey 38 = .ok (.iconst 0, 1) := sorry
theorem dX6_setKey_39 : decode cX6_setKey 39 = .ok (.iastore, 1) := sorry
theorem dX6_setKey_40 : decode cX6_setKey 40 = .ok (.aload_n 0, 1) := sorry
theorem dX6_setKey_41 : decode cX6_setKey 41 = .ok (.getfield 66, 3) := sorry
theorem dX6_setKey_44 : decode cX6_setKey 44 = .ok (.iconst 3, 1) := sorry
theorem dX6_setKey_45 : decode cX6_setKey 45 = .ok (.iload_n 1, 1) := sorry
theorem dX6_setKey_46 : decode cX6_setKey 46 = .ok (.iconst 3, 1) := sorry
theorem dX6_setKey_47 : decode cX6_setKey 47 = .ok (.if_icmp .le 8, 3) := sorry
theorem dX6_setKey_50 : decode cX6_setKey 50 = .ok (.iload 5, 2) := sorry
def dtX6_setKey_52_1 : List (Nat × Instr × Nat) := [(52, .goto 4, 3), (55, .iconst 0, 1), (56, .iastore, 1), (57, .return_, 1)]
theorem dtX6_setKey_52_1_ok : dcAll cX6_setKey dtX6_setKey_52_1 = true := sorry
theorem dX6_setKey_52 : decode cX6_setKey 52 = .ok (.goto 4, 3) := sorry
theorem dX6_setKey_55 : decode cX6_setKey 55 = .ok (.iconst 0, 1) := sorry
theorem dX6_setKey_56 : decode cX6_setKey 56 = .ok (.iastore, 1) := sorry
theorem dX6_setKey_57 : decode cX6_setKey 57 = .ok (.return_, 1) := sorry
set_option maxRecDepth 20000 in
theorem ggX6_total_X6_isRelation : GoodIn wsX6_total wsX6_isRelation := sorry
set_option maxRecDepth 20000 in
theorem gX6_total_X6_isRelation : GoodIn wsX6_total (wsV RX6 109 RX6 yX6_isRelation wsX6_isRelation) := sorry
set_option maxRecDepth 20000 in
theorem ggX6_total_X4_amount : GoodIn wsX6_total wsX4_amount := sorry
set_option maxRecDepth 20000 in
theorem gX6_total_X4_amount : GoodIn wsX6_total (wsV RX6 195 RX4 yX4_amount wsX4_amount) := sorry
def dtX6_total_0_0 : List (Nat × Instr × Nat) := [(0, .aload_n 0, 1), (1, .iload_n 1, 1), (2, .invokevirtual 109, 3), (5, .ifCond .ne 13, 3), (8, .new 132, 3), (11, .dup, 1), (12, .ldc 203, 2), (14, .invokespecial 136, 3), (17, .athrow, 1), (18, .aload_n 0, 1), (19, .getfield 38, 3), (22, .iload_n 1, 1), (23, .aaload, 1), (24, .astore_n 2, 1), (25, .iconst 0, 1), (26, .istore_n 3, 1), (27, .iconst 0, 1), (28, .istore 4, 2), (30, .iload 4, 2), (32, .aload_n 2, 1), (33, .getfield 99, 3), (36, .if_icmp .ge 18, 3), (39, .iload_n 3, 1), (40, .aload_n 2, 1), (41, .iload 4, 2), (43, .invokevirtual 195, 3), (46, .iadd, 1), (47, .istore_n 3, 1), (48, .iinc 4 1, 3), (51, .goto (-21), 3), (54, .iload_n 3, 1), (55, .ireturn, 1)]
theorem dtX6_total_0_0_ok : dcAll cX6_total dtX6_total_0_0 = true := sorry
theorem dX6_total_0 : decode cX6_total 0 = .ok (.aload_n 0, 1) := sorry
theorem dX6_total_1 : decode cX6_total 1 = .ok (.iload_n 1, 1) := sorry
theorem dX6_total_2 : decode cX6_total 2 = .ok (.invokevirtual 109, 3) := sorry
theorem dX6_total_5 : decode cX6_total 5 = .ok (.ifCond .ne 13, 3) := sorry
theorem dX6_total_8 : decode cX6_total 8 = .ok (.new 132, 3) := sorry
theorem dX6_total_11 : decode cX6_total 11 = .ok (.dup, 1) := sorry
theorem dX6_total_12 : decode cX6_total 12 = .ok (.ldc 203, 2) := sorry
theorem dX6_total_14 : decode cX6_total 14 = .ok (.invokespecial 136, 3) := sorry
theorem dX6_total_17 : decode cX6_total 17 = .ok (.athrow, 1) := sorry
theorem dX6_total_18 : decode cX6_total 18 = .ok (.aload_n 0, 1) := sorry
theorem dX6_total_19 : decode cX6_total 19 = .ok (.getfield 38, 3) := sorry
theorem dX6_total_22 : decode cX6_total 22 = .ok (.iload_n 1, 1) := sorry
theorem dX6_total_23 : decode cX6_total 23 = .ok (.aaload, 1) := sorry
theorem dX6_total_24 : decode cX6_total 24 = .ok (.astore_n 2, 1) := sorry
theorem dX6_total_25 : decode cX6_total 25 = .ok (.iconst 0, 1) := sorry
theorem dX6_total_26 : decode cX6_total 26 = .ok (.istore_n 3, 1) := sorry
theorem dX6_total_27 : decode cX6_total 27 = .ok (.iconst 0, 1) := sorry
theorem dX6_total_28 : decode cX6_total 28 = .ok (.istore 4, 2) := sorry
theorem dX6_total_30 : decode cX6_total 30 = .ok (.iload 4, 2) := sorry
theorem dX6_total_32 : decode cX6_total 32 = .ok (.aload_n 2, 1) := sorry
theorem dX6_total_33 : decode cX6_total 33 = .ok (.getfield 99, 3) := sorry
theorem dX6_total_36 : decode cX6_total 36 = .ok (.if_icmp .ge 18, 3) := sorry
theorem dX6_total_39 : decode cX6_total 39 = .ok (.iload_n 3, 1) := sorry
theorem dX6_total_40 : decode cX6_total 40 = .ok (.aload_n 2, 1) := sorry
theorem dX6_total_41 : decode cX6_total 41 = .ok (.iload 4, 2) := sorry
theorem dX6_total_43 : decode cX6_total 43 = .ok (.invokevirtual 195, 3) := sorry
theorem dX6_total_46 : decode cX6_total 46 = .ok (.iadd, 1) := sorry
theorem dX6_total_47 : decode cX6_total 47 = .ok (.istore_n 3, 1) := sorry
theorem dX6_total_48 : decode cX6_total 48 = .ok (.iinc 4 1, 3) := sorry
theorem dX6_total_51 : decode cX6_total 51 = .ok (.goto (-21), 3) := sorry
theorem dX6_total_54 : decode cX6_total 54 = .ok (.iload_n 3, 1) := sorry
theorem dX6_total_55 : decode cX6_total 55 = .ok (.ireturn, 1) := sorry
set_option maxRecDepth 20000 in
theorem ggX6_column_X6_isRelation : GoodIn wsX6_column wsX6_isRelation := sorry
set_option maxRecDepth 20000 in
theorem gX6_column_X6_isRelation : GoodIn wsX6_column (wsV RX6 109 RX6 yX6_isRelation wsX6_isRelation) := sorry
set_option maxRecDepth 20000 in
theorem ggX6_column_X6_gatherValues : GoodIn wsX6_column wsX6_gatherValues := sorry
set_option maxRecDepth 20000 in
theorem gX6_column_X6_gatherValues : GoodIn wsX6_column (wsV RX6 215 RX6 yX6_gatherValues wsX6_gatherValues) := sorry
set_option maxRecDepth 20000 in
theorem ggX6_column_X4_cell : GoodIn wsX6_column wsX4_cell := sorry
set_option maxRecDepth 20000 in
theorem gX6_column_X4_cell : GoodIn wsX6_column (wsV RX6 139 RX4 yX4_cell wsX4_cell) := sorry
def dtX6_column_0_0 : List (Nat × Instr × Nat) := [(0, .aload_n 0, 1), (1, .iload_n 1, 1), (2, .invokevirtual 109, 3), (5, .ifCond .ne 13, 3), (8, .new 132, 3), (11, .dup, 1), (12, .ldc 203, 2), (14, .invokespecial 136, 3), (17, .athrow, 1), (18, .iload_n 2, 1), (19, .ifCond .lt 28, 3), (22, .iload_n 2, 1), (23, .aload_n 0, 1), (24, .getfield 23, 3), (27, .getfield 113, 3), (30, .iload_n 1, 1), (31, .aaload, 1), (32, .getfield 125, 3), (35, .if_icmp .ge 12, 3), (38, .iload_n 3, 1), (39, .ifCond .lt 8, 3), (42, .iload_n 3, 1), (43, .iconst 2, 1), (44, .if_icmp .le 13, 3), (47, .new 132, 3), (50, .dup, 1), (51, .ldc 143, 2), (53, .invokespecial 136, 3), (56, .athrow, 1), (57, .aload_n 0, 1), (58, .aload_n 0, 1), (59, .getfield 38, 3)]
theorem dtX6_column_0_0_ok : dcAll cX6_column dtX6_column_0_0 = true := sorry
theorem dX6_column_0 : decode cX6_column 0 = .ok (.aload_n 0, 1) := sorry
theorem dX6_column_1 : decode cX6_column 1 = .ok (.iload_n 1, 1) := sorry
theorem dX6_column_2 : decode cX6_column 2 = .ok (.invokevirtual 109, 3) := sorry
theorem dX6_column_5 : decode cX6_column 5 = .ok (.ifCond .ne 13, 3) := sorry
theorem dX6_column_8 : decode cX6_column 8 = .ok (.new 132, 3) := sorry
theorem dX6_column_11 : decode cX6_column 11 = .ok (.dup, 1) := sorry
theorem dX6_column_12 : decode cX6_column 12 = .ok (.ldc 203, 2) := sorry
theorem dX6_column_14 : decode cX6_column 14 = .ok (.invokespecial 136, 3) := sorry
theorem dX6_column_17 : decode cX6_column 17 = .ok (.athrow, 1) := sorry
theorem dX6_column_18 : decode cX6_column 18 = .ok (.iload_n 2, 1) := sorry
theorem dX6_column_19 : decode cX6_column 19 = .ok (.ifCond .lt 28, 3) := sorry
theorem dX6_column_22 : decode cX6_column 22 = .ok (.iload_n 2, 1) := sorry
theorem dX6_column_23 : decode cX6_column 23 = .ok (.aload_n 0, 1) := sorry
theorem dX6_column_24 : decode cX6_column 24 = .ok (.getfield 23, 3) := sorry
theorem dX6_column_27 : decode cX6_column 27 = .ok (.getfield 113, 3) := sorry
theorem dX6_column_30 : decode cX6_column 30 = .ok (.iload_n 1, 1) := sorry
theorem dX6_column_31 : decode cX6_column 31 = .ok (.aaload, 1) := sorry
theorem dX6_column_32 : decode cX6_column 32 = .ok (.getfield 125, 3) := sorry
theorem dX6_column_35 : decode cX6_column 35 = .ok (.if_icmp .ge 12, 3) := sorry
theorem dX6_column_38 : decode cX6_column 38 = .ok (.iload_n 3, 1) := sorry
theorem dX6_column_39 : decode cX6_column 39 = .ok (.ifCond .lt 8, 3) := sorry
theorem dX6_column_42 : decode cX6_column 42 = .ok (.iload_n 3, 1) := sorry
theorem dX6_column_43 : decode cX6_column 43 = .ok (.iconst 2, 1) := sorry
theorem dX6_column_44 : decode cX6_column 44 = .ok (.if_icmp .le 13, 3) := sorry
theorem dX6_column_47 : decode cX6_column 47 = .ok (.new 132, 3) := sorry
theorem dX6_column_50 : decode cX6_column 50 = .ok (.dup, 1) := sorry
theorem dX6_column_51 : decode cX6_column 51 = .ok (.ldc 143, 2) := sorry
theorem dX6_column_53 : decode cX6_column 53 = .ok (.invokespecial 136, 3) := sorry
theorem dX6_column_56 : decode cX6_column 56 = .ok (.athrow, 1) := sorry
theorem dX6_column_57 : decode cX6_column 57 = .ok (.aload_n 0, 1) := sorry
theorem dX6_column_58 : decode cX6_column 58 = .ok (.aload_n 0, 1) := sorry
theorem dX6_column_59 : decode cX6_column 59 = .ok (.getfield 38, 3) := sorry
def dtX6_column_62_1 : List (Nat × Instr × Nat) := [(62, .iload_n 1, 1), (63, .aaload, 1), (64, .iload_n 2, 1), (65, .invokevirtual 215, 3), (68, .iload_n 3, 1), (69, .iconst 2, 1), (70, .if_icmp .ne 11, 3), (73, .aload_n 0, 1), (74, .getfield 63, 3), (77, .getfield 99, 3), (80, .ireturn, 1), (81, .aload_n 0, 1), (82, .getfield 63, 3), (85, .getfield 99, 3), (88, .ifCond .ne 13, 3), (91, .new 132, 3), (94, .dup, 1), (95, .ldc 218, 2), (97, .invokespecial 136, 3), (100, .athrow, 1), (101, .aload_n 0, 1), (102, .getfield 63, 3), (105, .iload_n 3, 1), (106, .ifCond .ne 7, 3), (109, .iconst 0, 1), (110, .goto 12, 3), (113, .aload_n 0, 1), (114, .getfield 63, 3), (117, .getfield 99, 3), (120, .iconst 1, 1), (121, .isub, 1), (122, .iconst 0, 1)]
theorem dtX6_column_62_1_ok : dcAll cX6_column dtX6_column_62_1 = true := sorry
theorem dX6_column_62 : decode cX6_column 62 = .ok (.iload_n 1, 1) := sorry
theorem dX6_column_63 : decode cX6_column 63 = .ok (.aaload, 1) := sorry
theorem dX6_column_64 : decode cX6_column 64 = .ok (.iload_n 2, 1) := sorry
theorem dX6_column_65 : decode cX6_column 65 = .ok (.invokevirtual 215, 3) := sorry
theorem dX6_column_68 : decode cX6_column 68 = .ok (.iload_n 3, 1) := sorry
theorem dX6_column_69 : decode cX6_column 69 = .ok (.iconst 2, 1) := sorry
theorem dX6_column_70 : decode cX6_column 70 = .ok (.if_icmp .ne 11, 3) := sorry
theorem dX6_column_73 : decode cX6_column 73 = .ok (.aload_n 0, 1) := sorry
theorem dX6_column_74 : decode cX6_column 74 = .ok (.getfield 63, 3) := sorry
theorem dX6_column_77 : decode cX6_column 77 = .ok (.getfield 99, 3) := sorry
theorem dX6_column_80 : decode cX6_column 80 = .ok (.ireturn, 1) := sorry
theorem dX6_column_81 : decode cX6_column 81 = .ok (.aload_n 0, 1) := sorry
theorem dX6_column_82 : decode cX6_column 82 = .ok (.getfield 63, 3) := sorry
theorem dX6_column_85 : decode cX6_column 85 = .ok (.getfield 99, 3) := sorry
theorem dX6_column_88 : decode cX6_column 88 = .ok (.ifCond .ne 13, 3) := sorry
theorem dX6_column_91 : decode cX6_column 91 = .ok (.new 132, 3) := sorry
theorem dX6_column_94 : decode cX6_column 94 = .ok (.dup, 1) := sorry
theorem dX6_column_95 : decode cX6_column 95 = .ok (.ldc 218, 2) := sorry
theorem dX6_column_97 : decode cX6_column 97 = .ok (.invokespecial 136, 3) := sorry
theorem dX6_column_100 : decode cX6_column 100 = .ok (.athrow, 1) := sorry
theorem dX6_column_101 : decode cX6_column 101 = .ok (.aload_n 0, 1) := sorry
theorem dX6_column_102 : decode cX6_column 102 = .ok (.getfield 63, 3) := sorry
theorem dX6_column_105 : decode cX6_column 105 = .ok (.iload_n 3, 1) := sorry
theorem dX6_column_106 : decode cX6_column 106 = .ok (.ifCond .ne 7, 3) := sorry
theorem dX6_column_109 : decode cX6_column 109 = .ok (.iconst 0, 1) := sorry
theorem dX6_column_110 : decode cX6_column 110 = .ok (.goto 12, 3) := sorry
theorem dX6_column_113 : decode cX6_column 113 = .ok (.aload_n 0, 1) := sorry
theorem dX6_column_114 : decode cX6_column 114 = .ok (.getfield 63, 3) := sorry
theorem dX6_column_117 : decode cX6_column 117 = .ok (.getfield 99, 3) := sorry
theorem dX6_column_120 : decode cX6_column 120 = .ok (.iconst 1, 1) := sorry
theorem dX6_column_121 : decode cX6_column 121 = .ok (.isub, 1) := sorry
theorem dX6_column_122 : decode cX6_column 122 = .ok (.iconst 0, 1) := sorry
def dtX6_column_123_2 : List (Nat × Instr × Nat) := [(123, .invokevirtual 139, 3), (126, .ireturn, 1)]
theorem dtX6_column_123_2_ok : dcAll cX6_column dtX6_column_123_2 = true := sorry
theorem dX6_column_123 : decode cX6_column 123 = .ok (.invokevirtual 139, 3) := sorry
theorem dX6_column_126 : decode cX6_column 126 = .ok (.ireturn, 1) := sorry
set_option maxRecDepth 20000 in
theorem ggX6_gatherValues_X6_setKey : GoodIn wsX6_gatherValues wsX6_setKey := sorry
set_option maxRecDepth 20000 in
theorem gX6_gatherValues_X6_setKey : GoodIn wsX6_gatherValues (wsV RX6 211 RX6 yX6_setKey wsX6_setKey) := sorry
set_option maxRecDepth 20000 in
theorem ggX6_gatherValues_X4_cell : GoodIn wsX6_gatherValues wsX4_cell := sorry
set_option maxRecDepth 20000 in
theorem gX6_gatherValues_X4_cell : GoodIn wsX6_gatherValues (wsV RX6 139 RX4 yX4_cell wsX4_cell) := sorry
set_option maxRecDepth 20000 in
theorem ggX6_gatherValues_X4_addAmount : GoodIn wsX6_gatherValues wsX4_addAmount := sorry
set_option maxRecDepth 20000 in
theorem gX6_gatherValues_X4_addAmount : GoodIn wsX6_gatherValues (wsV RX6 128 RX4 yX4_addAmount wsX4_addAmount) := sorry
def dtX6_gatherValues_0_0 : List (Nat × Instr × Nat) := [(0, .aload_n 0, 1), (1, .getfield 63, 3), (4, .iconst 0, 1), (5, .putfield 99, 3), (8, .aload_n 0, 1), (9, .iconst 1, 1), (10, .iconst 0, 1), (11, .iconst 0, 1), (12, .iconst 0, 1), (13, .iconst 0, 1), (14, .invokevirtual 211, 3), (17, .iconst 0, 1), (18, .istore_n 3, 1), (19, .iload_n 3, 1), (20, .aload_n 1, 1), (21, .getfield 99, 3), (24, .if_icmp .ge 34, 3), (27, .aload_n 0, 1), (28, .getfield 66, 3), (31, .iconst 0, 1), (32, .aload_n 1, 1), (33, .iload_n 3, 1), (34, .iload_n 2, 1), (35, .invokevirtual 139, 3), (38, .iastore, 1), (39, .aload_n 0, 1), (40, .getfield 63, 3), (43, .aload_n 0, 1), (44, .getfield 66, 3), (47, .iconst 1, 1), (48, .invokevirtual 128, 3), (51, .pop, 1)]
theorem dtX6_gatherValues_0_0_ok : dcAll cX6_gatherValues dtX6_gatherValues_0_0 = true := sorry
theorem dX6_gatherValues_0 : decode cX6_gatherValues 0 = .ok (.aload_n 0, 1) := sorry
theorem dX6_gatherValues_1 : decode cX6_gatherValues 1 = .ok (.getfield 63, 3) := sorry
theorem dX6_gatherValues_4 : decode cX6_gatherValues 4 = .ok (.iconst 0, 1) := sorry
theorem dX6_gatherValues_5 : decode cX6_gatherValues 5 = .ok (.putfield 99, 3) := sorry
theorem dX6_gatherValues_8 : decode cX6_gatherValues 8 = .ok (.aload_n 0, 1) := sorry
theorem dX6_gatherValues_9 : decode cX6_gatherValues 9 = .ok (.iconst 1, 1) := sorry
theorem dX6_gatherValues_10 : decode cX6_gatherValues 10 = .ok (.iconst 0, 1) := sorry
theorem dX6_gatherValues_11 : decode cX6_gatherValues 11 = .ok (.iconst 0, 1) := sorry
theorem dX6_gatherValues_12 : decode cX6_gatherValues 12 = .ok (.iconst 0, 1) := sorry
theorem dX6_gatherValues_13 : decode cX6_gatherValues 13 = .ok (.iconst 0, 1) := sorry
theorem dX6_gatherValues_14 : decode cX6_gatherValues 14 = .ok (.invokevirtual 211, 3) := sorry
theorem dX6_gatherValues_17 : decode cX6_gatherValues 17 = .ok (.iconst 0, 1) := sorry
theorem dX6_gatherValues_18 : decode cX6_gatherValues 18 = .ok (.istore_n 3, 1) := sorry
theorem dX6_gatherValues_19 : decode cX6_gatherValues 19 = .ok (.iload_n 3, 1) := sorry
theorem dX6_gatherValues_20 : decode cX6_gatherValues 20 = .ok (.aload_n 1, 1) := sorry
theorem dX6_gatherValues_21 : decode cX6_gatherValues 21 = .ok (.getfield 99, 3) := sorry
theorem dX6_gatherValues_24 : decode cX6_gatherValues 24 = .ok (.if_icmp .ge 34, 3) := sorry
theorem dX6_gatherValues_27 : decode cX6_gatherValues 27 = .ok (.aload_n 0, 1) := sorry
theorem dX6_gatherValues_28 : decode cX6_gatherValues 28 = .ok (.getfield 66, 3) := sorry
theorem dX6_gatherValues_31 : decode cX6_gatherValues 31 = .ok (.iconst 0, 1) := sorry
theorem dX6_gatherValues_32 : decode cX6_gatherValues 32 = .ok (.aload_n 1, 1) := sorry
theorem dX6_gatherValues_33 : decode cX6_gatherValues 33 = .ok (.iload_n 3, 1) := sorry
theorem dX6_gatherValues_34 : decode cX6_gatherValues 34 = .ok (.iload_n 2, 1) := sorry
theorem dX6_gatherValues_35 : decode cX6_gatherValues 35 = .ok (.invokevirtual 139, 3) := sorry
theorem dX6_gatherValues_38 : decode cX6_gatherValues 38 = .ok (.iastore, 1) := sorry
theorem dX6_gatherValues_39 : decode cX6_gatherValues 39 = .ok (.aload_n 0, 1) := sorry
theorem dX6_gatherValues_40 : decode cX6_gatherValues 40 = .ok (.getfield 63, 3) := sorry
theorem dX6_gatherValues_43 : decode cX6_gatherValues 43 = .ok (.aload_n 0, 1) := sorry
theorem dX6_gatherValues_44 : decode cX6_gatherValues 44 = .ok (.getfield 66, 3) := sorry
theorem dX6_gatherValues_47 : decode cX6_gatherValues 47 = .ok (.iconst 1, 1) := sorry
theorem dX6_gatherValues_48 : decode cX6_gatherValues 48 = .ok (.invokevirtual 128, 3) := sorry
theorem dX6_gatherValues_51 : decode cX6_gatherValues 51 = .ok (.pop, 1) := sorry
def dtX6_gatherValues_52_1 : List (Nat × Instr × Nat) := [(52, .iinc 3 1, 3), (55, .goto (-36), 3), (58, .return_, 1)]
theorem dtX6_gatherValues_52_1_ok : dcAll cX6_gatherValues dtX6_gatherValues_52_1 = true := sorry
theorem dX6_gatherValues_52 : decode cX6_gatherValues 52 = .ok (.iinc 3 1, 3) := sorry
theorem dX6_gatherValues_55 : decode cX6_gatherValues 55 = .ok (.goto (-36), 3) := sorry
theorem dX6_gatherValues_58 : decode cX6_gatherValues 58 = .ok (.return_, 1) := sorry
set_option maxRecDepth 20000 in
theorem ggX6_moved_X6_isRelation : GoodIn wsX6_moved wsX6_isRelation := sorry
set_option maxRecDepth 20000 in
theorem gX6_moved_X6_isRelation : GoodIn wsX6_moved (wsV RX6 109 RX6 yX6_isRelation wsX6_isRelation) := sorry
def dtX6_moved_0_0 : List (Nat × Instr × Nat) := [(0, .aload_n 0, 1), (1, .iload_n 1, 1), (2, .invokevirtual 109, 3), (5, .ifCond .eq 15, 3), (8, .aload_n 0, 1), (9, .getfield 45, 3), (12, .iload_n 1, 1), (13, .aaload, 1), (14, .getfield 99, 3), (17, .goto 4, 3), (20, .iconst (-1), 1), (21, .ireturn, 1)]
theorem dtX6_moved_0_0_ok : dcAll cX6_moved dtX6_moved_0_0 = true := sorry
theorem dX6_moved_0 : decode cX6_moved 0 = .ok (.aload_n 0, 1) := sorry
theorem dX6_moved_1 : decode cX6_moved 1 = .ok (.iload_n 1, 1) := sorry
theorem dX6_moved_2 : decode cX6_moved 2 = .ok (.invokevirtual 109, 3) := sorry
theorem dX6_moved_5 : decode cX6_moved 5 = .ok (.ifCond .eq 15, 3) := sorry
theorem dX6_moved_8 : decode cX6_moved 8 = .ok (.aload_n 0, 1) := sorry
theorem dX6_moved_9 : decode cX6_moved 9 = .ok (.getfield 45, 3) := sorry
theorem dX6_moved_12 : decode cX6_moved 12 = .ok (.iload_n 1, 1) := sorry
theorem dX6_moved_13 : decode cX6_moved 13 = .ok (.aaload, 1) := sorry
theorem dX6_moved_14 : decode cX6_moved 14 = .ok (.getfield 99, 3) := sorry
theorem dX6_moved_17 : decode cX6_moved 17 = .ok (.goto 4, 3) := sorry
theorem dX6_moved_20 : decode cX6_moved 20 = .ok (.iconst (-1), 1) := sorry
theorem dX6_moved_21 : decode cX6_moved 21 = .ok (.ireturn, 1) := sorry
set_option maxRecDepth 20000 in
theorem ggX6_movedAt_X6_isRelation : GoodIn wsX6_movedAt wsX6_isRelation := sorry
set_option maxRecDepth 20000 in
theorem gX6_movedAt_X6_isRelation : GoodIn wsX6_movedAt (wsV RX6 109 RX6 yX6_isRelation wsX6_isRelation) := sorry
set_option maxRecDepth 20000 in
theorem ggX6_movedAt_X6_tupleCell : GoodIn wsX6_movedAt wsX6_tupleCell := sorry
set_option maxRecDepth 20000 in
theorem gX6_movedAt_X6_tupleCell : GoodIn wsX6_movedAt (va_wsS RX6 205 yX6_tupleCell wsX6_tupleCell) := sorry
def dtX6_movedAt_0_0 : List (Nat × Instr × Nat) := [(0, .aload_n 0, 1), (1, .iload_n 1, 1), (2, .invokevirtual 109, 3), (5, .ifCond .ne 13, 3), (8, .new 132, 3), (11, .dup, 1), (12, .ldc 203, 2), (14, .invokespecial 136, 3), (17, .athrow, 1), (18, .aload_n 0, 1), (19, .getfield 45, 3), (22, .iload_n 1, 1), (23, .aaload, 1), (24, .aload_n 0, 1), (25, .getfield 23, 3), (28, .getfield 113, 3), (31, .iload_n 1, 1), (32, .aaload, 1), (33, .getfield 125, 3), (36, .iload_n 2, 1), (37, .iload_n 3, 1), (38, .invokestatic 205, 3), (41, .ireturn, 1)]
theorem dtX6_movedAt_0_0_ok : dcAll cX6_movedAt dtX6_movedAt_0_0 = true := sorry
theorem dX6_movedAt_0 : decode cX6_movedAt 0 = .ok (.aload_n 0, 1) := sorry
theorem dX6_movedAt_1 : decode cX6_movedAt 1 = .ok (.iload_n 1, 1) := sorry
theorem dX6_movedAt_2 : decode cX6_movedAt 2 = .ok (.invokevirtual 109, 3) := sorry
theorem dX6_movedAt_5 : decode cX6_movedAt 5 = .ok (.ifCond .ne 13, 3) := sorry
theorem dX6_movedAt_8 : decode cX6_movedAt 8 = .ok (.new 132, 3) := sorry
theorem dX6_movedAt_11 : decode cX6_movedAt 11 = .ok (.dup, 1) := sorry
theorem dX6_movedAt_12 : decode cX6_movedAt 12 = .ok (.ldc 203, 2) := sorry
theorem dX6_movedAt_14 : decode cX6_movedAt 14 = .ok (.invokespecial 136, 3) := sorry
theorem dX6_movedAt_17 : decode cX6_movedAt 17 = .ok (.athrow, 1) := sorry
theorem dX6_movedAt_18 : decode cX6_movedAt 18 = .ok (.aload_n 0, 1) := sorry
theorem dX6_movedAt_19 : decode cX6_movedAt 19 = .ok (.getfield 45, 3) := sorry
theorem dX6_movedAt_22 : decode cX6_movedAt 22 = .ok (.iload_n 1, 1) := sorry
theorem dX6_movedAt_23 : decode cX6_movedAt 23 = .ok (.aaload, 1) := sorry
theorem dX6_movedAt_24 : decode cX6_movedAt 24 = .ok (.aload_n 0, 1) := sorry
theorem dX6_movedAt_25 : decode cX6_movedAt 25 = .ok (.getfield 23, 3) := sorry
theorem dX6_movedAt_28 : decode cX6_movedAt 28 = .ok (.getfield 113, 3) := sorry
theorem dX6_movedAt_31 : decode cX6_movedAt 31 = .ok (.iload_n 1, 1) := sorry
theorem dX6_movedAt_32 : decode cX6_movedAt 32 = .ok (.aaload, 1) := sorry
theorem dX6_movedAt_33 : decode cX6_movedAt 33 = .ok (.getfield 125, 3) := sorry
theorem dX6_movedAt_36 : decode cX6_movedAt 36 = .ok (.iload_n 2, 1) := sorry
theorem dX6_movedAt_37 : decode cX6_movedAt 37 = .ok (.iload_n 3, 1) := sorry
theorem dX6_movedAt_38 : decode cX6_movedAt 38 = .ok (.invokestatic 205, 3) := sorry
theorem dX6_movedAt_41 : decode cX6_movedAt 41 = .ok (.ireturn, 1) := sorry
set_option maxRecDepth 20000 in
theorem ggX6_came_X6_isRelation : GoodIn wsX6_came wsX6_isRelation := sorry
set_option maxRecDepth 20000 in
theorem gX6_came_X6_isRelation : GoodIn wsX6_came (wsV RX6 109 RX6 yX6_isRelation wsX6_isRelation) := sorry
set_option maxRecDepth 20000 in
theorem ggX6_came_X6_cameTo : GoodIn wsX6_came wsX6_cameTo := sorry
set_option maxRecDepth 20000 in
theorem gX6_came_X6_cameTo : GoodIn wsX6_came (wsV RX6 220 RX6 yX6_cameTo wsX6_cameTo) := sorry
def dtX6_came_0_0 : List (Nat × Instr × Nat) := [(0, .aload_n 0, 1), (1, .iload_n 1, 1), (2, .invokevirtual 109, 3), (5, .ifCond .eq 30, 3), (8, .iload_n 1, 1), (9, .aload_n 0, 1), (10, .getfield 23, 3), (13, .getfield 122, 3), (16, .if_icmp .lt 19, 3), (19, .aload_n 0, 1), (20, .aload_n 0, 1), (21, .getfield 23, 3), (24, .getfield 113, 3), (27, .iload_n 1, 1), (28, .aaload, 1), (29, .invokevirtual 220, 3), (32, .goto 4, 3), (35, .iconst (-1), 1), (36, .ireturn, 1)]
theorem dtX6_came_0_0_ok : dcAll cX6_came dtX6_came_0_0 = true := sorry
theorem dX6_came_0 : decode cX6_came 0 = .ok (.aload_n 0, 1) := sorry
theorem dX6_came_1 : decode cX6_came 1 = .ok (.iload_n 1, 1) := sorry
theorem dX6_came_2 : decode cX6_came 2 = .ok (.invokevirtual 109, 3) := sorry
theorem dX6_came_5 : decode cX6_came 5 = .ok (.ifCond .eq 30, 3) := sorry
theorem dX6_came_8 : decode cX6_came 8 = .ok (.iload_n 1, 1) := sorry
theorem dX6_came_9 : decode cX6_came 9 = .ok (.aload_n 0, 1) := sorry
theorem dX6_came_10 : decode cX6_came 10 = .ok (.getfield 23, 3) := sorry
theorem dX6_came_13 : decode cX6_came 13 = .ok (.getfield 122, 3) := sorry
theorem dX6_came_16 : decode cX6_came 16 = .ok (.if_icmp .lt 19, 3) := sorry
theorem dX6_came_19 : decode cX6_came 19 = .ok (.aload_n 0, 1) := sorry
theorem dX6_came_20 : decode cX6_came 20 = .ok (.aload_n 0, 1) := sorry
theorem dX6_came_21 : decode cX6_came 21 = .ok (.getfield 23, 3) := sorry
theorem dX6_came_24 : decode cX6_came 24 = .ok (.getfield 113, 3) := sorry
theorem dX6_came_27 : decode cX6_came 27 = .ok (.iload_n 1, 1) := sorry
theorem dX6_came_28 : decode cX6_came 28 = .ok (.aaload, 1) := sorry
theorem dX6_came_29 : decode cX6_came 29 = .ok (.invokevirtual 220, 3) := sorry
theorem dX6_came_32 : decode cX6_came 32 = .ok (.goto 4, 3) := sorry
theorem dX6_came_35 : decode cX6_came 35 = .ok (.iconst (-1), 1) := sorry
theorem dX6_came_36 : decode cX6_came 36 = .ok (.ireturn, 1) := sorry
def dtX6_cameTo_0_0 : List (Nat × Instr × Nat) := [(0, .aload_n 1, 1), (1, .getfield 224, 3), (4, .iconst (-1), 1), (5, .if_icmp .ne 7, 3), (8, .iconst 0, 1), (9, .goto 15, 3), (12, .aload_n 0, 1), (13, .getfield 45, 3), (16, .aload_n 1, 1), (17, .getfield 224, 3), (20, .aaload, 1), (21, .getfield 99, 3), (24, .istore_n 2, 1), (25, .iload_n 2, 1), (26, .aload_n 1, 1), (27, .getfield 227, 3), (30, .iconst (-1), 1), (31, .if_icmp .ne 7, 3), (34, .iconst 0, 1), (35, .goto 15, 3), (38, .aload_n 0, 1), (39, .getfield 45, 3), (42, .aload_n 1, 1), (43, .getfield 227, 3), (46, .aaload, 1), (47, .getfield 99, 3), (50, .iadd, 1), (51, .ireturn, 1)]
theorem dtX6_cameTo_0_0_ok : dcAll cX6_cameTo dtX6_cameTo_0_0 = true := sorry
theorem dX6_cameTo_0 : decode cX6_cameTo 0 = .ok (.aload_n 1, 1) := sorry
theorem dX6_cameTo_1 : decode cX6_cameTo 1 = .ok (.getfield 224, 3) := sorry
theorem dX6_cameTo_4 : decode cX6_cameTo 4 = .ok (.iconst (-1), 1) := sorry
theorem dX6_cameTo_5 : decode cX6_cameTo 5 = .ok (.if_icmp .ne 7, 3) := sorry
theorem dX6_cameTo_8 : decode cX6_cameTo 8 = .ok (.iconst 0, 1) := sorry
theorem dX6_cameTo_9 : decode cX6_cameTo 9 = .ok (.goto 15, 3) := sorry
theorem dX6_cameTo_12 : decode cX6_cameTo 12 = .ok (.aload_n 0, 1) := sorry
theorem dX6_cameTo_13 : decode cX6_cameTo 13 = .ok (.getfield 45, 3) := sorry
theorem dX6_cameTo_16 : decode cX6_cameTo 16 = .ok (.aload_n 1, 1) := sorry
theorem dX6_cameTo_17 : decode cX6_cameTo 17 = .ok (.getfield 224, 3) := sorry
theorem dX6_cameTo_20 : decode cX6_cameTo 20 = .ok (.aaload, 1) := sorry
theorem dX6_cameTo_21 : decode cX6_cameTo 21 = .ok (.getfield 99, 3) := sorry
theorem dX6_cameTo_24 : decode cX6_cameTo 24 = .ok (.istore_n 2, 1) := sorry
theorem dX6_cameTo_25 : decode cX6_cameTo 25 = .ok (.iload_n 2, 1) := sorry
theorem dX6_cameTo_26 : decode cX6_cameTo 26 = .ok (.aload_n 1, 1) := sorry
theorem dX6_cameTo_27 : decode cX6_cameTo 27 = .ok (.getfield 227, 3) := sorry
theorem dX6_cameTo_30 : decode cX6_cameTo 30 = .ok (.iconst (-1), 1) := sorry
theorem dX6_cameTo_31 : decode cX6_cameTo 31 = .ok (.if_icmp .ne 7, 3) := sorry
theorem dX6_cameTo_34 : decode cX6_cameTo 34 = .ok (.iconst 0, 1) := sorry
theorem dX6_cameTo_35 : decode cX6_cameTo 35 = .ok (.goto 15, 3) := sorry
theorem dX6_cameTo_38 : decode cX6_cameTo 38 = .ok (.aload_n 0, 1) := sorry
theorem dX6_cameTo_39 : decode cX6_cameTo 39 = .ok (.getfield 45, 3) := sorry
theorem dX6_cameTo_42 : decode cX6_cameTo 42 = .ok (.aload_n 1, 1) := sorry
theorem dX6_cameTo_43 : decode cX6_cameTo 43 = .ok (.getfield 227, 3) := sorry
theorem dX6_cameTo_46 : decode cX6_cameTo 46 = .ok (.aaload, 1) := sorry
theorem dX6_cameTo_47 : decode cX6_cameTo 47 = .ok (.getfield 99, 3) := sorry
theorem dX6_cameTo_50 : decode cX6_cameTo 50 = .ok (.iadd, 1) := sorry
theorem dX6_cameTo_51 : decode cX6_cameTo 51 = .ok (.ireturn, 1) := sorry
def dtX6_movedInViews_0_0 : List (Nat × Instr × Nat) := [(0, .iconst 0, 1), (1, .istore_n 1, 1), (2, .aload_n 0, 1), (3, .getfield 23, 3), (6, .getfield 122, 3), (9, .istore_n 2, 1), (10, .iload_n 2, 1), (11, .aload_n 0, 1), (12, .getfield 23, 3), (15, .getfield 96, 3), (18, .if_icmp .ge 21, 3), (21, .iload_n 1, 1), (22, .aload_n 0, 1), (23, .getfield 45, 3), (26, .iload_n 2, 1), (27, .aaload, 1), (28, .getfield 99, 3), (31, .iadd, 1), (32, .istore_n 1, 1), (33, .iinc 2 1, 3), (36, .goto (-26), 3), (39, .iload_n 1, 1), (40, .ireturn, 1)]
theorem dtX6_movedInViews_0_0_ok : dcAll cX6_movedInViews dtX6_movedInViews_0_0 = true := sorry
theorem dX6_movedInViews_0 : decode cX6_movedInViews 0 = .ok (.iconst 0, 1) := sorry
theorem dX6_movedInViews_1 : decode cX6_movedInViews 1 = .ok (.istore_n 1, 1) := sorry
theorem dX6_movedInViews_2 : decode cX6_movedInViews 2 = .ok (.aload_n 0, 1) := sorry
theorem dX6_movedInViews_3 : decode cX6_movedInViews 3 = .ok (.getfield 23, 3) := sorry
theorem dX6_movedInViews_6 : decode cX6_movedInViews 6 = .ok (.getfield 122, 3) := sorry
theorem dX6_movedInViews_9 : decode cX6_movedInViews 9 = .ok (.istore_n 2, 1) := sorry
theorem dX6_movedInViews_10 : decode cX6_movedInViews 10 = .ok (.iload_n 2, 1) := sorry
theorem dX6_movedInViews_11 : decode cX6_movedInViews 11 = .ok (.aload_n 0, 1) := sorry
theorem dX6_movedInViews_12 : decode cX6_movedInViews 12 = .ok (.getfield 23, 3) := sorry
theorem dX6_movedInViews_15 : decode cX6_movedInViews 15 = .ok (.getfield 96, 3) := sorry
theorem dX6_movedInViews_18 : decode cX6_movedInViews 18 = .ok (.if_icmp .ge 21, 3) := sorry
theorem dX6_movedInViews_21 : decode cX6_movedInViews 21 = .ok (.iload_n 1, 1) := sorry
theorem dX6_movedInViews_22 : decode cX6_movedInViews 22 = .ok (.aload_n 0, 1) := sorry
theorem dX6_movedInViews_23 : decode cX6_movedInViews 23 = .ok (.getfield 45, 3) := sorry
theorem dX6_movedInViews_26 : decode cX6_movedInViews 26 = .ok (.iload_n 2, 1) := sorry
theorem dX6_movedInViews_27 : decode cX6_movedInViews 27 = .ok (.aaload, 1) := sorry
theorem dX6_movedInViews_28 : decode cX6_movedInViews 28 = .ok (.getfield 99, 3) := sorry
theorem dX6_movedInViews_31 : decode cX6_movedInViews 31 = .ok (.iadd, 1) := sorry
theorem dX6_movedInViews_32 : decode cX6_movedInViews 32 = .ok (.istore_n 1, 1) := sorry
theorem dX6_movedInViews_33 : decode cX6_movedInViews 33 = .ok (.iinc 2 1, 3) := sorry
theorem dX6_movedInViews_36 : decode cX6_movedInViews 36 = .ok (.goto (-26), 3) := sorry
theorem dX6_movedInViews_39 : decode cX6_movedInViews 39 = .ok (.iload_n 1, 1) := sorry
theorem dX6_movedInViews_40 : decode cX6_movedInViews 40 = .ok (.ireturn, 1) := sorry
set_option maxRecDepth 20000 in
theorem ggX6_cameToViews_X6_cameTo : GoodIn wsX6_cameToViews wsX6_cameTo := sorry
set_option maxRecDepth 20000 in
theorem gX6_cameToViews_X6_cameTo : GoodIn wsX6_cameToViews (wsV RX6 220 RX6 yX6_cameTo wsX6_cameTo) := sorry
def dtX6_cameToViews_0_0 : List (Nat × Instr × Nat) := [(0, .iconst 0, 1), (1, .istore_n 1, 1), (2, .aload_n 0, 1), (3, .getfield 23, 3), (6, .getfield 122, 3), (9, .istore_n 2, 1), (10, .iload_n 2, 1), (11, .aload_n 0, 1), (12, .getfield 23, 3), (15, .getfield 96, 3), (18, .if_icmp .ge 25, 3), (21, .iload_n 1, 1), (22, .aload_n 0, 1), (23, .aload_n 0, 1), (24, .getfield 23, 3), (27, .getfield 113, 3), (30, .iload_n 2, 1), (31, .aaload, 1), (32, .invokevirtual 220, 3), (35, .iadd, 1), (36, .istore_n 1, 1), (37, .iinc 2 1, 3), (40, .goto (-30), 3), (43, .iload_n 1, 1), (44, .ireturn, 1)]
theorem dtX6_cameToViews_0_0_ok : dcAll cX6_cameToViews dtX6_cameToViews_0_0 = true := sorry
theorem dX6_cameToViews_0 : decode cX6_cameToViews 0 = .ok (.iconst 0, 1) := sorry
theorem dX6_cameToViews_1 : decode cX6_cameToViews 1 = .ok (.istore_n 1, 1) := sorry
theorem dX6_cameToViews_2 : decode cX6_cameToViews 2 = .ok (.aload_n 0, 1) := sorry
theorem dX6_cameToViews_3 : decode cX6_cameToViews 3 = .ok (.getfield 23, 3) := sorry
theorem dX6_cameToViews_6 : decode cX6_cameToViews 6 = .ok (.getfield 122, 3) := sorry
theorem dX6_cameToViews_9 : decode cX6_cameToViews 9 = .ok (.istore_n 2, 1) := sorry
theorem dX6_cameToViews_10 : decode cX6_cameToViews 10 = .ok (.iload_n 2, 1) := sorry
theorem dX6_cameToViews_11 : decode cX6_cameToViews 11 = .ok (.aload_n 0, 1) := sorry
theorem dX6_cameToViews_12 : decode cX6_cameToViews 12 = .ok (.getfield 23, 3) := sorry
theorem dX6_cameToViews_15 : decode cX6_cameToViews 15 = .ok (.getfield 96, 3) := sorry
theorem dX6_cameToViews_18 : decode cX6_cameToViews 18 = .ok (.if_icmp .ge 25, 3) := sorry
theorem dX6_cameToViews_21 : decode cX6_cameToViews 21 = .ok (.iload_n 1, 1) := sorry
theorem dX6_cameToViews_22 : decode cX6_cameToViews 22 = .ok (.aload_n 0, 1) := sorry
theorem dX6_cameToViews_23 : decode cX6_cameToViews 23 = .ok (.aload_n 0, 1) := sorry
theorem dX6_cameToViews_24 : decode cX6_cameToViews 24 = .ok (.getfield 23, 3) := sorry
theorem dX6_cameToViews_27 : decode cX6_cameToViews 27 = .ok (.getfield 113, 3) := sorry
theorem dX6_cameToViews_30 : decode cX6_cameToViews 30 = .ok (.iload_n 2, 1) := sorry
theorem dX6_cameToViews_31 : decode cX6_cameToViews 31 = .ok (.aaload, 1) := sorry
theorem dX6_cameToViews_32 : decode cX6_cameToViews 32 = .ok (.invokevirtual 220, 3) := sorry
theorem dX6_cameToViews_35 : decode cX6_cameToViews 35 = .ok (.iadd, 1) := sorry
theorem dX6_cameToViews_36 : decode cX6_cameToViews 36 = .ok (.istore_n 1, 1) := sorry
theorem dX6_cameToViews_37 : decode cX6_cameToViews 37 = .ok (.iinc 2 1, 3) := sorry
theorem dX6_cameToViews_40 : decode cX6_cameToViews 40 = .ok (.goto (-30), 3) := sorry
theorem dX6_cameToViews_43 : decode cX6_cameToViews 43 = .ok (.iload_n 1, 1) := sorry
theorem dX6_cameToViews_44 : decode cX6_cameToViews 44 = .ok (.ireturn, 1) := sorry
def dtX6_tuplesOfViews_0_0 : List (Nat × Instr × Nat) := [(0, .iconst 0, 1), (1, .istore_n 1, 1), (2, .aload_n 0, 1), (3, .getfield 23, 3), (6, .getfield 122, 3), (9, .istore_n 2, 1), (10, .iload_n 2, 1), (11, .aload_n 0, 1), (12, .getfield 23, 3), (15, .getfield 96, 3), (18, .if_icmp .ge 21, 3), (21, .iload_n 1, 1), (22, .aload_n 0, 1), (23, .getfield 38, 3), (26, .iload_n 2, 1), (27, .aaload, 1), (28, .getfield 99, 3), (31, .iadd, 1), (32, .istore_n 1, 1), (33, .iinc 2 1, 3), (36, .goto (-26), 3), (39, .iload_n 1, 1), (40, .ireturn, 1)]
theorem dtX6_tuplesOfViews_0_0_ok : dcAll cX6_tuplesOfViews dtX6_tuplesOfViews_0_0 = true := sorry
theorem dX6_tuplesOfViews_0 : decode cX6_tuplesOfViews 0 = .ok (.iconst 0, 1) := sorry
theorem dX6_tuplesOfViews_1 : decode cX6_tuplesOfViews 1 = .ok (.istore_n 1, 1) := sorry
theorem dX6_tuplesOfViews_2 : decode cX6_tuplesOfViews 2 = .ok (.aload_n 0, 1) := sorry
theorem dX6_tuplesOfViews_3 : decode cX6_tuplesOfViews 3 = .ok (.getfield 23, 3) := sorry
theorem dX6_tuplesOfViews_6 : decode cX6_tuplesOfViews 6 = .ok (.getfield 122, 3) := sorry
theorem dX6_tuplesOfViews_9 : decode cX6_tuplesOfViews 9 = .ok (.istore_n 2, 1) := sorry
theorem dX6_tuplesOfViews_10 : decode cX6_tuplesOfViews 10 = .ok (.iload_n 2, 1) := sorry
theorem dX6_tuplesOfViews_11 : decode cX6_tuplesOfViews 11 = .ok (.aload_n 0, 1) := sorry
theorem dX6_tuplesOfViews_12 : decode cX6_tuplesOfViews 12 = .ok (.getfield 23, 3) := sorry
theorem dX6_tuplesOfViews_15 : decode cX6_tuplesOfViews 15 = .ok (.getfield 96, 3) := sorry
theorem dX6_tuplesOfViews_18 : decode cX6_tuplesOfViews 18 = .ok (.if_icmp .ge 21, 3) := sorry
theorem dX6_tuplesOfViews_21 : decode cX6_tuplesOfViews 21 = .ok (.iload_n 1, 1) := sorry
theorem dX6_tuplesOfViews_22 : decode cX6_tuplesOfViews 22 = .ok (.aload_n 0, 1) := sorry
theorem dX6_tuplesOfViews_23 : decode cX6_tuplesOfViews 23 = .ok (.getfield 38, 3) := sorry
theorem dX6_tuplesOfViews_26 : decode cX6_tuplesOfViews 26 = .ok (.iload_n 2, 1) := sorry
theorem dX6_tuplesOfViews_27 : decode cX6_tuplesOfViews 27 = .ok (.aaload, 1) := sorry
theorem dX6_tuplesOfViews_28 : decode cX6_tuplesOfViews 28 = .ok (.getfield 99, 3) := sorry
theorem dX6_tuplesOfViews_31 : decode cX6_tuplesOfViews 31 = .ok (.iadd, 1) := sorry
theorem dX6_tuplesOfViews_32 : decode cX6_tuplesOfViews 32 = .ok (.istore_n 1, 1) := sorry
theorem dX6_tuplesOfViews_33 : decode cX6_tuplesOfViews 33 = .ok (.iinc 2 1, 3) := sorry
theorem dX6_tuplesOfViews_36 : decode cX6_tuplesOfViews 36 = .ok (.goto (-26), 3) := sorry
theorem dX6_tuplesOfViews_39 : decode cX6_tuplesOfViews 39 = .ok (.iload_n 1, 1) := sorry
theorem dX6_tuplesOfViews_40 : decode cX6_tuplesOfViews 40 = .ok (.ireturn, 1) := sorry
set_option maxRecDepth 20000 in
theorem ggX6_round_X6_isRing : GoodIn wsX6_round wsX6_isRing := sorry
set_option maxRecDepth 20000 in
theorem gX6_round_X6_isRing : GoodIn wsX6_round (wsV RX6 230 RX6 yX6_isRing wsX6_isRing) := sorry
set_option maxRecDepth 20000 in
theorem ggX6_round_X6_setKey : GoodIn wsX6_round wsX6_setKey := sorry
set_option maxRecDepth 20000 in
theorem gX6_round_X6_setKey : GoodIn wsX6_round (wsV RX6 211 RX6 yX6_setKey wsX6_setKey) := sorry
set_option maxRecDepth 20000 in
theorem ggX6_round_X4_find : GoodIn wsX6_round wsX4_find := sorry
set_option maxRecDepth 20000 in
theorem gX6_round_X4_find : GoodIn wsX6_round (wsV RX6 233 RX4 yX4_find wsX4_find) := sorry
set_option maxRecDepth 20000 in
theorem ggX6_round_X4_cell : GoodIn wsX6_round wsX4_cell := sorry
set_option maxRecDepth 20000 in
theorem gX6_round_X4_cell : GoodIn wsX6_round (wsV RX6 139 RX4 yX4_cell wsX4_cell) := sorry
def dtX6_round_0_0 : List (Nat × Instr × Nat) := [(0, .aload_n 0, 1), (1, .iload_n 1, 1), (2, .invokevirtual 230, 3), (5, .ifCond .ne 5, 3), (8, .iconst (-1), 1), (9, .ireturn, 1), (10, .aload_n 0, 1), (11, .aload_n 0, 1), (12, .getfield 23, 3), (15, .getfield 113, 3), (18, .iload_n 1, 1), (19, .aaload, 1), (20, .getfield 125, 3), (23, .iload_n 2, 1), (24, .iload_n 3, 1), (25, .iload 4, 2), (27, .iload 5, 2), (29, .invokevirtual 211, 3), (32, .aload_n 0, 1), (33, .getfield 38, 3), (36, .iload_n 1, 1), (37, .aaload, 1), (38, .aload_n 0, 1), (39, .getfield 66, 3), (42, .invokevirtual 233, 3), (45, .istore 6, 2), (47, .iload 6, 2), (49, .ifCond .ge 7, 3), (52, .iconst (-1), 1), (53, .goto 15, 3), (56, .aload_n 0, 1), (57, .getfield 38, 3)]
theorem dtX6_round_0_0_ok : dcAll cX6_round dtX6_round_0_0 = true := sorry
theorem dX6_round_0 : decode cX6_round 0 = .ok (.aload_n 0, 1) := sorry
theorem dX6_round_1 : decode cX6_round 1 = .ok (.iload_n 1, 1) := sorry
theorem dX6_round_2 : decode cX6_round 2 = .ok (.invokevirtual 230, 3) := sorry
theorem dX6_round_5 : decode cX6_round 5 = .ok (.ifCond .ne 5, 3) := sorry
theorem dX6_round_8 : decode cX6_round 8 = .ok (.iconst (-1), 1) := sorry
theorem dX6_round_9 : decode cX6_round 9 = .ok (.ireturn, 1) := sorry
theorem dX6_round_10 : decode cX6_round 10 = .ok (.aload_n 0, 1) := sorry
theorem dX6_round_11 : decode cX6_round 11 = .ok (.aload_n 0, 1) := sorry
theorem dX6_round_12 : decode cX6_round 12 = .ok (.getfield 23, 3) := sorry
theorem dX6_round_15 : decode cX6_round 15 = .ok (.getfield 113, 3) := sorry
theorem dX6_round_18 : decode cX6_round 18 = .ok (.iload_n 1, 1) := sorry
theorem dX6_round_19 : decode cX6_round 19 = .ok (.aaload, 1) := sorry
theorem dX6_round_20 : decode cX6_round 20 = .ok (.getfield 125, 3) := sorry
theorem dX6_round_23 : decode cX6_round 23 = .ok (.iload_n 2, 1) := sorry
theorem dX6_round_24 : decode cX6_round 24 = .ok (.iload_n 3, 1) := sorry
theorem dX6_round_25 : decode cX6_round 25 = .ok (.iload 4, 2) := sorry
theorem dX6_round_27 : decode cX6_round 27 = .ok (.iload 5, 2) := sorry
theorem dX6_round_29 : decode cX6_round 29 = .ok (.invokevirtual 211, 3) := sorry
theorem dX6_round_32 : decode cX6_round 32 = .ok (.aload_n 0, 1) := sorry
theorem dX6_round_33 : decode cX6_round 33 = .ok (.getfield 38, 3) := sorry
theorem dX6_round_36 : decode cX6_round 36 = .ok (.iload_n 1, 1) := sorry
theorem dX6_round_37 : decode cX6_round 37 = .ok (.aaload, 1) := sorry
theorem dX6_round_38 : decode cX6_round 38 = .ok (.aload_n 0, 1) := sorry
theorem dX6_round_39 : decode cX6_round 39 = .ok (.getfield 66, 3) := sorry
theorem dX6_round_42 : decode cX6_round 42 = .ok (.invokevirtual 233, 3) := sorry
theorem dX6_round_45 : decode cX6_round 45 = .ok (.istore 6, 2) := sorry
theorem dX6_round_47 : decode cX6_round 47 = .ok (.iload 6, 2) := sorry
theorem dX6_round_49 : decode cX6_round 49 = .ok (.ifCond .ge 7, 3) := sorry
theorem dX6_round_52 : decode cX6_round 52 = .ok (.iconst (-1), 1) := sorry
theorem dX6_round_53 : decode cX6_round 53 = .ok (.goto 15, 3) := sorry
theorem dX6_round_56 : decode cX6_round 56 = .ok (.aload_n 0, 1) := sorry
theorem dX6_round_57 : decode cX6_round 57 = .ok (.getfield 38, 3) := sorry
def dtX6_round_60_1 : List (Nat × Instr × Nat) := [(60, .iload_n 1, 1), (61, .aaload, 1), (62, .iload 6, 2), (64, .iconst 5, 1), (65, .invokevirtual 139, 3), (68, .ireturn, 1)]
theorem dtX6_round_60_1_ok : dcAll cX6_round dtX6_round_60_1 = true := sorry
theorem dX6_round_60 : decode cX6_round 60 = .ok (.iload_n 1, 1) := sorry
theorem dX6_round_61 : decode cX6_round 61 = .ok (.aaload, 1) := sorry
theorem dX6_round_62 : decode cX6_round 62 = .ok (.iload 6, 2) := sorry
theorem dX6_round_64 : decode cX6_round 64 = .ok (.iconst 5, 1) := sorry
theorem dX6_round_65 : decode cX6_round 65 = .ok (.invokevirtual 139, 3) := sorry
theorem dX6_round_68 : decode cX6_round 68 = .ok (.ireturn, 1) := sorry
set_option maxRecDepth 20000 in
theorem ggX6_rounds_X6_isRing : GoodIn wsX6_rounds wsX6_isRing := sorry
set_option maxRecDepth 20000 in
theorem gX6_rounds_X6_isRing : GoodIn wsX6_rounds (wsV RX6 230 RX6 yX6_isRing wsX6_isRing) := sorry
set_option maxRecDepth 20000 in
theorem ggX6_rounds_X4_cell : GoodIn wsX6_rounds wsX4_cell := sorry
set_option maxRecDepth 20000 in
theorem gX6_rounds_X4_cell : GoodIn wsX6_rounds (wsV RX6 139 RX4 yX4_cell wsX4_cell) := sorry
def dtX6_rounds_0_0 : List (Nat × Instr × Nat) := [(0, .aload_n 0, 1), (1, .iload_n 1, 1), (2, .invokevirtual 230, 3), (5, .ifCond .ne 5, 3), (8, .iconst (-1), 1), (9, .ireturn, 1), (10, .aload_n 0, 1), (11, .getfield 38, 3), (14, .iload_n 1, 1), (15, .aaload, 1), (16, .astore_n 2, 1), (17, .iconst 0, 1), (18, .istore_n 3, 1), (19, .iconst 0, 1), (20, .istore 4, 2), (22, .iload 4, 2), (24, .aload_n 2, 1), (25, .getfield 99, 3), (28, .if_icmp .ge 21, 3), (31, .iload_n 3, 1), (32, .aload_n 2, 1), (33, .iload 4, 2), (35, .iconst 5, 1), (36, .invokevirtual 139, 3), (39, .invokestatic 236, 3), (42, .istore_n 3, 1), (43, .iinc 4 1, 3), (46, .goto (-24), 3), (49, .iload_n 3, 1), (50, .ireturn, 1)]
theorem dtX6_rounds_0_0_ok : dcAll cX6_rounds dtX6_rounds_0_0 = true := sorry
theorem dX6_rounds_0 : decode cX6_rounds 0 = .ok (.aload_n 0, 1) := sorry
theorem dX6_rounds_1 : decode cX6_rounds 1 = .ok (.iload_n 1, 1) := sorry
theorem dX6_rounds_2 : decode cX6_rounds 2 = .ok (.invokevirtual 230, 3) := sorry
theorem dX6_rounds_5 : decode cX6_rounds 5 = .ok (.ifCond .ne 5, 3) := sorry
theorem dX6_rounds_8 : decode cX6_rounds 8 = .ok (.iconst (-1), 1) := sorry
theorem dX6_rounds_9 : decode cX6_rounds 9 = .ok (.ireturn, 1) := sorry
theorem dX6_rounds_10 : decode cX6_rounds 10 = .ok (.aload_n 0, 1) := sorry
theorem dX6_rounds_11 : decode cX6_rounds 11 = .ok (.getfield 38, 3) := sorry
theorem dX6_rounds_14 : decode cX6_rounds 14 = .ok (.iload_n 1, 1) := sorry
theorem dX6_rounds_15 : decode cX6_rounds 15 = .ok (.aaload, 1) := sorry
theorem dX6_rounds_16 : decode cX6_rounds 16 = .ok (.astore_n 2, 1) := sorry
theorem dX6_rounds_17 : decode cX6_rounds 17 = .ok (.iconst 0, 1) := sorry
theorem dX6_rounds_18 : decode cX6_rounds 18 = .ok (.istore_n 3, 1) := sorry
theorem dX6_rounds_19 : decode cX6_rounds 19 = .ok (.iconst 0, 1) := sorry
theorem dX6_rounds_20 : decode cX6_rounds 20 = .ok (.istore 4, 2) := sorry
theorem dX6_rounds_22 : decode cX6_rounds 22 = .ok (.iload 4, 2) := sorry
theorem dX6_rounds_24 : decode cX6_rounds 24 = .ok (.aload_n 2, 1) := sorry
theorem dX6_rounds_25 : decode cX6_rounds 25 = .ok (.getfield 99, 3) := sorry
theorem dX6_rounds_28 : decode cX6_rounds 28 = .ok (.if_icmp .ge 21, 3) := sorry
theorem dX6_rounds_31 : decode cX6_rounds 31 = .ok (.iload_n 3, 1) := sorry
theorem dX6_rounds_32 : decode cX6_rounds 32 = .ok (.aload_n 2, 1) := sorry
theorem dX6_rounds_33 : decode cX6_rounds 33 = .ok (.iload 4, 2) := sorry
theorem dX6_rounds_35 : decode cX6_rounds 35 = .ok (.iconst 5, 1) := sorry
theorem dX6_rounds_36 : decode cX6_rounds 36 = .ok (.invokevirtual 139, 3) := sorry
theorem dX6_rounds_39 : decode cX6_rounds 39 = .ok (.invokestatic 236, 3) := sorry
theorem dX6_rounds_42 : decode cX6_rounds 42 = .ok (.istore_n 3, 1) := sorry
theorem dX6_rounds_43 : decode cX6_rounds 43 = .ok (.iinc 4 1, 3) := sorry
theorem dX6_rounds_46 : decode cX6_rounds 46 = .ok (.goto (-24), 3) := sorry
theorem dX6_rounds_49 : decode cX6_rounds 49 = .ok (.iload_n 3, 1) := sorry
theorem dX6_rounds_50 : decode cX6_rounds 50 = .ok (.ireturn, 1) := sorry
set_option maxRecDepth 20000 in
theorem ggX6_differs_X6_isRelation : GoodIn wsX6_differs wsX6_isRelation := sorry
set_option maxRecDepth 20000 in
theorem gX6_differs_X6_isRelation : GoodIn wsX6_differs (wsV RX6 109 RX6 yX6_isRelation wsX6_isRelation) := sorry
set_option maxRecDepth 20000 in
theorem ggX6_differs_X6_reckonNext : GoodIn wsX6_differs wsX6_reckonNext := sorry
set_option maxRecDepth 20000 in
theorem gX6_differs_X6_reckonNext : GoodIn wsX6_differs (wsV RX6 145 RX6 yX6_reckonNext wsX6_reckonNext) := sorry
set_option maxRecDepth 20000 in
theorem ggX6_differs_X4_gather : GoodIn wsX6_differs wsX4_gather := sorry
set_option maxRecDepth 20000 in
theorem gX6_differs_X4_gather : GoodIn wsX6_differs (wsV RX6 179 RX4 yX4_gather wsX4_gather) := sorry
def dtX6_differs_0_0 : List (Nat × Instr × Nat) := [(0, .aload_n 0, 1), (1, .iload_n 1, 1), (2, .invokevirtual 109, 3), (5, .ifCond .ne 5, 3), (8, .iconst (-1), 1), (9, .ireturn, 1), (10, .aload_n 0, 1), (11, .aload_n 0, 1), (12, .getfield 57, 3), (15, .iconst 1, 1), (16, .invokevirtual 145, 3), (19, .pop, 1), (20, .aload_n 0, 1), (21, .getfield 63, 3), (24, .aload_n 0, 1), (25, .getfield 42, 3), (28, .iload_n 1, 1), (29, .aaload, 1), (30, .aload_n 0, 1), (31, .getfield 38, 3), (34, .iload_n 1, 1), (35, .aaload, 1), (36, .iconst (-1), 1), (37, .invokevirtual 179, 3), (40, .pop, 1), (41, .aload_n 0, 1), (42, .getfield 63, 3), (45, .getfield 99, 3), (48, .ireturn, 1)]
theorem dtX6_differs_0_0_ok : dcAll cX6_differs dtX6_differs_0_0 = true := sorry
theorem dX6_differs_0 : decode cX6_differs 0 = .ok (.aload_n 0, 1) := sorry
theorem dX6_differs_1 : decode cX6_differs 1 = .ok (.iload_n 1, 1) := sorry
theorem dX6_differs_2 : decode cX6_differs 2 = .ok (.invokevirtual 109, 3) := sorry
theorem dX6_differs_5 : decode cX6_differs 5 = .ok (.ifCond .ne 5, 3) := sorry
theorem dX6_differs_8 : decode cX6_differs 8 = .ok (.iconst (-1), 1) := sorry
theorem dX6_differs_9 : decode cX6_differs 9 = .ok (.ireturn, 1) := sorry
theorem dX6_differs_10 : decode cX6_differs 10 = .ok (.aload_n 0, 1) := sorry
theorem dX6_differs_11 : decode cX6_differs 11 = .ok (.aload_n 0, 1) := sorry
theorem dX6_differs_12 : decode cX6_differs 12 = .ok (.getfield 57, 3) := sorry
theorem dX6_differs_15 : decode cX6_differs 15 = .ok (.iconst 1, 1) := sorry
theorem dX6_differs_16 : decode cX6_differs 16 = .ok (.invokevirtual 145, 3) := sorry
theorem dX6_differs_19 : decode cX6_differs 19 = .ok (.pop, 1) := sorry
theorem dX6_differs_20 : decode cX6_differs 20 = .ok (.aload_n 0, 1) := sorry
theorem dX6_differs_21 : decode cX6_differs 21 = .ok (.getfield 63, 3) := sorry
theorem dX6_differs_24 : decode cX6_differs 24 = .ok (.aload_n 0, 1) := sorry
theorem dX6_differs_25 : decode cX6_differs 25 = .ok (.getfield 42, 3) := sorry
theorem dX6_differs_28 : decode cX6_differs 28 = .ok (.iload_n 1, 1) := sorry
theorem dX6_differs_29 : decode cX6_differs 29 = .ok (.aaload, 1) := sorry
theorem dX6_differs_30 : decode cX6_differs 30 = .ok (.aload_n 0, 1) := sorry
theorem dX6_differs_31 : decode cX6_differs 31 = .ok (.getfield 38, 3) := sorry
theorem dX6_differs_34 : decode cX6_differs 34 = .ok (.iload_n 1, 1) := sorry
theorem dX6_differs_35 : decode cX6_differs 35 = .ok (.aaload, 1) := sorry
theorem dX6_differs_36 : decode cX6_differs 36 = .ok (.iconst (-1), 1) := sorry
theorem dX6_differs_37 : decode cX6_differs 37 = .ok (.invokevirtual 179, 3) := sorry
theorem dX6_differs_40 : decode cX6_differs 40 = .ok (.pop, 1) := sorry
theorem dX6_differs_41 : decode cX6_differs 41 = .ok (.aload_n 0, 1) := sorry
theorem dX6_differs_42 : decode cX6_differs 42 = .ok (.getfield 63, 3) := sorry
theorem dX6_differs_45 : decode cX6_differs 45 = .ok (.getfield 99, 3) := sorry
theorem dX6_differs_48 : decode cX6_differs 48 = .ok (.ireturn, 1) := sorry
set_option maxRecDepth 20000 in
theorem ggX6_of_X6_isRelation : GoodIn wsX6_of wsX6_isRelation := sorry
set_option maxRecDepth 20000 in
theorem gX6_of_X6_isRelation : GoodIn wsX6_of (wsV RX6 109 RX6 yX6_isRelation wsX6_isRelation) := sorry
set_option maxRecDepth 20000 in
theorem ggX6_of_X2_hangingOn : GoodIn wsX6_of wsX2_hangingOn := sorry
set_option maxRecDepth 20000 in
theorem gX6_of_X2_hangingOn : GoodIn wsX6_of (wsV RX6 242 RX2 yX2_hangingOn wsX2_hangingOn) := sorry
set_option maxRecDepth 20000 in
theorem ggX6_of_X0_firstLetter : GoodIn wsX6_of wsX0_firstLetter := sorry
set_option maxRecDepth 20000 in
theorem gX6_of_X0_firstLetter : GoodIn wsX6_of (wsV RX6 248 RX0 yX0_firstLetter wsX0_firstLetter) := sorry
set_option maxRecDepth 20000 in
theorem ggX6_of_X0_lastLetter : GoodIn wsX6_of wsX0_lastLetter := sorry
set_option maxRecDepth 20000 in
theorem gX6_of_X0_lastLetter : GoodIn wsX6_of (wsV RX6 251 RX0 yX0_lastLetter wsX0_lastLetter) := sorry
def dtX6_of_0_0 : List (Nat × Instr × Nat) := [(0, .aload_n 0, 1), (1, .iload_n 1, 1), (2, .invokevirtual 109, 3), (5, .ifCond .ne 5, 3), (8, .iconst (-1), 1), (9, .ireturn, 1), (10, .aload_n 0, 1), (11, .getfield 23, 3), (14, .getfield 113, 3), (17, .iload_n 1, 1), (18, .aaload, 1), (19, .astore_n 3, 1), (20, .iload_n 2, 1), (21, .tableswitch 100 0 8 #[51, 56, 61, 66, 71, 76, 85, 90, 95], 51), (72, .aload_n 3, 1), (73, .getfield 117, 3), (76, .ireturn, 1), (77, .aload_n 3, 1), (78, .getfield 125, 3), (81, .ireturn, 1), (82, .aload_n 3, 1), (83, .getfield 224, 3), (86, .ireturn, 1), (87, .aload_n 3, 1), (88, .getfield 227, 3), (91, .ireturn, 1), (92, .aload_n 3, 1), (93, .getfield 239, 3), (96, .ireturn, 1), (97, .aload_n 0, 1), (98, .getfield 23, 3), (101, .iload_n 1, 1)]
theorem dtX6_of_0_0_ok : dcAll cX6_of dtX6_of_0_0 = true := sorry
theorem dX6_of_0 : decode cX6_of 0 = .ok (.aload_n 0, 1) := sorry
theorem dX6_of_1 : decode cX6_of 1 = .ok (.iload_n 1, 1) := sorry
theorem dX6_of_2 : decode cX6_of 2 = .ok (.invokevirtual 109, 3) := sorry
theorem dX6_of_5 : decode cX6_of 5 = .ok (.ifCond .ne 5, 3) := sorry
theorem dX6_of_8 : decode cX6_of 8 = .ok (.iconst (-1), 1) := sorry
theorem dX6_of_9 : decode cX6_of 9 = .ok (.ireturn, 1) := sorry
theorem dX6_of_10 : decode cX6_of 10 = .ok (.aload_n 0, 1) := sorry
theorem dX6_of_11 : decode cX6_of 11 = .ok (.getfield 23, 3) := sorry
theorem dX6_of_14 : decode cX6_of 14 = .ok (.getfield 113, 3) := sorry
theorem dX6_of_17 : decode cX6_of 17 = .ok (.iload_n 1, 1) := sorry
theorem dX6_of_18 : decode cX6_of 18 = .ok (.aaload, 1) := sorry
theorem dX6_of_19 : decode cX6_of 19 = .ok (.astore_n 3, 1) := sorry
theorem dX6_of_20 : decode cX6_of 20 = .ok (.iload_n 2, 1) := sorry
theorem dX6_of_21 : decode cX6_of 21 = .ok (.tableswitch 100 0 8 #[51, 56, 61, 66, 71, 76, 85, 90, 95], 51) := sorry
theorem dX6_of_72 : decode cX6_of 72 = .ok (.aload_n 3, 1) := sorry
theorem dX6_of_73 : decode cX6_of 73 = .ok (.getfield 117, 3) := sorry
theorem dX6_of_76 : decode cX6_of 76 = .ok (.ireturn, 1) := sorry
theorem dX6_of_77 : decode cX6_of 77 = .ok (.aload_n 3, 1) := sorry
theorem dX6_of_78 : decode cX6_of 78 = .ok (.getfield 125, 3) := sorry
theorem dX6_of_81 : decode cX6_of 81 = .ok (.ireturn, 1) := sorry
theorem dX6_of_82 : decode cX6_of 82 = .ok (.aload_n 3, 1) := sorry
theorem dX6_of_83 : decode cX6_of 83 = .ok (.getfield 224, 3) := sorry
theorem dX6_of_86 : decode cX6_of 86 = .ok (.ireturn, 1) := sorry
theorem dX6_of_87 : decode cX6_of 87 = .ok (.aload_n 3, 1) := sorry
theorem dX6_of_88 : decode cX6_of 88 = .ok (.getfield 227, 3) := sorry
theorem dX6_of_91 : decode cX6_of 91 = .ok (.ireturn, 1) := sorry
theorem dX6_of_92 : decode cX6_of 92 = .ok (.aload_n 3, 1) := sorry
theorem dX6_of_93 : decode cX6_of 93 = .ok (.getfield 239, 3) := sorry
theorem dX6_of_96 : decode cX6_of 96 = .ok (.ireturn, 1) := sorry
theorem dX6_of_97 : decode cX6_of 97 = .ok (.aload_n 0, 1) := sorry
theorem dX6_of_98 : decode cX6_of 98 = .ok (.getfield 23, 3) := sorry
theorem dX6_of_101 : decode cX6_of 101 = .ok (.iload_n 1, 1) := sorry
def dtX6_of_102_1 : List (Nat × Instr × Nat) := [(102, .invokevirtual 242, 3), (105, .ireturn, 1), (106, .aload_n 3, 1), (107, .getfield 245, 3), (110, .ireturn, 1), (111, .aload_n 3, 1), (112, .invokevirtual 248, 3), (115, .ireturn, 1), (116, .aload_n 3, 1), (117, .invokevirtual 251, 3), (120, .ireturn, 1), (121, .iconst (-1), 1), (122, .ireturn, 1)]
theorem dtX6_of_102_1_ok : dcAll cX6_of dtX6_of_102_1 = true := sorry
theorem dX6_of_102 : decode cX6_of 102 = .ok (.invokevirtual 242, 3) := sorry
theorem dX6_of_105 : decode cX6_of 105 = .ok (.ireturn, 1) := sorry
theorem dX6_of_106 : decode cX6_of 106 = .ok (.aload_n 3, 1) := sorry
theorem dX6_of_107 : decode cX6_of 107 = .ok (.getfield 245, 3) := sorry
theorem dX6_of_110 : decode cX6_of 110 = .ok (.ireturn, 1) := sorry
theorem dX6_of_111 : decode cX6_of 111 = .ok (.aload_n 3, 1) := sorry
theorem dX6_of_112 : decode cX6_of 112 = .ok (.invokevirtual 248, 3) := sorry
theorem dX6_of_115 : decode cX6_of 115 = .ok (.ireturn, 1) := sorry
theorem dX6_of_116 : decode cX6_of 116 = .ok (.aload_n 3, 1) := sorry
theorem dX6_of_117 : decode cX6_of 117 = .ok (.invokevirtual 251, 3) := sorry
theorem dX6_of_120 : decode cX6_of 120 = .ok (.ireturn, 1) := sorry
theorem dX6_of_121 : decode cX6_of 121 = .ok (.iconst (-1), 1) := sorry
theorem dX6_of_122 : decode cX6_of 122 = .ok (.ireturn, 1) := sorry
set_option maxRecDepth 20000 in
theorem ggX6_told_X6_tuplesOfViews : GoodIn wsX6_told wsX6_tuplesOfViews := sorry
set_option maxRecDepth 20000 in
theorem gX6_told_X6_tuplesOfViews : GoodIn wsX6_told (wsV RX6 254 RX6 yX6_tuplesOfViews wsX6_tuplesOfViews) := sorry
set_option maxRecDepth 20000 in
theorem ggX6_told_X6_movedInViews : GoodIn wsX6_told wsX6_movedInViews := sorry
set_option maxRecDepth 20000 in
theorem gX6_told_X6_movedInViews : GoodIn wsX6_told (wsV RX6 156 RX6 yX6_movedInViews wsX6_movedInViews) := sorry
set_option maxRecDepth 20000 in
theorem ggX6_told_X6_cameToViews : GoodIn wsX6_told wsX6_cameToViews := sorry
set_option maxRecDepth 20000 in
theorem gX6_told_X6_cameToViews : GoodIn wsX6_told (wsV RX6 257 RX6 yX6_cameToViews wsX6_cameToViews) := sorry
def dtX6_told_0_0 : List (Nat × Instr × Nat) := [(0, .iload_n 1, 1), (1, .tableswitch 122 0 9 #[55, 63, 79, 84, 89, 94, 102, 107, 112, 117], 55), (56, .aload_n 0, 1), (57, .getfield 23, 3), (60, .getfield 122, 3), (63, .ireturn, 1), (64, .aload_n 0, 1), (65, .getfield 23, 3), (68, .getfield 96, 3), (71, .aload_n 0, 1), (72, .getfield 23, 3), (75, .getfield 122, 3), (78, .isub, 1), (79, .ireturn, 1), (80, .aload_n 0, 1), (81, .getfield 103, 3), (84, .ireturn, 1), (85, .aload_n 0, 1), (86, .getfield 106, 3), (89, .ireturn, 1), (90, .aload_n 0, 1), (91, .getfield 100, 3), (94, .ireturn, 1), (95, .aload_n 0, 1), (96, .getfield 53, 3), (99, .getfield 99, 3), (102, .ireturn, 1), (103, .aload_n 0, 1), (104, .invokevirtual 254, 3), (107, .ireturn, 1), (108, .aload_n 0, 1), (109, .invokevirtual 156, 3)]
theorem dtX6_told_0_0_ok : dcAll cX6_told dtX6_told_0_0 = true := sorry
theorem dX6_told_0 : decode cX6_told 0 = .ok (.iload_n 1, 1) := sorry
theorem dX6_told_1 : decode cX6_told 1 = .ok (.tableswitch 122 0 9 #[55, 63, 79, 84, 89, 94, 102, 107, 112, 117], 55) := sorry
theorem dX6_told_56 : decode cX6_told 56 = .ok (.aload_n 0, 1) := sorry
theorem dX6_told_57 : decode cX6_told 57 = .ok (.getfield 23, 3) := sorry
theorem dX6_told_60 : decode cX6_told 60 = .ok (.getfield 122, 3) := sorry
theorem dX6_told_63 : decode cX6_told 63 = .ok (.ireturn, 1) := sorry
theorem dX6_told_64 : decode cX6_told 64 = .ok (.aload_n 0, 1) := sorry
theorem dX6_told_65 : decode cX6_told 65 = .ok (.getfield 23, 3) := sorry
theorem dX6_told_68 : decode cX6_told 68 = .ok (.getfield 96, 3) := sorry
theorem dX6_told_71 : decode cX6_told 71 = .ok (.aload_n 0, 1) := sorry
theorem dX6_told_72 : decode cX6_told 72 = .ok (.getfield 23, 3) := sorry
theorem dX6_told_75 : decode cX6_told 75 = .ok (.getfield 122, 3) := sorry
theorem dX6_told_78 : decode cX6_told 78 = .ok (.isub, 1) := sorry
theorem dX6_told_79 : decode cX6_told 79 = .ok (.ireturn, 1) := sorry
theorem dX6_told_80 : decode cX6_told 80 = .ok (.aload_n 0, 1) := sorry
theorem dX6_told_81 : decode cX6_told 81 = .ok (.getfield 103, 3) := sorry
theorem dX6_told_84 : decode cX6_told 84 = .ok (.ireturn, 1) := sorry
theorem dX6_told_85 : decode cX6_told 85 = .ok (.aload_n 0, 1) := sorry
theorem dX6_told_86 : decode cX6_told 86 = .ok (.getfield 106, 3) := sorry
theorem dX6_told_89 : decode cX6_told 89 = .ok (.ireturn, 1) := sorry
theorem dX6_told_90 : decode cX6_told 90 = .ok (.aload_n 0, 1) := sorry
theorem dX6_told_91 : decode cX6_told 91 = .ok (.getfield 100, 3) := sorry
theorem dX6_told_94 : decode cX6_told 94 = .ok (.ireturn, 1) := sorry
theorem dX6_told_95 : decode cX6_told 95 = .ok (.aload_n 0, 1) := sorry
theorem dX6_told_96 : decode cX6_told 96 = .ok (.getfield 53, 3) := sorry
theorem dX6_told_99 : decode cX6_told 99 = .ok (.getfield 99, 3) := sorry
theorem dX6_told_102 : decode cX6_told 102 = .ok (.ireturn, 1) := sorry
theorem dX6_told_103 : decode cX6_told 103 = .ok (.aload_n 0, 1) := sorry
theorem dX6_told_104 : decode cX6_told 104 = .ok (.invokevirtual 254, 3) := sorry
theorem dX6_told_107 : decode cX6_told 107 = .ok (.ireturn, 1) := sorry
theorem dX6_told_108 : decode cX6_told 108 = .ok (.aload_n 0, 1) := sorry
theorem dX6_told_109 : decode cX6_told 109 = .ok (.invokevirtual 156, 3) := sorry
def dtX6_told_112_1 : List (Nat × Instr × Nat) := [(112, .ireturn, 1), (113, .aload_n 0, 1), (114, .invokevirtual 257, 3), (117, .ireturn, 1), (118, .aload_n 0, 1), (119, .getfield 77, 3), (122, .ireturn, 1), (123, .iconst (-1), 1), (124, .ireturn, 1)]
theorem dtX6_told_112_1_ok : dcAll cX6_told dtX6_told_112_1 = true := sorry
theorem dX6_told_112 : decode cX6_told 112 = .ok (.ireturn, 1) := sorry
theorem dX6_told_113 : decode cX6_told 113 = .ok (.aload_n 0, 1) := sorry
theorem dX6_told_114 : decode cX6_told 114 = .ok (.invokevirtual 257, 3) := sorry
theorem dX6_told_117 : decode cX6_told 117 = .ok (.ireturn, 1) := sorry
theorem dX6_told_118 : decode cX6_told 118 = .ok (.aload_n 0, 1) := sorry
theorem dX6_told_119 : decode cX6_told 119 = .ok (.getfield 77, 3) := sorry
theorem dX6_told_122 : decode cX6_told 122 = .ok (.ireturn, 1) := sorry
theorem dX6_told_123 : decode cX6_told 123 = .ok (.iconst (-1), 1) := sorry
theorem dX6_told_124 : decode cX6_told 124 = .ok (.ireturn, 1) := sorry
def dtX7_init_0_0 : List (Nat × Instr × Nat) := [(0, .aload_n 0, 1), (1, .invokespecial 1, 3), (4, .aload_n 0, 1), (5, .sipush 640, 3), (8, .newarray .int, 2), (10, .putfield 7, 3), (13, .aload_n 0, 1), (14, .bipush 16, 2), (16, .newarray .long, 2), (18, .putfield 13, 3), (21, .aload_n 0, 1), (22, .sipush 640, 3), (25, .newarray .int, 2), (27, .putfield 17, 3), (30, .aload_n 0, 1), (31, .bipush 16, 2), (33, .newarray .long, 2), (35, .putfield 20, 3), (38, .aload_n 0, 1), (39, .ldc 23, 2), (41, .newarray .int, 2), (43, .putfield 24, 3), (46, .aload_n 0, 1), (47, .sipush 176, 3), (50, .newarray .int, 2), (52, .putfield 27, 3), (55, .aload_n 0, 1), (56, .bipush 41, 2), (58, .newarray .int, 2), (60, .putfield 30, 3), (63, .aload_n 0, 1), (64, .sipush 164, 3)]
theorem dtX7_init_0_0_ok : dcAll cX7_init dtX7_init_0_0 = true := sorry
theorem dX7_init_0 : decode cX7_init 0 = .ok (.aload_n 0, 1) := sorry
theorem dX7_init_1 : decode cX7_init 1 = .ok (.invokespecial 1, 3) := sorry
theorem dX7_init_4 : decode cX7_init 4 = .ok (.aload_n 0, 1) := sorry
theorem dX7_init_5 : decode cX7_init 5 = .ok (.sipush 640, 3) := sorry
theorem dX7_init_8 : decode cX7_init 8 = .ok (.newarray .int, 2) := sorry
theorem dX7_init_10 : decode cX7_init 10 = .ok (.putfield 7, 3) := sorry
theorem dX7_init_13 : decode cX7_init 13 = .ok (.aload_n 0, 1) := sorry
theorem dX7_init_14 : decode cX7_init 14 = .ok (.bipush 16, 2) := sorry
theorem dX7_init_16 : decode cX7_init 16 = .ok (.newarray .long, 2) := sorry
theorem dX7_init_18 : decode cX7_init 18 = .ok (.putfield 13, 3) := sorry
theorem dX7_init_21 : decode cX7_init 21 = .ok (.aload_n 0, 1) := sorry
theorem dX7_init_22 : decode cX7_init 22 = .ok (.sipush 640, 3) := sorry
theorem dX7_init_25 : decode cX7_init 25 = .ok (.newarray .int, 2) := sorry
theorem dX7_init_27 : decode cX7_init 27 = .ok (.putfield 17, 3) := sorry
theorem dX7_init_30 : decode cX7_init 30 = .ok (.aload_n 0, 1) := sorry
theorem dX7_init_31 : decode cX7_init 31 = .ok (.bipush 16, 2) := sorry
theorem dX7_init_33 : decode cX7_init 33 = .ok (.newarray .long, 2) := sorry
theorem dX7_init_35 : decode cX7_init 35 = .ok (.putfield 20, 3) := sorry
theorem dX7_init_38 : decode cX7_init 38 = .ok (.aload_n 0, 1) := sorry
theorem dX7_init_39 : decode cX7_init 39 = .ok (.ldc 23, 2) := sorry
theorem dX7_init_41 : decode cX7_init 41 = .ok (.newarray .int, 2) := sorry
theorem dX7_init_43 : decode cX7_init 43 = .ok (.putfield 24, 3) := sorry
theorem dX7_init_46 : decode cX7_init 46 = .ok (.aload_n 0, 1) := sorry
theorem dX7_init_47 : decode cX7_init 47 = .ok (.sipush 176, 3) := sorry
theorem dX7_init_50 : decode cX7_init 50 = .ok (.newarray .int, 2) := sorry
theorem dX7_init_52 : decode cX7_init 52 = .ok (.putfield 27, 3) := sorry
theorem dX7_init_55 : decode cX7_init 55 = .ok (.aload_n 0, 1) := sorry
theorem dX7_init_56 : decode cX7_init 56 = .ok (.bipush 41, 2) := sorry
theorem dX7_init_58 : decode cX7_init 58 = .ok (.newarray .int, 2) := sorry
theorem dX7_init_60 : decode cX7_init 60 = .ok (.putfield 30, 3) := sorry
theorem dX7_init_63 : decode cX7_init 63 = .ok (.aload_n 0, 1) := sorry
theorem dX7_init_64 : decode cX7_init 64 = .ok (.sipush 164, 3) := sorry
def dtX7_init_67_1 : List (Nat × Instr × Nat) := [(67, .newarray .int, 2), (69, .putfield 33, 3), (72, .aload_n 0, 1), (73, .bipush 41, 2), (75, .newarray .int, 2), (77, .putfield 36, 3), (80, .aload_n 0, 1), (81, .sipush 936, 3), (84, .newarray .int, 2), (86, .putfield 39, 3), (89, .aload_n 0, 1), (90, .sipush 9600, 3), (93, .newarray .int, 2), (95, .putfield 42, 3), (98, .aload_n 0, 1), (99, .iconst 4, 1), (100, .newarray .int, 2), (102, .putfield 45, 3), (105, .aload_n 0, 1), (106, .bipush 8, 2), (108, .newarray .int, 2), (110, .putfield 48, 3), (113, .aload_n 0, 1), (114, .sipush 176, 3), (117, .newarray .int, 2), (119, .putfield 51, 3), (122, .aload_n 0, 1), (123, .sipush 600, 3), (126, .newarray .int, 2), (128, .putfield 54, 3), (131, .aload_n 0, 1), (132, .sipush 1200, 3)]
theorem dtX7_init_67_1_ok : dcAll cX7_init dtX7_init_67_1 = true := sorry
theorem dX7_init_67 : decode cX7_init 67 = .ok (.newarray .int, 2) := sorry
theorem dX7_init_69 : decode cX7_init 69 = .ok (.putfield 33, 3) := sorry
theorem dX7_init_72 : decode cX7_init 72 = .ok (.aload_n 0, 1) := sorry
theorem dX7_init_73 : decode cX7_init 73 = .ok (.bipush 41, 2) := sorry
theorem dX7_init_75 : decode cX7_init 75 = .ok (.newarray .int, 2) := sorry
theorem dX7_init_77 : decode cX7_init 77 = .ok (.putfield 36, 3) := sorry
theorem dX7_init_80 : decode cX7_init 80 = .ok (.aload_n 0, 1) := sorry
theorem dX7_init_81 : decode cX7_init 81 = .ok (.sipush 936, 3) := sorry
theorem dX7_init_84 : decode cX7_init 84 = .ok (.newarray .int, 2) := sorry
theorem dX7_init_86 : decode cX7_init 86 = .ok (.putfield 39, 3) := sorry
theorem dX7_init_89 : decode cX7_init 89 = .ok (.aload_n 0, 1) := sorry
theorem dX7_init_90 : decode cX7_init 90 = .ok (.sipush 9600, 3) := sorry
theorem dX7_init_93 : decode cX7_init 93 = .ok (.newarray .int, 2) := sorry
theorem dX7_init_95 : decode cX7_init 95 = .ok (.putfield 42, 3) := sorry
theorem dX7_init_98 : decode cX7_init 98 = .ok (.aload_n 0, 1) := sorry
theorem dX7_init_99 : decode cX7_init 99 = .ok (.iconst 4, 1) := sorry
theorem dX7_init_100 : decode cX7_init 100 = .ok (.newarray .int, 2) := sorry
theorem dX7_init_102 : decode cX7_init 102 = .ok (.putfield 45, 3) := sorry
theorem dX7_init_105 : decode cX7_init 105 = .ok (.aload_n 0, 1) := sorry
theorem dX7_init_106 : decode cX7_init 106 = .ok (.bipush 8, 2) := sorry
theorem dX7_init_108 : decode cX7_init 108 = .ok (.newarray .int, 2) := sorry
theorem dX7_init_110 : decode cX7_init 110 = .ok (.putfield 48, 3) := sorry
theorem dX7_init_113 : decode cX7_init 113 = .ok (.aload_n 0, 1) := sorry
theorem dX7_init_114 : decode cX7_init 114 = .ok (.sipush 176, 3) := sorry
theorem dX7_init_117 : decode cX7_init 117 = .ok (.newarray .int, 2) := sorry
theorem dX7_init_119 : decode cX7_init 119 = .ok (.putfield 51, 3) := sorry
theorem dX7_init_122 : decode cX7_init 122 = .ok (.aload_n 0, 1) := sorry
theorem dX7_init_123 : decode cX7_init 123 = .ok (.sipush 600, 3) := sorry
theorem dX7_init_126 : decode cX7_init 126 = .ok (.newarray .int, 2) := sorry
theorem dX7_init_128 : decode cX7_init 128 = .ok (.putfield 54, 3) := sorry
theorem dX7_init_131 : decode cX7_init 131 = .ok (.aload_n 0, 1) := sorry
theorem dX7_init_132 : decode cX7_init 132 = .ok (.sipush 1200, 3) := sorry
def dtX7_init_135_2 : List (Nat × Instr × Nat) := [(135, .newarray .int, 2), (137, .putfield 57, 3), (140, .return_, 1)]
theorem dtX7_init_135_2_ok : dcAll cX7_init dtX7_init_135_2 = true := sorry
theorem dX7_init_135 : decode cX7_init 135 = .ok (.newarray .int, 2) := sorry
theorem dX7_init_137 : decode cX7_init 137 = .ok (.putfield 57, 3) := sorry
theorem dX7_init_140 : decode cX7_init 140 = .ok (.return_, 1) := sorry
def dtX7_within_0_0 : List (Nat × Instr × Nat) := [(0, .iload_n 0, 1), (1, .iload_n 1, 1), (2, .if_icmp .lt 12, 3), (5, .iload_n 0, 1), (6, .iload_n 2, 1), (7, .if_icmp .gt 7, 3), (10, .iconst 1, 1), (11, .goto 4, 3), (14, .iconst 0, 1), (15, .ireturn, 1)]
theorem dtX7_within_0_0_ok : dcAll cX7_within dtX7_within_0_0 = true := sorry
theorem dX7_within_0 : decode cX7_within 0 = .ok (.iload_n 0, 1) := sorry
theorem dX7_within_1 : decode cX7_within 1 = .ok (.iload_n 1, 1) := sorry
theorem dX7_within_2 : decode cX7_within 2 = .ok (.if_icmp .lt 12, 3) := sorry
theorem dX7_within_5 : decode cX7_within 5 = .ok (.iload_n 0, 1) := sorry
theorem dX7_within_6 : decode cX7_within 6 = .ok (.iload_n 2, 1) := sorry
theorem dX7_within_7 : decode cX7_within 7 = .ok (.if_icmp .gt 7, 3) := sorry
theorem dX7_within_10 : decode cX7_within 10 = .ok (.iconst 1, 1) := sorry
theorem dX7_within_11 : decode cX7_within 11 = .ok (.goto 4, 3) := sorry
theorem dX7_within_14 : decode cX7_within 14 = .ok (.iconst 0, 1) := sorry
theorem dX7_within_15 : decode cX7_within 15 = .ok (.ireturn, 1) := sorry
set_option maxRecDepth 20000 in
theorem ggX7_isRelation_X7_within : GoodIn wsX7_isRelation wsX7_within := sorry
set_option maxRecDepth 20000 in
theorem gX7_isRelation_X7_within : GoodIn wsX7_isRelation (va_wsS RX7 67 yX7_within wsX7_within) := sorry
def dtX7_isRelation_0_0 : List (Nat × Instr × Nat) := [(0, .iload_n 1, 1), (1, .iconst 0, 1), (2, .aload_n 0, 1), (3, .getfield 64, 3), (6, .iconst 1, 1), (7, .isub, 1), (8, .invokestatic 67, 3), (11, .ireturn, 1)]
theorem dtX7_isRelation_0_0_ok : dcAll cX7_isRelation dtX7_isRelation_0_0 = true := sorry
theorem dX7_isRelation_0 : decode cX7_isRelation 0 = .ok (.iload_n 1, 1) := sorry
theorem dX7_isRelation_1 : decode cX7_isRelation 1 = .ok (.iconst 0, 1) := sorry
theorem dX7_isRelation_2 : decode cX7_isRelation 2 = .ok (.aload_n 0, 1) := sorry
theorem dX7_isRelation_3 : decode cX7_isRelation 3 = .ok (.getfield 64, 3) := sorry
theorem dX7_isRelation_6 : decode cX7_isRelation 6 = .ok (.iconst 1, 1) := sorry
theorem dX7_isRelation_7 : decode cX7_isRelation 7 = .ok (.isub, 1) := sorry
theorem dX7_isRelation_8 : decode cX7_isRelation 8 = .ok (.invokestatic 67, 3) := sorry
theorem dX7_isRelation_11 : decode cX7_isRelation 11 = .ok (.ireturn, 1) := sorry
def dtX7_kindOf_0_0 : List (Nat × Instr × Nat) := [(0, .aload_n 0, 1), (1, .getfield 7, 3), (4, .bipush 40, 2), (6, .iload_n 1, 1), (7, .imul, 1), (8, .iaload, 1), (9, .ireturn, 1)]
theorem dtX7_kindOf_0_0_ok : dcAll cX7_kindOf dtX7_kindOf_0_0 = true := sorry
theorem dX7_kindOf_0 : decode cX7_kindOf 0 = .ok (.aload_n 0, 1) := sorry
theorem dX7_kindOf_1 : decode cX7_kindOf 1 = .ok (.getfield 7, 3) := sorry
theorem dX7_kindOf_4 : decode cX7_kindOf 4 = .ok (.bipush 40, 2) := sorry
theorem dX7_kindOf_6 : decode cX7_kindOf 6 = .ok (.iload_n 1, 1) := sorry
theorem dX7_kindOf_7 : decode cX7_kindOf 7 = .ok (.imul, 1) := sorry
theorem dX7_kindOf_8 : decode cX7_kindOf 8 = .ok (.iaload, 1) := sorry
theorem dX7_kindOf_9 : decode cX7_kindOf 9 = .ok (.ireturn, 1) := sorry
def dtX7_columnsOf_0_0 : List (Nat × Instr × Nat) := [(0, .aload_n 0, 1), (1, .getfield 7, 3), (4, .bipush 40, 2), (6, .iload_n 1, 1), (7, .imul, 1), (8, .iconst 1, 1), (9, .iadd, 1), (10, .iaload, 1), (11, .ireturn, 1)]
theorem dtX7_columnsOf_0_0_ok : dcAll cX7_columnsOf dtX7_columnsOf_0_0 = true := sorry
theorem dX7_columnsOf_0 : decode cX7_columnsOf 0 = .ok (.aload_n 0, 1) := sorry
theorem dX7_columnsOf_1 : decode cX7_columnsOf 1 = .ok (.getfield 7, 3) := sorry
theorem dX7_columnsOf_4 : decode cX7_columnsOf 4 = .ok (.bipush 40, 2) := sorry
theorem dX7_columnsOf_6 : decode cX7_columnsOf 6 = .ok (.iload_n 1, 1) := sorry
theorem dX7_columnsOf_7 : decode cX7_columnsOf 7 = .ok (.imul, 1) := sorry
theorem dX7_columnsOf_8 : decode cX7_columnsOf 8 = .ok (.iconst 1, 1) := sorry
theorem dX7_columnsOf_9 : decode cX7_columnsOf 9 = .ok (.iadd, 1) := sorry
theorem dX7_columnsOf_10 : decode cX7_columnsOf 10 = .ok (.iaload, 1) := sorry
theorem dX7_columnsOf_11 : decode cX7_columnsOf 11 = .ok (.ireturn, 1) := sorry
def dtX7_firstOf_0_0 : List (Nat × Instr × Nat) := [(0, .aload_n 0, 1), (1, .getfield 7, 3), (4, .bipush 40, 2), (6, .iload_n 1, 1), (7, .imul, 1), (8, .iconst 2, 1), (9, .iadd, 1), (10, .iaload, 1), (11, .ireturn, 1)]
theorem dtX7_firstOf_0_0_ok : dcAll cX7_firstOf dtX7_firstOf_0_0 = true := sorry
theorem dX7_firstOf_0 : decode cX7_firstOf 0 = .ok (.aload_n 0, 1) := sorry
theorem dX7_firstOf_1 : decode cX7_firstOf 1 = .ok (.getfield 7, 3) := sorry
theorem dX7_firstOf_4 : decode cX7_firstOf 4 = .ok (.bipush 40, 2) := sorry
theorem dX7_firstOf_6 : decode cX7_firstOf 6 = .ok (.iload_n 1, 1) := sorry
theorem dX7_firstOf_7 : decode cX7_firstOf 7 = .ok (.imul, 1) := sorry
theorem dX7_firstOf_8 : decode cX7_firstOf 8 = .ok (.iconst 2, 1) := sorry
theorem dX7_firstOf_9 : decode cX7_firstOf 9 = .ok (.iadd, 1) := sorry
theorem dX7_firstOf_10 : decode cX7_firstOf 10 = .ok (.iaload, 1) := sorry
theorem dX7_firstOf_11 : decode cX7_firstOf 11 = .ok (.ireturn, 1) := sorry
def dtX7_secondOf_0_0 : List (Nat × Instr × Nat) := [(0, .aload_n 0, 1), (1, .getfield 7, 3), (4, .bipush 40, 2), (6, .iload_n 1, 1), (7, .imul, 1), (8, .iconst 3, 1), (9, .iadd, 1), (10, .iaload, 1), (11, .ireturn, 1)]
theorem dtX7_secondOf_0_0_ok : dcAll cX7_secondOf dtX7_secondOf_0_0 = true := sorry
theorem dX7_secondOf_0 : decode cX7_secondOf 0 = .ok (.aload_n 0, 1) := sorry
theorem dX7_secondOf_1 : decode cX7_secondOf 1 = .ok (.getfield 7, 3) := sorry
theorem dX7_secondOf_4 : decode cX7_secondOf 4 = .ok (.bipush 40, 2) := sorry
theorem dX7_secondOf_6 : decode cX7_secondOf 6 = .ok (.iload_n 1, 1) := sorry
theorem dX7_secondOf_7 : decode cX7_secondOf 7 = .ok (.imul, 1) := sorry
theorem dX7_secondOf_8 : decode cX7_secondOf 8 = .ok (.iconst 3, 1) := sorry
theorem dX7_secondOf_9 : decode cX7_secondOf 9 = .ok (.iadd, 1) := sorry
theorem dX7_secondOf_10 : decode cX7_secondOf 10 = .ok (.iaload, 1) := sorry
theorem dX7_secondOf_11 : decode cX7_secondOf 11 = .ok (.ireturn, 1) := sorry
def dtX7_partsOf_0_0 : List (Nat × Instr × Nat) := [(0, .aload_n 0, 1), (1, .getfield 7, 3), (4, .bipush 40, 2), (6, .iload_n 1, 1), (7, .imul, 1), (8, .iconst 4, 1), (9, .iadd, 1), (10, .iaload, 1), (11, .ireturn, 1)]
theorem dtX7_partsOf_0_0_ok : dcAll cX7_partsOf dtX7_partsOf_0_0 = true := sorry
theorem dX7_partsOf_0 : decode cX7_partsOf 0 = .ok (.aload_n 0, 1) := sorry
theorem dX7_partsOf_1 : decode cX7_partsOf 1 = .ok (.getfield 7, 3) := sorry
theorem dX7_partsOf_4 : decode cX7_partsOf 4 = .ok (.bipush 40, 2) := sorry
theorem dX7_partsOf_6 : decode cX7_partsOf 6 = .ok (.iload_n 1, 1) := sorry
theorem dX7_partsOf_7 : decode cX7_partsOf 7 = .ok (.imul, 1) := sorry
theorem dX7_partsOf_8 : decode cX7_partsOf 8 = .ok (.iconst 4, 1) := sorry
theorem dX7_partsOf_9 : decode cX7_partsOf 9 = .ok (.iadd, 1) := sorry
theorem dX7_partsOf_10 : decode cX7_partsOf 10 = .ok (.iaload, 1) := sorry
theorem dX7_partsOf_11 : decode cX7_partsOf 11 = .ok (.ireturn, 1) := sorry
def dtX7_part_0_0 : List (Nat × Instr × Nat) := [(0, .aload_n 0, 1), (1, .getfield 7, 3), (4, .bipush 40, 2), (6, .iload_n 1, 1), (7, .imul, 1), (8, .bipush 6, 2), (10, .iadd, 1), (11, .iconst 4, 1), (12, .iload_n 2, 1), (13, .imul, 1), (14, .iadd, 1), (15, .iload_n 3, 1), (16, .iadd, 1), (17, .iaload, 1), (18, .ireturn, 1)]
theorem dtX7_part_0_0_ok : dcAll cX7_part dtX7_part_0_0 = true := sorry
theorem dX7_part_0 : decode cX7_part 0 = .ok (.aload_n 0, 1) := sorry
theorem dX7_part_1 : decode cX7_part 1 = .ok (.getfield 7, 3) := sorry
theorem dX7_part_4 : decode cX7_part 4 = .ok (.bipush 40, 2) := sorry
theorem dX7_part_6 : decode cX7_part 6 = .ok (.iload_n 1, 1) := sorry
theorem dX7_part_7 : decode cX7_part 7 = .ok (.imul, 1) := sorry
theorem dX7_part_8 : decode cX7_part 8 = .ok (.bipush 6, 2) := sorry
theorem dX7_part_10 : decode cX7_part 10 = .ok (.iadd, 1) := sorry
theorem dX7_part_11 : decode cX7_part 11 = .ok (.iconst 4, 1) := sorry
theorem dX7_part_12 : decode cX7_part 12 = .ok (.iload_n 2, 1) := sorry
theorem dX7_part_13 : decode cX7_part 13 = .ok (.imul, 1) := sorry
theorem dX7_part_14 : decode cX7_part 14 = .ok (.iadd, 1) := sorry
theorem dX7_part_15 : decode cX7_part 15 = .ok (.iload_n 3, 1) := sorry
theorem dX7_part_16 : decode cX7_part 16 = .ok (.iadd, 1) := sorry
theorem dX7_part_17 : decode cX7_part 17 = .ok (.iaload, 1) := sorry
theorem dX7_part_18 : decode cX7_part 18 = .ok (.ireturn, 1) := sorry
def dtX7_spot_0_0 : List (Nat × Instr × Nat) := [(0, .sipush 11520, 3), (3, .iload_n 0, 1), (4, .imul, 1), (5, .sipush 720, 3), (8, .iload_n 1, 1), (9, .imul, 1), (10, .iadd, 1), (11, .bipush 6, 2), (13, .iload_n 2, 1), (14, .imul, 1), (15, .iadd, 1), (16, .ireturn, 1)]
theorem dtX7_spot_0_0_ok : dcAll cX7_spot dtX7_spot_0_0 = true := sorry
theorem dX7_spot_0 : decode cX7_spot 0 = .ok (.sipush 11520, 3) := sorry
theorem dX7_spot_3 : decode cX7_spot 3 = .ok (.iload_n 0, 1) := sorry
theorem dX7_spot_4 : decode cX7_spot 4 = .ok (.imul, 1) := sorry
theorem dX7_spot_5 : decode cX7_spot 5 = .ok (.sipush 720, 3) := sorry
theorem dX7_spot_8 : decode cX7_spot 8 = .ok (.iload_n 1, 1) := sorry
theorem dX7_spot_9 : decode cX7_spot 9 = .ok (.imul, 1) := sorry
theorem dX7_spot_10 : decode cX7_spot 10 = .ok (.iadd, 1) := sorry
theorem dX7_spot_11 : decode cX7_spot 11 = .ok (.bipush 6, 2) := sorry
theorem dX7_spot_13 : decode cX7_spot 13 = .ok (.iload_n 2, 1) := sorry
theorem dX7_spot_14 : decode cX7_spot 14 = .ok (.imul, 1) := sorry
theorem dX7_spot_15 : decode cX7_spot 15 = .ok (.iadd, 1) := sorry
theorem dX7_spot_16 : decode cX7_spot 16 = .ok (.ireturn, 1) := sorry
def dtX7_sizeOf_0_0 : List (Nat × Instr × Nat) := [(0, .aload_n 0, 1), (1, .getfield 27, 3), (4, .bipush 16, 2), (6, .iload_n 1, 1), (7, .imul, 1), (8, .iload_n 2, 1), (9, .iadd, 1), (10, .iaload, 1), (11, .ireturn, 1)]
theorem dtX7_sizeOf_0_0_ok : dcAll cX7_sizeOf dtX7_sizeOf_0_0 = true := sorry
theorem dX7_sizeOf_0 : decode cX7_sizeOf 0 = .ok (.aload_n 0, 1) := sorry
theorem dX7_sizeOf_1 : decode cX7_sizeOf 1 = .ok (.getfield 27, 3) := sorry
theorem dX7_sizeOf_4 : decode cX7_sizeOf 4 = .ok (.bipush 16, 2) := sorry
theorem dX7_sizeOf_6 : decode cX7_sizeOf 6 = .ok (.iload_n 1, 1) := sorry
theorem dX7_sizeOf_7 : decode cX7_sizeOf 7 = .ok (.imul, 1) := sorry
theorem dX7_sizeOf_8 : decode cX7_sizeOf 8 = .ok (.iload_n 2, 1) := sorry
theorem dX7_sizeOf_9 : decode cX7_sizeOf 9 = .ok (.iadd, 1) := sorry
theorem dX7_sizeOf_10 : decode cX7_sizeOf 10 = .ok (.iaload, 1) := sorry
theorem dX7_sizeOf_11 : decode cX7_sizeOf 11 = .ok (.ireturn, 1) := sorry
def dtX7_eight_0_0 : List (Nat × Instr × Nat) := [(0, .bipush 56, 2), (2, .istore_n 3, 1), (3, .iload_n 3, 1), (4, .ifCond .lt 36, 3), (7, .aload_n 0, 1), (8, .getfield 39, 3), (11, .aload_n 0, 1), (12, .getfield 71, 3), (15, .lload_n 1, 1), (16, .iload_n 3, 1), (17, .lshr, 1), (18, .l2i, 1), (19, .sipush 255, 3), (22, .iand, 1), (23, .iastore, 1), (24, .aload_n 0, 1), (25, .dup, 1), (26, .getfield 71, 3), (29, .iconst 1, 1), (30, .iadd, 1), (31, .putfield 71, 3), (34, .iinc 3 (-8), 3), (37, .goto (-34), 3), (40, .return_, 1)]
theorem dtX7_eight_0_0_ok : dcAll cX7_eight dtX7_eight_0_0 = true := sorry
theorem dX7_eight_0 : decode cX7_eight 0 = .ok (.bipush 56, 2) := sorry
theorem dX7_eight_2 : decode cX7_eight 2 = .ok (.istore_n 3, 1) := sorry
theorem dX7_eight_3 : decode cX7_eight 3 = .ok (.iload_n 3, 1) := sorry
theorem dX7_eight_4 : decode cX7_eight 4 = .ok (.ifCond .lt 36, 3) := sorry
theorem dX7_eight_7 : decode cX7_eight 7 = .ok (.aload_n 0, 1) := sorry
theorem dX7_eight_8 : decode cX7_eight 8 = .ok (.getfield 39, 3) := sorry
theorem dX7_eight_11 : decode cX7_eight 11 = .ok (.aload_n 0, 1) := sorry
theorem dX7_eight_12 : decode cX7_eight 12 = .ok (.getfield 71, 3) := sorry
theorem dX7_eight_15 : decode cX7_eight 15 = .ok (.lload_n 1, 1) := sorry
theorem dX7_eight_16 : decode cX7_eight 16 = .ok (.iload_n 3, 1) := sorry
theorem dX7_eight_17 : decode cX7_eight 17 = .ok (.lshr, 1) := sorry
theorem dX7_eight_18 : decode cX7_eight 18 = .ok (.l2i, 1) := sorry
theorem dX7_eight_19 : decode cX7_eight 19 = .ok (.sipush 255, 3) := sorry
theorem dX7_eight_22 : decode cX7_eight 22 = .ok (.iand, 1) := sorry
theorem dX7_eight_23 : decode cX7_eight 23 = .ok (.iastore, 1) := sorry
theorem dX7_eight_24 : decode cX7_eight 24 = .ok (.aload_n 0, 1) := sorry
theorem dX7_eight_25 : decode cX7_eight 25 = .ok (.dup, 1) := sorry
theorem dX7_eight_26 : decode cX7_eight 26 = .ok (.getfield 71, 3) := sorry
theorem dX7_eight_29 : decode cX7_eight 29 = .ok (.iconst 1, 1) := sorry
theorem dX7_eight_30 : decode cX7_eight 30 = .ok (.iadd, 1) := sorry
theorem dX7_eight_31 : decode cX7_eight 31 = .ok (.putfield 71, 3) := sorry
theorem dX7_eight_34 : decode cX7_eight 34 = .ok (.iinc 3 (-8), 3) := sorry
theorem dX7_eight_37 : decode cX7_eight 37 = .ok (.goto (-34), 3) := sorry
theorem dX7_eight_40 : decode cX7_eight 40 = .ok (.return_, 1) := sorry
set_option maxRecDepth 20000 in
theorem ggX7_feed_X7_eight : GoodIn wsX7_feed wsX7_eight := sorry
set_option maxRecDepth 20000 in
theorem gX7_feed_X7_eight : GoodIn wsX7_feed (wsV RX7 74 RX7 yX7_eight wsX7_eight) := sorry
def dtX7_feed_0_0 : List (Nat × Instr × Nat) := [(0, .aload_n 0, 1), (1, .iconst 0, 1), (2, .putfield 60, 3), (5, .aload_n 0, 1), (6, .getfield 71, 3), (9, .bipush 24, 2), (11, .iadd, 1), (12, .sipush 936, 3), (15, .if_icmp .le 5, 3), (18, .iconst (-1), 1), (19, .ireturn, 1), (20, .aload_n 0, 1), (21, .lload_n 1, 1), (22, .invokevirtual 74, 3), (25, .aload_n 0, 1), (26, .lload_n 3, 1), (27, .invokevirtual 74, 3), (30, .aload_n 0, 1), (31, .lload 5, 2), (33, .invokevirtual 74, 3), (36, .aload_n 0, 1), (37, .getfield 71, 3), (40, .ireturn, 1)]
theorem dtX7_feed_0_0_ok : dcAll cX7_feed dtX7_feed_0_0 = true := sorry
theorem dX7_feed_0 : decode cX7_feed 0 = .ok (.aload_n 0, 1) := sorry
theorem dX7_feed_1 : decode cX7_feed 1 = .ok (.iconst 0, 1) := sorry
theorem dX7_feed_2 : decode cX7_feed 2 = .ok (.putfield 60, 3) := sorry
theorem dX7_feed_5 : decode cX7_feed 5 = .ok (.aload_n 0, 1) := sorry
theorem dX7_feed_6 : decode cX7_feed 6 = .ok (.getfield 71, 3) := sorry
theorem dX7_feed_9 : decode cX7_feed 9 = .ok (.bipush 24, 2) := sorry
theorem dX7_feed_11 : decode cX7_feed 11 = .ok (.iadd, 1) := sorry
theorem dX7_feed_12 : decode cX7_feed 12 = .ok (.sipush 936, 3) := sorry
theorem dX7_feed_15 : decode cX7_feed 15 = .ok (.if_icmp .le 5, 3) := sorry
theorem dX7_feed_18 : decode cX7_feed 18 = .ok (.iconst (-1), 1) := sorry
theorem dX7_feed_19 : decode cX7_feed 19 = .ok (.ireturn, 1) := sorry
theorem dX7_feed_20 : decode cX7_feed 20 = .ok (.aload_n 0, 1) := sorry
theorem dX7_feed_21 : decode cX7_feed 21 = .ok (.lload_n 1, 1) := sorry
theorem dX7_feed_22 : decode cX7_feed 22 = .ok (.invokevirtual 74, 3) := sorry
theorem dX7_feed_25 : decode cX7_feed 25 = .ok (.aload_n 0, 1) := sorry
theorem dX7_feed_26 : decode cX7_feed 26 = .ok (.lload_n 3, 1) := sorry
theorem dX7_feed_27 : decode cX7_feed 27 = .ok (.invokevirtual 74, 3) := sorry
theorem dX7_feed_30 : decode cX7_feed 30 = .ok (.aload_n 0, 1) := sorry
theorem dX7_feed_31 : decode cX7_feed 31 = .ok (.lload 5, 2) := sorry
theorem dX7_feed_33 : decode cX7_feed 33 = .ok (.invokevirtual 74, 3) := sorry
theorem dX7_feed_36 : decode cX7_feed 36 = .ok (.aload_n 0, 1) := sorry
theorem dX7_feed_37 : decode cX7_feed 37 = .ok (.getfield 71, 3) := sorry
theorem dX7_feed_40 : decode cX7_feed 40 = .ok (.ireturn, 1) := sorry
set_option maxRecDepth 20000 in
theorem ggX7_end_X7_within : GoodIn wsX7_end wsX7_within := sorry
set_option maxRecDepth 20000 in
theorem gX7_end_X7_within : GoodIn wsX7_end (va_wsS RX7 67 yX7_within wsX7_within) := sorry
def dtX7_end_0_0 : List (Nat × Instr × Nat) := [(0, .aload_n 0, 1), (1, .iconst 0, 1), (2, .putfield 60, 3), (5, .iload_n 1, 1), (6, .iconst 0, 1), (7, .aload_n 0, 1), (8, .getfield 71, 3), (11, .invokestatic 67, 3), (14, .ifCond .ne 5, 3), (17, .iconst (-1), 1), (18, .ireturn, 1), (19, .aload_n 0, 1), (20, .iload_n 1, 1), (21, .putfield 71, 3), (24, .iload_n 1, 1), (25, .ireturn, 1)]
theorem dtX7_end_0_0_ok : dcAll cX7_end dtX7_end_0_0 = true := sorry
theorem dX7_end_0 : decode cX7_end 0 = .ok (.aload_n 0, 1) := sorry
theorem dX7_end_1 : decode cX7_end 1 = .ok (.iconst 0, 1) := sorry
theorem dX7_end_2 : decode cX7_end 2 = .ok (.putfield 60, 3) := sorry
theorem dX7_end_5 : decode cX7_end 5 = .ok (.iload_n 1, 1) := sorry
theorem dX7_end_6 : decode cX7_end 6 = .ok (.iconst 0, 1) := sorry
theorem dX7_end_7 : decode cX7_end 7 = .ok (.aload_n 0, 1) := sorry
theorem dX7_end_8 : decode cX7_end 8 = .ok (.getfield 71, 3) := sorry
theorem dX7_end_11 : decode cX7_end 11 = .ok (.invokestatic 67, 3) := sorry
theorem dX7_end_14 : decode cX7_end 14 = .ok (.ifCond .ne 5, 3) := sorry
theorem dX7_end_17 : decode cX7_end 17 = .ok (.iconst (-1), 1) := sorry
theorem dX7_end_18 : decode cX7_end 18 = .ok (.ireturn, 1) := sorry
theorem dX7_end_19 : decode cX7_end 19 = .ok (.aload_n 0, 1) := sorry
theorem dX7_end_20 : decode cX7_end 20 = .ok (.iload_n 1, 1) := sorry
theorem dX7_end_21 : decode cX7_end 21 = .ok (.putfield 71, 3) := sorry
theorem dX7_end_24 : decode cX7_end 24 = .ok (.iload_n 1, 1) := sorry
theorem dX7_end_25 : decode cX7_end 25 = .ok (.ireturn, 1) := sorry
def dtX7_byteAt_0_0 : List (Nat × Instr × Nat) := [(0, .iload_n 1, 1), (1, .aload_n 0, 1), (2, .getfield 78, 3), (5, .if_icmp .ge 12, 3), (8, .aload_n 0, 1), (9, .getfield 39, 3), (12, .iload_n 1, 1), (13, .iaload, 1), (14, .goto 4, 3), (17, .iconst (-1), 1), (18, .ireturn, 1)]
theorem dtX7_byteAt_0_0_ok : dcAll cX7_byteAt dtX7_byteAt_0_0 = true := sorry
theorem dX7_byteAt_0 : decode cX7_byteAt 0 = .ok (.iload_n 1, 1) := sorry
theorem dX7_byteAt_1 : decode cX7_byteAt 1 = .ok (.aload_n 0, 1) := sorry
theorem dX7_byteAt_2 : decode cX7_byteAt 2 = .ok (.getfield 78, 3) := sorry
theorem dX7_byteAt_5 : decode cX7_byteAt 5 = .ok (.if_icmp .ge 12, 3) := sorry
theorem dX7_byteAt_8 : decode cX7_byteAt 8 = .ok (.aload_n 0, 1) := sorry
theorem dX7_byteAt_9 : decode cX7_byteAt 9 = .ok (.getfield 39, 3) := sorry
theorem dX7_byteAt_12 : decode cX7_byteAt 12 = .ok (.iload_n 1, 1) := sorry
theorem dX7_byteAt_13 : decode cX7_byteAt 13 = .ok (.iaload, 1) := sorry
theorem dX7_byteAt_14 : decode cX7_byteAt 14 = .ok (.goto 4, 3) := sorry
theorem dX7_byteAt_17 : decode cX7_byteAt 17 = .ok (.iconst (-1), 1) := sorry
theorem dX7_byteAt_18 : decode cX7_byteAt 18 = .ok (.ireturn, 1) := sorry
def dtX7_isSmall_0_0 : List (Nat × Instr × Nat) := [(0, .iload_n 0, 1), (1, .bipush 97, 2), (3, .if_icmp .lt 13, 3), (6, .iload_n 0, 1), (7, .bipush 122, 2), (9, .if_icmp .gt 7, 3), (12, .iconst 1, 1), (13, .goto 4, 3), (16, .iconst 0, 1), (17, .ireturn, 1)]
theorem dtX7_isSmall_0_0_ok : dcAll cX7_isSmall dtX7_isSmall_0_0 = true := sorry
theorem dX7_isSmall_0 : decode cX7_isSmall 0 = .ok (.iload_n 0, 1) := sorry
theorem dX7_isSmall_1 : decode cX7_isSmall 1 = .ok (.bipush 97, 2) := sorry
theorem dX7_isSmall_3 : decode cX7_isSmall 3 = .ok (.if_icmp .lt 13, 3) := sorry
theorem dX7_isSmall_6 : decode cX7_isSmall 6 = .ok (.iload_n 0, 1) := sorry
theorem dX7_isSmall_7 : decode cX7_isSmall 7 = .ok (.bipush 122, 2) := sorry
theorem dX7_isSmall_9 : decode cX7_isSmall 9 = .ok (.if_icmp .gt 7, 3) := sorry
theorem dX7_isSmall_12 : decode cX7_isSmall 12 = .ok (.iconst 1, 1) := sorry
theorem dX7_isSmall_13 : decode cX7_isSmall 13 = .ok (.goto 4, 3) := sorry
theorem dX7_isSmall_16 : decode cX7_isSmall 16 = .ok (.iconst 0, 1) := sorry
theorem dX7_isSmall_17 : decode cX7_isSmall 17 = .ok (.ireturn, 1) := sorry
def dtX7_isDigit_0_0 : List (Nat × Instr × Nat) := [(0, .iload_n 0, 1), (1, .bipush 48, 2), (3, .if_icmp .lt 13, 3), (6, .iload_n 0, 1), (7, .bipush 57, 2), (9, .if_icmp .gt 7, 3), (12, .iconst 1, 1), (13, .goto 4, 3), (16, .iconst 0, 1), (17, .ireturn, 1)]
theorem dtX7_isDigit_0_0_ok : dcAll cX7_isDigit dtX7_isDigit_0_0 = true := sorry
theorem dX7_isDigit_0 : decode cX7_isDigit 0 = .ok (.iload_n 0, 1) := sorry
theorem dX7_isDigit_1 : decode cX7_isDigit 1 = .ok (.bipush 48, 2) := sorry
theorem dX7_isDigit_3 : decode cX7_isDigit 3 = .ok (.if_icmp .lt 13, 3) := sorry
theorem dX7_isDigit_6 : decode cX7_isDigit 6 = .ok (.iload_n 0, 1) := sorry
theorem dX7_isDigit_7 : decode cX7_isDigit 7 = .ok (.bipush 57, 2) := sorry
theorem dX7_isDigit_9 : decode cX7_isDigit 9 = .ok (.if_icmp .gt 7, 3) := sorry
theorem dX7_isDigit_12 : decode cX7_isDigit 12 = .ok (.iconst 1, 1) := sorry
theorem dX7_isDigit_13 : decode cX7_isDigit 13 = .ok (.goto 4, 3) := sorry
theorem dX7_isDigit_16 : decode cX7_isDigit 16 = .ok (.iconst 0, 1) := sorry
theorem dX7_isDigit_17 : decode cX7_isDigit 17 = .ok (.ireturn, 1) := sorry
set_option maxRecDepth 20000 in
theorem ggX7_next_X7_byteAt : GoodIn wsX7_next wsX7_byteAt := sorry
set_option maxRecDepth 20000 in
theorem gX7_next_X7_byteAt : GoodIn wsX7_next (wsV RX7 87 RX7 yX7_byteAt wsX7_byteAt) := sorry
set_option maxRecDepth 20000 in
theorem ggX7_next_X7_isSmall : GoodIn wsX7_next wsX7_isSmall := sorry
set_option maxRecDepth 20000 in
theorem gX7_next_X7_isSmall : GoodIn wsX7_next (va_wsS RX7 100 yX7_isSmall wsX7_isSmall) := sorry
set_option maxRecDepth 20000 in
theorem ggX7_next_X7_isDigit : GoodIn wsX7_next wsX7_isDigit := sorry
set_option maxRecDepth 20000 in
theorem gX7_next_X7_isDigit : GoodIn wsX7_next (va_wsS RX7 104 yX7_isDigit wsX7_isDigit) := sorry
set_option maxRecDepth 20000 in
theorem ggX7_next_X7_runs : GoodIn wsX7_next wsX7_runs := sorry
set_option maxRecDepth 20000 in
theorem gX7_next_X7_runs : GoodIn wsX7_next (wsV RX7 107 RX7 yX7_runs wsX7_runs) := sorry
def dtX7_next_0_0 : List (Nat × Instr × Nat) := [(0, .aload_n 0, 1), (1, .getfield 81, 3), (4, .ifCond .le 4, 3), (7, .return_, 1), (8, .aload_n 0, 1), (9, .getfield 84, 3), (12, .istore_n 1, 1), (13, .aload_n 0, 1), (14, .iload_n 1, 1), (15, .invokevirtual 87, 3), (18, .bipush 32, 2), (20, .if_icmp .eq 13, 3), (23, .aload_n 0, 1), (24, .iload_n 1, 1), (25, .invokevirtual 87, 3), (28, .bipush 10, 2), (30, .if_icmp .ne 9, 3), (33, .iinc 1 1, 3), (36, .goto (-23), 3), (39, .aload_n 0, 1), (40, .iload_n 1, 1), (41, .putfield 91, 3), (44, .aload_n 0, 1), (45, .iload_n 1, 1), (46, .iconst 1, 1), (47, .iadd, 1), (48, .putfield 84, 3), (51, .aload_n 0, 1), (52, .iload_n 1, 1), (53, .invokevirtual 87, 3), (56, .istore_n 2, 1), (57, .aload_n 0, 1)]
theorem dtX7_next_0_0_ok : dcAll cX7_next dtX7_next_0_0 = true := sorry
theorem dX7_next_0 : decode cX7_next 0 = .ok (.aload_n 0, 1) := sorry
theorem dX7_next_1 : decode cX7_next 1 = .ok (.getfield 81, 3) := sorry
theorem dX7_next_4 : decode cX7_next 4 = .ok (.ifCond .le 4, 3) := sorry
theorem dX7_next_7 : decode cX7_next 7 = .ok (.return_, 1) := sorry
theorem dX7_next_8 : decode cX7_next 8 = .ok (.aload_n 0, 1) := sorry
theorem dX7_next_9 : decode cX7_next 9 = .ok (.getfield 84, 3) := sorry
theorem dX7_next_12 : decode cX7_next 12 = .ok (.istore_n 1, 1) := sorry
theorem dX7_next_13 : decode cX7_next 13 = .ok (.aload_n 0, 1) := sorry
theorem dX7_next_14 : decode cX7_next 14 = .ok (.iload_n 1, 1) := sorry
theorem dX7_next_15 : decode cX7_next 15 = .ok (.invokevirtual 87, 3) := sorry
theorem dX7_next_18 : decode cX7_next 18 = .ok (.bipush 32, 2) := sorry
theorem dX7_next_20 : decode cX7_next 20 = .ok (.if_icmp .eq 13, 3) := sorry
theorem dX7_next_23 : decode cX7_next 23 = .ok (.aload_n 0, 1) := sorry
theorem dX7_next_24 : decode cX7_next 24 = .ok (.iload_n 1, 1) := sorry
theorem dX7_next_25 : decode cX7_next 25 = .ok (.invokevirtual 87, 3) := sorry
theorem dX7_next_28 : decode cX7_next 28 = .ok (.bipush 10, 2) := sorry
theorem dX7_next_30 : decode cX7_next 30 = .ok (.if_icmp .ne 9, 3) := sorry
theorem dX7_next_33 : decode cX7_next 33 = .ok (.iinc 1 1, 3) := sorry
theorem dX7_next_36 : decode cX7_next 36 = .ok (.goto (-23), 3) := sorry
theorem dX7_next_39 : decode cX7_next 39 = .ok (.aload_n 0, 1) := sorry
theorem dX7_next_40 : decode cX7_next 40 = .ok (.iload_n 1, 1) := sorry
theorem dX7_next_41 : decode cX7_next 41 = .ok (.putfield 91, 3) := sorry
theorem dX7_next_44 : decode cX7_next 44 = .ok (.aload_n 0, 1) := sorry
theorem dX7_next_45 : decode cX7_next 45 = .ok (.iload_n 1, 1) := sorry
theorem dX7_next_46 : decode cX7_next 46 = .ok (.iconst 1, 1) := sorry
theorem dX7_next_47 : decode cX7_next 47 = .ok (.iadd, 1) := sorry
theorem dX7_next_48 : decode cX7_next 48 = .ok (.putfield 84, 3) := sorry
theorem dX7_next_51 : decode cX7_next 51 = .ok (.aload_n 0, 1) := sorry
theorem dX7_next_52 : decode cX7_next 52 = .ok (.iload_n 1, 1) := sorry
theorem dX7_next_53 : decode cX7_next 53 = .ok (.invokevirtual 87, 3) := sorry
theorem dX7_next_56 : decode cX7_next 56 = .ok (.istore_n 2, 1) := sorry
theorem dX7_next_57 : decode cX7_next 57 = .ok (.aload_n 0, 1) := sorry
def dtX7_next_58_1 : List (Nat × Instr × Nat) := [(58, .iconst 5, 1), (59, .putfield 94, 3), (62, .aload_n 0, 1), (63, .iload_n 2, 1), (64, .putfield 97, 3), (67, .iload_n 2, 1), (68, .iconst (-1), 1), (69, .if_icmp .ne 16, 3), (72, .aload_n 0, 1), (73, .iconst 0, 1), (74, .putfield 94, 3), (77, .aload_n 0, 1), (78, .iload_n 1, 1), (79, .putfield 84, 3), (82, .goto 72, 3), (85, .iload_n 2, 1), (86, .bipush 61, 2), (88, .if_icmp .eq 39, 3), (91, .iload_n 2, 1), (92, .bipush 60, 2), (94, .if_icmp .eq 33, 3), (97, .iload_n 2, 1), (98, .bipush 62, 2), (100, .if_icmp .eq 27, 3), (103, .iload_n 2, 1), (104, .bipush 43, 2), (106, .if_icmp .eq 21, 3), (109, .iload_n 2, 1), (110, .bipush 45, 2), (112, .if_icmp .eq 15, 3), (115, .iload_n 2, 1), (116, .bipush 44, 2)]
theorem dtX7_next_58_1_ok : dcAll cX7_next dtX7_next_58_1 = true := sorry
theorem dX7_next_58 : decode cX7_next 58 = .ok (.iconst 5, 1) := sorry
theorem dX7_next_59 : decode cX7_next 59 = .ok (.putfield 94, 3) := sorry
theorem dX7_next_62 : decode cX7_next 62 = .ok (.aload_n 0, 1) := sorry
theorem dX7_next_63 : decode cX7_next 63 = .ok (.iload_n 2, 1) := sorry
theorem dX7_next_64 : decode cX7_next 64 = .ok (.putfield 97, 3) := sorry
theorem dX7_next_67 : decode cX7_next 67 = .ok (.iload_n 2, 1) := sorry
theorem dX7_next_68 : decode cX7_next 68 = .ok (.iconst (-1), 1) := sorry
theorem dX7_next_69 : decode cX7_next 69 = .ok (.if_icmp .ne 16, 3) := sorry
theorem dX7_next_72 : decode cX7_next 72 = .ok (.aload_n 0, 1) := sorry
theorem dX7_next_73 : decode cX7_next 73 = .ok (.iconst 0, 1) := sorry
theorem dX7_next_74 : decode cX7_next 74 = .ok (.putfield 94, 3) := sorry
theorem dX7_next_77 : decode cX7_next 77 = .ok (.aload_n 0, 1) := sorry
theorem dX7_next_78 : decode cX7_next 78 = .ok (.iload_n 1, 1) := sorry
theorem dX7_next_79 : decode cX7_next 79 = .ok (.putfield 84, 3) := sorry
theorem dX7_next_82 : decode cX7_next 82 = .ok (.goto 72, 3) := sorry
theorem dX7_next_85 : decode cX7_next 85 = .ok (.iload_n 2, 1) := sorry
theorem dX7_next_86 : decode cX7_next 86 = .ok (.bipush 61, 2) := sorry
theorem dX7_next_88 : decode cX7_next 88 = .ok (.if_icmp .eq 39, 3) := sorry
theorem dX7_next_91 : decode cX7_next 91 = .ok (.iload_n 2, 1) := sorry
theorem dX7_next_92 : decode cX7_next 92 = .ok (.bipush 60, 2) := sorry
theorem dX7_next_94 : decode cX7_next 94 = .ok (.if_icmp .eq 33, 3) := sorry
theorem dX7_next_97 : decode cX7_next 97 = .ok (.iload_n 2, 1) := sorry
theorem dX7_next_98 : decode cX7_next 98 = .ok (.bipush 62, 2) := sorry
theorem dX7_next_100 : decode cX7_next 100 = .ok (.if_icmp .eq 27, 3) := sorry
theorem dX7_next_103 : decode cX7_next 103 = .ok (.iload_n 2, 1) := sorry
theorem dX7_next_104 : decode cX7_next 104 = .ok (.bipush 43, 2) := sorry
theorem dX7_next_106 : decode cX7_next 106 = .ok (.if_icmp .eq 21, 3) := sorry
theorem dX7_next_109 : decode cX7_next 109 = .ok (.iload_n 2, 1) := sorry
theorem dX7_next_110 : decode cX7_next 110 = .ok (.bipush 45, 2) := sorry
theorem dX7_next_112 : decode cX7_next 112 = .ok (.if_icmp .eq 15, 3) := sorry
theorem dX7_next_115 : decode cX7_next 115 = .ok (.iload_n 2, 1) := sorry
theorem dX7_next_116 : decode cX7_next 116 = .ok (.bipush 44, 2) := sorry
def dtX7_next_118_2 : List (Nat × Instr × Nat) := [(118, .if_icmp .eq 9, 3), (121, .iload_n 2, 1), (122, .bipush 59, 2), (124, .if_icmp .ne 11, 3), (127, .aload_n 0, 1), (128, .iconst 4, 1), (129, .putfield 94, 3), (132, .goto 22, 3), (135, .iload_n 2, 1), (136, .invokestatic 100, 3), (139, .ifCond .ne 10, 3), (142, .iload_n 2, 1), (143, .invokestatic 104, 3), (146, .ifCond .eq 8, 3), (149, .aload_n 0, 1), (150, .iload_n 1, 1), (151, .invokevirtual 107, 3), (154, .return_, 1)]
theorem dtX7_next_118_2_ok : dcAll cX7_next dtX7_next_118_2 = true := sorry
theorem dX7_next_118 : decode cX7_next 118 = .ok (.if_icmp .eq 9, 3) := sorry
theorem dX7_next_121 : decode cX7_next 121 = .ok (.iload_n 2, 1) := sorry
theorem dX7_next_122 : decode cX7_next 122 = .ok (.bipush 59, 2) := sorry
theorem dX7_next_124 : decode cX7_next 124 = .ok (.if_icmp .ne 11, 3) := sorry
theorem dX7_next_127 : decode cX7_next 127 = .ok (.aload_n 0, 1) := sorry
theorem dX7_next_128 : decode cX7_next 128 = .ok (.iconst 4, 1) := sorry
theorem dX7_next_129 : decode cX7_next 129 = .ok (.putfield 94, 3) := sorry
theorem dX7_next_132 : decode cX7_next 132 = .ok (.goto 22, 3) := sorry
theorem dX7_next_135 : decode cX7_next 135 = .ok (.iload_n 2, 1) := sorry
theorem dX7_next_136 : decode cX7_next 136 = .ok (.invokestatic 100, 3) := sorry
theorem dX7_next_139 : decode cX7_next 139 = .ok (.ifCond .ne 10, 3) := sorry
theorem dX7_next_142 : decode cX7_next 142 = .ok (.iload_n 2, 1) := sorry
theorem dX7_next_143 : decode cX7_next 143 = .ok (.invokestatic 104, 3) := sorry
theorem dX7_next_146 : decode cX7_next 146 = .ok (.ifCond .eq 8, 3) := sorry
theorem dX7_next_149 : decode cX7_next 149 = .ok (.aload_n 0, 1) := sorry
theorem dX7_next_150 : decode cX7_next 150 = .ok (.iload_n 1, 1) := sorry
theorem dX7_next_151 : decode cX7_next 151 = .ok (.invokevirtual 107, 3) := sorry
theorem dX7_next_154 : decode cX7_next 154 = .ok (.return_, 1) := sorry
set_option maxRecDepth 20000 in
theorem ggX7_runs_X7_byteAt : GoodIn wsX7_runs wsX7_byteAt := sorry
set_option maxRecDepth 20000 in
theorem gX7_runs_X7_byteAt : GoodIn wsX7_runs (wsV RX7 87 RX7 yX7_byteAt wsX7_byteAt) := sorry
set_option maxRecDepth 20000 in
theorem ggX7_runs_X7_isSmall : GoodIn wsX7_runs wsX7_isSmall := sorry
set_option maxRecDepth 20000 in
theorem gX7_runs_X7_isSmall : GoodIn wsX7_runs (va_wsS RX7 100 yX7_isSmall wsX7_isSmall) := sorry
set_option maxRecDepth 20000 in
theorem ggX7_runs_X7_isDigit : GoodIn wsX7_runs wsX7_isDigit := sorry
set_option maxRecDepth 20000 in
theorem gX7_runs_X7_isDigit : GoodIn wsX7_runs (va_wsS RX7 104 yX7_isDigit wsX7_isDigit) := sorry
def dtX7_runs_0_0 : List (Nat × Instr × Nat) := [(0, .iconst 0, 1), (1, .istore_n 2, 1), (2, .iload_n 1, 1), (3, .istore_n 3, 1), (4, .aload_n 0, 1), (5, .lconst 0, 1), (6, .putfield 111, 3), (9, .aload_n 0, 1), (10, .iconst 0, 1), (11, .putfield 97, 3), (14, .aload_n 0, 1), (15, .iload_n 3, 1), (16, .invokevirtual 87, 3), (19, .invokestatic 100, 3), (22, .ifCond .ne 14, 3), (25, .aload_n 0, 1), (26, .iload_n 3, 1), (27, .invokevirtual 87, 3), (30, .invokestatic 104, 3), (33, .ifCond .eq 83, 3), (36, .aload_n 0, 1), (37, .iload_n 3, 1), (38, .invokevirtual 87, 3), (41, .istore 4, 2), (43, .iload 4, 2), (45, .invokestatic 100, 3), (48, .ifCond .eq 6, 3), (51, .iinc 2 1, 3), (54, .iload_n 3, 1), (55, .iload_n 1, 1), (56, .isub, 1), (57, .bipush 8, 2)]
theorem dtX7_runs_0_0_ok : dcAll cX7_runs dtX7_runs_0_0 = true := sorry
theorem dX7_runs_0 : decode cX7_runs 0 = .ok (.iconst 0, 1) := sorry
theorem dX7_runs_1 : decode cX7_runs 1 = .ok (.istore_n 2, 1) := sorry
theorem dX7_runs_2 : decode cX7_runs 2 = .ok (.iload_n 1, 1) := sorry
theorem dX7_runs_3 : decode cX7_runs 3 = .ok (.istore_n 3, 1) := sorry
theorem dX7_runs_4 : decode cX7_runs 4 = .ok (.aload_n 0, 1) := sorry
theorem dX7_runs_5 : decode cX7_runs 5 = .ok (.lconst 0, 1) := sorry
theorem dX7_runs_6 : decode cX7_runs 6 = .ok (.putfield 111, 3) := sorry
theorem dX7_runs_9 : decode cX7_runs 9 = .ok (.aload_n 0, 1) := sorry
theorem dX7_runs_10 : decode cX7_runs 10 = .ok (.iconst 0, 1) := sorry
theorem dX7_runs_11 : decode cX7_runs 11 = .ok (.putfield 97, 3) := sorry
theorem dX7_runs_14 : decode cX7_runs 14 = .ok (.aload_n 0, 1) := sorry
theorem dX7_runs_15 : decode cX7_runs 15 = .ok (.iload_n 3, 1) := sorry
theorem dX7_runs_16 : decode cX7_runs 16 = .ok (.invokevirtual 87, 3) := sorry
theorem dX7_runs_19 : decode cX7_runs 19 = .ok (.invokestatic 100, 3) := sorry
theorem dX7_runs_22 : decode cX7_runs 22 = .ok (.ifCond .ne 14, 3) := sorry
theorem dX7_runs_25 : decode cX7_runs 25 = .ok (.aload_n 0, 1) := sorry
theorem dX7_runs_26 : decode cX7_runs 26 = .ok (.iload_n 3, 1) := sorry
theorem dX7_runs_27 : decode cX7_runs 27 = .ok (.invokevirtual 87, 3) := sorry
theorem dX7_runs_30 : decode cX7_runs 30 = .ok (.invokestatic 104, 3) := sorry
theorem dX7_runs_33 : decode cX7_runs 33 = .ok (.ifCond .eq 83, 3) := sorry
theorem dX7_runs_36 : decode cX7_runs 36 = .ok (.aload_n 0, 1) := sorry
theorem dX7_runs_37 : decode cX7_runs 37 = .ok (.iload_n 3, 1) := sorry
theorem dX7_runs_38 : decode cX7_runs 38 = .ok (.invokevirtual 87, 3) := sorry
theorem dX7_runs_41 : decode cX7_runs 41 = .ok (.istore 4, 2) := sorry
theorem dX7_runs_43 : decode cX7_runs 43 = .ok (.iload 4, 2) := sorry
theorem dX7_runs_45 : decode cX7_runs 45 = .ok (.invokestatic 100, 3) := sorry
theorem dX7_runs_48 : decode cX7_runs 48 = .ok (.ifCond .eq 6, 3) := sorry
theorem dX7_runs_51 : decode cX7_runs 51 = .ok (.iinc 2 1, 3) := sorry
theorem dX7_runs_54 : decode cX7_runs 54 = .ok (.iload_n 3, 1) := sorry
theorem dX7_runs_55 : decode cX7_runs 55 = .ok (.iload_n 1, 1) := sorry
theorem dX7_runs_56 : decode cX7_runs 56 = .ok (.isub, 1) := sorry
theorem dX7_runs_57 : decode cX7_runs 57 = .ok (.bipush 8, 2) := sorry
def dtX7_runs_59_1 : List (Nat × Instr × Nat) := [(59, .if_icmp .ge 19, 3), (62, .aload_n 0, 1), (63, .ldc2_w 115, 3), (66, .aload_n 0, 1), (67, .getfield 111, 3), (70, .lmul, 1), (71, .iload 4, 2), (73, .i2l, 1), (74, .ladd, 1), (75, .putfield 111, 3), (78, .iload_n 3, 1), (79, .iload_n 1, 1), (80, .isub, 1), (81, .iconst 4, 1), (82, .if_icmp .ge 28, 3), (85, .iload 4, 2), (87, .invokestatic 104, 3), (90, .ifCond .eq 20, 3), (93, .aload_n 0, 1), (94, .bipush 10, 2), (96, .aload_n 0, 1), (97, .getfield 97, 3), (100, .imul, 1), (101, .iload 4, 2), (103, .iadd, 1), (104, .bipush 48, 2), (106, .isub, 1), (107, .putfield 97, 3), (110, .iinc 3 1, 3), (113, .goto (-99), 3), (116, .aload_n 0, 1), (117, .iload_n 3, 1)]
theorem dtX7_runs_59_1_ok : dcAll cX7_runs dtX7_runs_59_1 = true := sorry
theorem dX7_runs_59 : decode cX7_runs 59 = .ok (.if_icmp .ge 19, 3) := sorry
theorem dX7_runs_62 : decode cX7_runs 62 = .ok (.aload_n 0, 1) := sorry
theorem dX7_runs_63 : decode cX7_runs 63 = .ok (.ldc2_w 115, 3) := sorry
theorem dX7_runs_66 : decode cX7_runs 66 = .ok (.aload_n 0, 1) := sorry
theorem dX7_runs_67 : decode cX7_runs 67 = .ok (.getfield 111, 3) := sorry
theorem dX7_runs_70 : decode cX7_runs 70 = .ok (.lmul, 1) := sorry
theorem dX7_runs_71 : decode cX7_runs 71 = .ok (.iload 4, 2) := sorry
theorem dX7_runs_73 : decode cX7_runs 73 = .ok (.i2l, 1) := sorry
theorem dX7_runs_74 : decode cX7_runs 74 = .ok (.ladd, 1) := sorry
theorem dX7_runs_75 : decode cX7_runs 75 = .ok (.putfield 111, 3) := sorry
theorem dX7_runs_78 : decode cX7_runs 78 = .ok (.iload_n 3, 1) := sorry
theorem dX7_runs_79 : decode cX7_runs 79 = .ok (.iload_n 1, 1) := sorry
theorem dX7_runs_80 : decode cX7_runs 80 = .ok (.isub, 1) := sorry
theorem dX7_runs_81 : decode cX7_runs 81 = .ok (.iconst 4, 1) := sorry
theorem dX7_runs_82 : decode cX7_runs 82 = .ok (.if_icmp .ge 28, 3) := sorry
theorem dX7_runs_85 : decode cX7_runs 85 = .ok (.iload 4, 2) := sorry
theorem dX7_runs_87 : decode cX7_runs 87 = .ok (.invokestatic 104, 3) := sorry
theorem dX7_runs_90 : decode cX7_runs 90 = .ok (.ifCond .eq 20, 3) := sorry
theorem dX7_runs_93 : decode cX7_runs 93 = .ok (.aload_n 0, 1) := sorry
theorem dX7_runs_94 : decode cX7_runs 94 = .ok (.bipush 10, 2) := sorry
theorem dX7_runs_96 : decode cX7_runs 96 = .ok (.aload_n 0, 1) := sorry
theorem dX7_runs_97 : decode cX7_runs 97 = .ok (.getfield 97, 3) := sorry
theorem dX7_runs_100 : decode cX7_runs 100 = .ok (.imul, 1) := sorry
theorem dX7_runs_101 : decode cX7_runs 101 = .ok (.iload 4, 2) := sorry
theorem dX7_runs_103 : decode cX7_runs 103 = .ok (.iadd, 1) := sorry
theorem dX7_runs_104 : decode cX7_runs 104 = .ok (.bipush 48, 2) := sorry
theorem dX7_runs_106 : decode cX7_runs 106 = .ok (.isub, 1) := sorry
theorem dX7_runs_107 : decode cX7_runs 107 = .ok (.putfield 97, 3) := sorry
theorem dX7_runs_110 : decode cX7_runs 110 = .ok (.iinc 3 1, 3) := sorry
theorem dX7_runs_113 : decode cX7_runs 113 = .ok (.goto (-99), 3) := sorry
theorem dX7_runs_116 : decode cX7_runs 116 = .ok (.aload_n 0, 1) := sorry
theorem dX7_runs_117 : decode cX7_runs 117 = .ok (.iload_n 3, 1) := sorry
def dtX7_runs_118_2 : List (Nat × Instr × Nat) := [(118, .putfield 84, 3), (121, .iload_n 3, 1), (122, .iload_n 1, 1), (123, .isub, 1), (124, .istore 4, 2), (126, .iload_n 2, 1), (127, .iload 4, 2), (129, .if_icmp .ne 15, 3), (132, .iload 4, 2), (134, .bipush 9, 2), (136, .if_icmp .ge 8, 3), (139, .aload_n 0, 1), (140, .iconst 2, 1), (141, .putfield 94, 3), (144, .iload_n 2, 1), (145, .ifCond .ne 14, 3), (148, .iload 4, 2), (150, .iconst 5, 1), (151, .if_icmp .ge 8, 3), (154, .aload_n 0, 1), (155, .iconst 3, 1), (156, .putfield 94, 3), (159, .iload 4, 2), (161, .iconst 2, 1), (162, .if_icmp .ne 32, 3), (165, .aload_n 0, 1), (166, .getfield 39, 3), (169, .iload_n 1, 1), (170, .iaload, 1), (171, .bipush 99, 2), (173, .if_icmp .ne 21, 3), (176, .iload_n 2, 1)]
theorem dtX7_runs_118_2_ok : dcAll cX7_runs dtX7_runs_118_2 = true := sorry
theorem dX7_runs_118 : decode cX7_runs 118 = .ok (.putfield 84, 3) := sorry
theorem dX7_runs_121 : decode cX7_runs 121 = .ok (.iload_n 3, 1) := sorry
theorem dX7_runs_122 : decode cX7_runs 122 = .ok (.iload_n 1, 1) := sorry
theorem dX7_runs_123 : decode cX7_runs 123 = .ok (.isub, 1) := sorry
theorem dX7_runs_124 : decode cX7_runs 124 = .ok (.istore 4, 2) := sorry
theorem dX7_runs_126 : decode cX7_runs 126 = .ok (.iload_n 2, 1) := sorry
theorem dX7_runs_127 : decode cX7_runs 127 = .ok (.iload 4, 2) := sorry
theorem dX7_runs_129 : decode cX7_runs 129 = .ok (.if_icmp .ne 15, 3) := sorry
theorem dX7_runs_132 : decode cX7_runs 132 = .ok (.iload 4, 2) := sorry
theorem dX7_runs_134 : decode cX7_runs 134 = .ok (.bipush 9, 2) := sorry
theorem dX7_runs_136 : decode cX7_runs 136 = .ok (.if_icmp .ge 8, 3) := sorry
theorem dX7_runs_139 : decode cX7_runs 139 = .ok (.aload_n 0, 1) := sorry
theorem dX7_runs_140 : decode cX7_runs 140 = .ok (.iconst 2, 1) := sorry
theorem dX7_runs_141 : decode cX7_runs 141 = .ok (.putfield 94, 3) := sorry
theorem dX7_runs_144 : decode cX7_runs 144 = .ok (.iload_n 2, 1) := sorry
theorem dX7_runs_145 : decode cX7_runs 145 = .ok (.ifCond .ne 14, 3) := sorry
theorem dX7_runs_148 : decode cX7_runs 148 = .ok (.iload 4, 2) := sorry
theorem dX7_runs_150 : decode cX7_runs 150 = .ok (.iconst 5, 1) := sorry
theorem dX7_runs_151 : decode cX7_runs 151 = .ok (.if_icmp .ge 8, 3) := sorry
theorem dX7_runs_154 : decode cX7_runs 154 = .ok (.aload_n 0, 1) := sorry
theorem dX7_runs_155 : decode cX7_runs 155 = .ok (.iconst 3, 1) := sorry
theorem dX7_runs_156 : decode cX7_runs 156 = .ok (.putfield 94, 3) := sorry
theorem dX7_runs_159 : decode cX7_runs 159 = .ok (.iload 4, 2) := sorry
theorem dX7_runs_161 : decode cX7_runs 161 = .ok (.iconst 2, 1) := sorry
theorem dX7_runs_162 : decode cX7_runs 162 = .ok (.if_icmp .ne 32, 3) := sorry
theorem dX7_runs_165 : decode cX7_runs 165 = .ok (.aload_n 0, 1) := sorry
theorem dX7_runs_166 : decode cX7_runs 166 = .ok (.getfield 39, 3) := sorry
theorem dX7_runs_169 : decode cX7_runs 169 = .ok (.iload_n 1, 1) := sorry
theorem dX7_runs_170 : decode cX7_runs 170 = .ok (.iaload, 1) := sorry
theorem dX7_runs_171 : decode cX7_runs 171 = .ok (.bipush 99, 2) := sorry
theorem dX7_runs_173 : decode cX7_runs 173 = .ok (.if_icmp .ne 21, 3) := sorry
theorem dX7_runs_176 : decode cX7_runs 176 = .ok (.iload_n 2, 1) := sorry
def dtX7_runs_177_3 : List (Nat × Instr × Nat) := [(177, .iconst 1, 1), (178, .if_icmp .ne 16, 3), (181, .aload_n 0, 1), (182, .getfield 97, 3), (185, .iconst 4, 1), (186, .if_icmp .ge 8, 3), (189, .aload_n 0, 1), (190, .iconst 1, 1), (191, .putfield 94, 3), (194, .return_, 1)]
theorem dtX7_runs_177_3_ok : dcAll cX7_runs dtX7_runs_177_3 = true := sorry
theorem dX7_runs_177 : decode cX7_runs 177 = .ok (.iconst 1, 1) := sorry
theorem dX7_runs_178 : decode cX7_runs 178 = .ok (.if_icmp .ne 16, 3) := sorry
theorem dX7_runs_181 : decode cX7_runs 181 = .ok (.aload_n 0, 1) := sorry
theorem dX7_runs_182 : decode cX7_runs 182 = .ok (.getfield 97, 3) := sorry
theorem dX7_runs_185 : decode cX7_runs 185 = .ok (.iconst 4, 1) := sorry
theorem dX7_runs_186 : decode cX7_runs 186 = .ok (.if_icmp .ge 8, 3) := sorry
theorem dX7_runs_189 : decode cX7_runs 189 = .ok (.aload_n 0, 1) := sorry
theorem dX7_runs_190 : decode cX7_runs 190 = .ok (.iconst 1, 1) := sorry
theorem dX7_runs_191 : decode cX7_runs 191 = .ok (.putfield 94, 3) := sorry
theorem dX7_runs_194 : decode cX7_runs 194 = .ok (.return_, 1) := sorry
def dtX7_wrong_0_0 : List (Nat × Instr × Nat) := [(0, .aload_n 0, 1), (1, .getfield 81, 3), (4, .ifCond .ne 16, 3), (7, .aload_n 0, 1), (8, .bipush 8, 2), (10, .aload_n 0, 1), (11, .getfield 91, 3), (14, .imul, 1), (15, .iload_n 1, 1), (16, .iadd, 1), (17, .putfield 81, 3), (20, .return_, 1)]
theorem dtX7_wrong_0_0_ok : dcAll cX7_wrong dtX7_wrong_0_0 = true := sorry
theorem dX7_wrong_0 : decode cX7_wrong 0 = .ok (.aload_n 0, 1) := sorry
theorem dX7_wrong_1 : decode cX7_wrong 1 = .ok (.getfield 81, 3) := sorry
theorem dX7_wrong_4 : decode cX7_wrong 4 = .ok (.ifCond .ne 16, 3) := sorry
theorem dX7_wrong_7 : decode cX7_wrong 7 = .ok (.aload_n 0, 1) := sorry
theorem dX7_wrong_8 : decode cX7_wrong 8 = .ok (.bipush 8, 2) := sorry
theorem dX7_wrong_10 : decode cX7_wrong 10 = .ok (.aload_n 0, 1) := sorry
theorem dX7_wrong_11 : decode cX7_wrong 11 = .ok (.getfield 91, 3) := sorry
theorem dX7_wrong_14 : decode cX7_wrong 14 = .ok (.imul, 1) := sorry
theorem dX7_wrong_15 : decode cX7_wrong 15 = .ok (.iload_n 1, 1) := sorry
theorem dX7_wrong_16 : decode cX7_wrong 16 = .ok (.iadd, 1) := sorry
theorem dX7_wrong_17 : decode cX7_wrong 17 = .ok (.putfield 81, 3) := sorry
theorem dX7_wrong_20 : decode cX7_wrong 20 = .ok (.return_, 1) := sorry
set_option maxRecDepth 20000 in
theorem ggX7_packed_J0_length_8abf5 : GoodIn wsX7_packed wsJ0_length_8abf5 := sorry
set_option maxRecDepth 20000 in
theorem gX7_packed_J0_length_8abf5 : GoodIn wsX7_packed (wsV RX7 117 RJ0 yJ0_length_8abf5 wsJ0_length_8abf5) := sorry
set_option maxRecDepth 20000 in
theorem ggX7_packed_J0_charAt_5068e : GoodIn wsX7_packed wsJ0_charAt_5068e := sorry
set_option maxRecDepth 20000 in
theorem gX7_packed_J0_charAt_5068e : GoodIn wsX7_packed (wsV RX7 123 RJ0 yJ0_charAt_5068e wsJ0_charAt_5068e) := sorry
def dtX7_packed_0_0 : List (Nat × Instr × Nat) := [(0, .lconst 0, 1), (1, .lstore_n 1, 1), (2, .iconst 0, 1), (3, .istore_n 3, 1), (4, .iload_n 3, 1), (5, .aload_n 0, 1), (6, .invokevirtual 117, 3), (9, .if_icmp .ge 22, 3), (12, .ldc2_w 115, 3), (15, .lload_n 1, 1), (16, .lmul, 1), (17, .aload_n 0, 1), (18, .iload_n 3, 1), (19, .invokevirtual 123, 3), (22, .i2l, 1), (23, .ladd, 1), (24, .lstore_n 1, 1), (25, .iinc 3 1, 3), (28, .goto (-24), 3), (31, .lload_n 1, 1), (32, .lreturn, 1)]
theorem dtX7_packed_0_0_ok : dcAll cX7_packed dtX7_packed_0_0 = true := sorry
theorem dX7_packed_0 : decode cX7_packed 0 = .ok (.lconst 0, 1) := sorry
theorem dX7_packed_1 : decode cX7_packed 1 = .ok (.lstore_n 1, 1) := sorry
theorem dX7_packed_2 : decode cX7_packed 2 = .ok (.iconst 0, 1) := sorry
theorem dX7_packed_3 : decode cX7_packed 3 = .ok (.istore_n 3, 1) := sorry
theorem dX7_packed_4 : decode cX7_packed 4 = .ok (.iload_n 3, 1) := sorry
theorem dX7_packed_5 : decode cX7_packed 5 = .ok (.aload_n 0, 1) := sorry
theorem dX7_packed_6 : decode cX7_packed 6 = .ok (.invokevirtual 117, 3) := sorry
theorem dX7_packed_9 : decode cX7_packed 9 = .ok (.if_icmp .ge 22, 3) := sorry
theorem dX7_packed_12 : decode cX7_packed 12 = .ok (.ldc2_w 115, 3) := sorry
theorem dX7_packed_15 : decode cX7_packed 15 = .ok (.lload_n 1, 1) := sorry
theorem dX7_packed_16 : decode cX7_packed 16 = .ok (.lmul, 1) := sorry
theorem dX7_packed_17 : decode cX7_packed 17 = .ok (.aload_n 0, 1) := sorry
theorem dX7_packed_18 : decode cX7_packed 18 = .ok (.iload_n 3, 1) := sorry
theorem dX7_packed_19 : decode cX7_packed 19 = .ok (.invokevirtual 123, 3) := sorry
theorem dX7_packed_22 : decode cX7_packed 22 = .ok (.i2l, 1) := sorry
theorem dX7_packed_23 : decode cX7_packed 23 = .ok (.ladd, 1) := sorry
theorem dX7_packed_24 : decode cX7_packed 24 = .ok (.lstore_n 1, 1) := sorry
theorem dX7_packed_25 : decode cX7_packed 25 = .ok (.iinc 3 1, 3) := sorry
theorem dX7_packed_28 : decode cX7_packed 28 = .ok (.goto (-24), 3) := sorry
theorem dX7_packed_31 : decode cX7_packed 31 = .ok (.lload_n 1, 1) := sorry
theorem dX7_packed_32 : decode cX7_packed 32 = .ok (.lreturn, 1) := sorry
set_option maxRecDepth 20000 in
theorem ggX7_isWord_X7_packed : GoodIn wsX7_isWord wsX7_packed := sorry
set_option maxRecDepth 20000 in
theorem gX7_isWord_X7_packed : GoodIn wsX7_isWord (va_wsS RX7 127 yX7_packed wsX7_packed) := sorry
def dtX7_isWord_0_0 : List (Nat × Instr × Nat) := [(0, .aload_n 0, 1), (1, .getfield 81, 3), (4, .ifCond .ne 27, 3), (7, .aload_n 0, 1), (8, .getfield 94, 3), (11, .iconst 2, 1), (12, .if_icmp .ne 19, 3), (15, .aload_n 0, 1), (16, .getfield 111, 3), (19, .aload_n 1, 1), (20, .invokestatic 127, 3), (23, .lcmp, 1), (24, .ifCond .ne 7, 3), (27, .iconst 1, 1), (28, .goto 4, 3), (31, .iconst 0, 1), (32, .ireturn, 1)]
theorem dtX7_isWord_0_0_ok : dcAll cX7_isWord dtX7_isWord_0_0 = true := sorry
theorem dX7_isWord_0 : decode cX7_isWord 0 = .ok (.aload_n 0, 1) := sorry
theorem dX7_isWord_1 : decode cX7_isWord 1 = .ok (.getfield 81, 3) := sorry
theorem dX7_isWord_4 : decode cX7_isWord 4 = .ok (.ifCond .ne 27, 3) := sorry
theorem dX7_isWord_7 : decode cX7_isWord 7 = .ok (.aload_n 0, 1) := sorry
theorem dX7_isWord_8 : decode cX7_isWord 8 = .ok (.getfield 94, 3) := sorry
theorem dX7_isWord_11 : decode cX7_isWord 11 = .ok (.iconst 2, 1) := sorry
theorem dX7_isWord_12 : decode cX7_isWord 12 = .ok (.if_icmp .ne 19, 3) := sorry
theorem dX7_isWord_15 : decode cX7_isWord 15 = .ok (.aload_n 0, 1) := sorry
theorem dX7_isWord_16 : decode cX7_isWord 16 = .ok (.getfield 111, 3) := sorry
theorem dX7_isWord_19 : decode cX7_isWord 19 = .ok (.aload_n 1, 1) := sorry
theorem dX7_isWord_20 : decode cX7_isWord 20 = .ok (.invokestatic 127, 3) := sorry
theorem dX7_isWord_23 : decode cX7_isWord 23 = .ok (.lcmp, 1) := sorry
theorem dX7_isWord_24 : decode cX7_isWord 24 = .ok (.ifCond .ne 7, 3) := sorry
theorem dX7_isWord_27 : decode cX7_isWord 27 = .ok (.iconst 1, 1) := sorry
theorem dX7_isWord_28 : decode cX7_isWord 28 = .ok (.goto 4, 3) := sorry
theorem dX7_isWord_31 : decode cX7_isWord 31 = .ok (.iconst 0, 1) := sorry
theorem dX7_isWord_32 : decode cX7_isWord 32 = .ok (.ireturn, 1) := sorry
def dtX7_isSign_0_0 : List (Nat × Instr × Nat) := [(0, .aload_n 0, 1), (1, .getfield 81, 3), (4, .ifCond .ne 23, 3), (7, .aload_n 0, 1), (8, .getfield 94, 3), (11, .iconst 4, 1), (12, .if_icmp .ne 15, 3), (15, .aload_n 0, 1), (16, .getfield 97, 3), (19, .iload_n 1, 1), (20, .if_icmp .ne 7, 3), (23, .iconst 1, 1), (24, .goto 4, 3), (27, .iconst 0, 1), (28, .ireturn, 1)]
theorem dtX7_isSign_0_0_ok : dcAll cX7_isSign dtX7_isSign_0_0 = true := sorry
theorem dX7_isSign_0 : decode cX7_isSign 0 = .ok (.aload_n 0, 1) := sorry
theorem dX7_isSign_1 : decode cX7_isSign 1 = .ok (.getfield 81, 3) := sorry
theorem dX7_isSign_4 : decode cX7_isSign 4 = .ok (.ifCond .ne 23, 3) := sorry
theorem dX7_isSign_7 : decode cX7_isSign 7 = .ok (.aload_n 0, 1) := sorry
theorem dX7_isSign_8 : decode cX7_isSign 8 = .ok (.getfield 94, 3) := sorry
theorem dX7_isSign_11 : decode cX7_isSign 11 = .ok (.iconst 4, 1) := sorry
theorem dX7_isSign_12 : decode cX7_isSign 12 = .ok (.if_icmp .ne 15, 3) := sorry
theorem dX7_isSign_15 : decode cX7_isSign 15 = .ok (.aload_n 0, 1) := sorry
theorem dX7_isSign_16 : decode cX7_isSign 16 = .ok (.getfield 97, 3) := sorry
theorem dX7_isSign_19 : decode cX7_isSign 19 = .ok (.iload_n 1, 1) := sorry
theorem dX7_isSign_20 : decode cX7_isSign 20 = .ok (.if_icmp .ne 7, 3) := sorry
theorem dX7_isSign_23 : decode cX7_isSign 23 = .ok (.iconst 1, 1) := sorry
theorem dX7_isSign_24 : decode cX7_isSign 24 = .ok (.goto 4, 3) := sorry
theorem dX7_isSign_27 : decode cX7_isSign 27 = .ok (.iconst 0, 1) := sorry
theorem dX7_isSign_28 : decode cX7_isSign 28 = .ok (.ireturn, 1) := sorry
set_option maxRecDepth 20000 in
theorem ggX7_mustSign_X7_isSign : GoodIn wsX7_mustSign wsX7_isSign := sorry
set_option maxRecDepth 20000 in
theorem gX7_mustSign_X7_isSign : GoodIn wsX7_mustSign (wsV RX7 131 RX7 yX7_isSign wsX7_isSign) := sorry
set_option maxRecDepth 20000 in
theorem ggX7_mustSign_X7_wrong : GoodIn wsX7_mustSign wsX7_wrong := sorry
set_option maxRecDepth 20000 in
theorem gX7_mustSign_X7_wrong : GoodIn wsX7_mustSign (wsV RX7 134 RX7 yX7_wrong wsX7_wrong) := sorry
set_option maxRecDepth 20000 in
theorem ggX7_mustSign_X7_next : GoodIn wsX7_mustSign wsX7_next := sorry
set_option maxRecDepth 20000 in
theorem gX7_mustSign_X7_next : GoodIn wsX7_mustSign (wsV RX7 137 RX7 yX7_next wsX7_next) := sorry
def dtX7_mustSign_0_0 : List (Nat × Instr × Nat) := [(0, .aload_n 0, 1), (1, .getfield 81, 3), (4, .ifCond .ne 16, 3), (7, .aload_n 0, 1), (8, .iload_n 1, 1), (9, .invokevirtual 131, 3), (12, .ifCond .ne 8, 3), (15, .aload_n 0, 1), (16, .iconst 1, 1), (17, .invokevirtual 134, 3), (20, .aload_n 0, 1), (21, .invokevirtual 137, 3), (24, .return_, 1)]
theorem dtX7_mustSign_0_0_ok : dcAll cX7_mustSign dtX7_mustSign_0_0 = true := sorry
theorem dX7_mustSign_0 : decode cX7_mustSign 0 = .ok (.aload_n 0, 1) := sorry
theorem dX7_mustSign_1 : decode cX7_mustSign 1 = .ok (.getfield 81, 3) := sorry
theorem dX7_mustSign_4 : decode cX7_mustSign 4 = .ok (.ifCond .ne 16, 3) := sorry
theorem dX7_mustSign_7 : decode cX7_mustSign 7 = .ok (.aload_n 0, 1) := sorry
theorem dX7_mustSign_8 : decode cX7_mustSign 8 = .ok (.iload_n 1, 1) := sorry
theorem dX7_mustSign_9 : decode cX7_mustSign 9 = .ok (.invokevirtual 131, 3) := sorry
theorem dX7_mustSign_12 : decode cX7_mustSign 12 = .ok (.ifCond .ne 8, 3) := sorry
theorem dX7_mustSign_15 : decode cX7_mustSign 15 = .ok (.aload_n 0, 1) := sorry
theorem dX7_mustSign_16 : decode cX7_mustSign 16 = .ok (.iconst 1, 1) := sorry
theorem dX7_mustSign_17 : decode cX7_mustSign 17 = .ok (.invokevirtual 134, 3) := sorry
theorem dX7_mustSign_20 : decode cX7_mustSign 20 = .ok (.aload_n 0, 1) := sorry
theorem dX7_mustSign_21 : decode cX7_mustSign 21 = .ok (.invokevirtual 137, 3) := sorry
theorem dX7_mustSign_24 : decode cX7_mustSign 24 = .ok (.return_, 1) := sorry
set_option maxRecDepth 20000 in
theorem ggX7_mustWord_X7_isWord : GoodIn wsX7_mustWord wsX7_isWord := sorry
set_option maxRecDepth 20000 in
theorem gX7_mustWord_X7_isWord : GoodIn wsX7_mustWord (wsV RX7 140 RX7 yX7_isWord wsX7_isWord) := sorry
set_option maxRecDepth 20000 in
theorem ggX7_mustWord_X7_wrong : GoodIn wsX7_mustWord wsX7_wrong := sorry
set_option maxRecDepth 20000 in
theorem gX7_mustWord_X7_wrong : GoodIn wsX7_mustWord (wsV RX7 134 RX7 yX7_wrong wsX7_wrong) := sorry
set_option maxRecDepth 20000 in
theorem ggX7_mustWord_X7_next : GoodIn wsX7_mustWord wsX7_next := sorry
set_option maxRecDepth 20000 in
theorem gX7_mustWord_X7_next : GoodIn wsX7_mustWord (wsV RX7 137 RX7 yX7_next wsX7_next) := sorry
def dtX7_mustWord_0_0 : List (Nat × Instr × Nat) := [(0, .aload_n 0, 1), (1, .getfield 81, 3), (4, .ifCond .ne 16, 3), (7, .aload_n 0, 1), (8, .aload_n 1, 1), (9, .invokevirtual 140, 3), (12, .ifCond .ne 8, 3), (15, .aload_n 0, 1), (16, .iconst 1, 1), (17, .invokevirtual 134, 3), (20, .aload_n 0, 1), (21, .invokevirtual 137, 3), (24, .return_, 1)]
theorem dtX7_mustWord_0_0_ok : dcAll cX7_mustWord dtX7_mustWord_0_0 = true := sorry
theorem dX7_mustWord_0 : decode cX7_mustWord 0 = .ok (.aload_n 0, 1) := sorry
theorem dX7_mustWord_1 : decode cX7_mustWord 1 = .ok (.getfield 81, 3) := sorry
theorem dX7_mustWord_4 : decode cX7_mustWord 4 = .ok (.ifCond .ne 16, 3) := sorry
theorem dX7_mustWord_7 : decode cX7_mustWord 7 = .ok (.aload_n 0, 1) := sorry
theorem dX7_mustWord_8 : decode cX7_mustWord 8 = .ok (.aload_n 1, 1) := sorry
theorem dX7_mustWord_9 : decode cX7_mustWord 9 = .ok (.invokevirtual 140, 3) := sorry
theorem dX7_mustWord_12 : decode cX7_mustWord 12 = .ok (.ifCond .ne 8, 3) := sorry
theorem dX7_mustWord_15 : decode cX7_mustWord 15 = .ok (.aload_n 0, 1) := sorry
theorem dX7_mustWord_16 : decode cX7_mustWord 16 = .ok (.iconst 1, 1) := sorry
theorem dX7_mustWord_17 : decode cX7_mustWord 17 = .ok (.invokevirtual 134, 3) := sorry
theorem dX7_mustWord_20 : decode cX7_mustWord 20 = .ok (.aload_n 0, 1) := sorry
theorem dX7_mustWord_21 : decode cX7_mustWord 21 = .ok (.invokevirtual 137, 3) := sorry
theorem dX7_mustWord_24 : decode cX7_mustWord 24 = .ok (.return_, 1) := sorry
set_option maxRecDepth 20000 in
theorem ggX7_isReserved_X7_isWord : GoodIn wsX7_isReserved wsX7_isWord := sorry
set_option maxRecDepth 20000 in
theorem gX7_isReserved_X7_isWord : GoodIn wsX7_isReserved (wsV RX7 140 RX7 yX7_isWord wsX7_isWord) := sorry
def dtX7_isReserved_0_0 : List (Nat × Instr × Nat) := [(0, .aload_n 0, 1), (1, .ldc 144, 2), (3, .invokevirtual 140, 3), (6, .ifCond .ne 48, 3), (9, .aload_n 0, 1), (10, .ldc 146, 2), (12, .invokevirtual 140, 3), (15, .ifCond .ne 39, 3), (18, .aload_n 0, 1), (19, .ldc 148, 2), (21, .invokevirtual 140, 3), (24, .ifCond .ne 30, 3), (27, .aload_n 0, 1), (28, .ldc 150, 2), (30, .invokevirtual 140, 3), (33, .ifCond .ne 21, 3), (36, .aload_n 0, 1), (37, .ldc 152, 2), (39, .invokevirtual 140, 3), (42, .ifCond .ne 12, 3), (45, .aload_n 0, 1), (46, .ldc 154, 2), (48, .invokevirtual 140, 3), (51, .ifCond .eq 5, 3), (54, .iconst 1, 1), (55, .ireturn, 1), (56, .aload_n 0, 1), (57, .ldc 156, 2), (59, .invokevirtual 140, 3), (62, .ifCond .ne 48, 3), (65, .aload_n 0, 1), (66, .ldc 158, 2)]
theorem dtX7_isReserved_0_0_ok : dcAll cX7_isReserved dtX7_isReserved_0_0 = true := sorry
theorem dX7_isReserved_0 : decode cX7_isReserved 0 = .ok (.aload_n 0, 1) := sorry
theorem dX7_isReserved_1 : decode cX7_isReserved 1 = .ok (.ldc 144, 2) := sorry
theorem dX7_isReserved_3 : decode cX7_isReserved 3 = .ok (.invokevirtual 140, 3) := sorry
theorem dX7_isReserved_6 : decode cX7_isReserved 6 = .ok (.ifCond .ne 48, 3) := sorry
theorem dX7_isReserved_9 : decode cX7_isReserved 9 = .ok (.aload_n 0, 1) := sorry
theorem dX7_isReserved_10 : decode cX7_isReserved 10 = .ok (.ldc 146, 2) := sorry
theorem dX7_isReserved_12 : decode cX7_isReserved 12 = .ok (.invokevirtual 140, 3) := sorry
theorem dX7_isReserved_15 : decode cX7_isReserved 15 = .ok (.ifCond .ne 39, 3) := sorry
theorem dX7_isReserved_18 : decode cX7_isReserved 18 = .ok (.aload_n 0, 1) := sorry
theorem dX7_isReserved_19 : decode cX7_isReserved 19 = .ok (.ldc 148, 2) := sorry
theorem dX7_isReserved_21 : decode cX7_isReserved 21 = .ok (.invokevirtual 140, 3) := sorry
theorem dX7_isReserved_24 : decode cX7_isReserved 24 = .ok (.ifCond .ne 30, 3) := sorry
theorem dX7_isReserved_27 : decode cX7_isReserved 27 = .ok (.aload_n 0, 1) := sorry
theorem dX7_isReserved_28 : decode cX7_isReserved 28 = .ok (.ldc 150, 2) := sorry
theorem dX7_isReserved_30 : decode cX7_isReserved 30 = .ok (.invokevirtual 140, 3) := sorry
theorem dX7_isReserved_33 : decode cX7_isReserved 33 = .ok (.ifCond .ne 21, 3) := sorry
theorem dX7_isReserved_36 : decode cX7_isReserved 36 = .ok (.aload_n 0, 1) := sorry
theorem dX7_isReserved_37 : decode cX7_isReserved 37 = .ok (.ldc 152, 2) := sorry
theorem dX7_isReserved_39 : decode cX7_isReserved 39 = .ok (.invokevirtual 140, 3) := sorry
theorem dX7_isReserved_42 : decode cX7_isReserved 42 = .ok (.ifCond .ne 12, 3) := sorry
theorem dX7_isReserved_45 : decode cX7_isReserved 45 = .ok (.aload_n 0, 1) := sorry
theorem dX7_isReserved_46 : decode cX7_isReserved 46 = .ok (.ldc 154, 2) := sorry
theorem dX7_isReserved_48 : decode cX7_isReserved 48 = .ok (.invokevirtual 140, 3) := sorry
theorem dX7_isReserved_51 : decode cX7_isReserved 51 = .ok (.ifCond .eq 5, 3) := sorry
theorem dX7_isReserved_54 : decode cX7_isReserved 54 = .ok (.iconst 1, 1) := sorry
theorem dX7_isReserved_55 : decode cX7_isReserved 55 = .ok (.ireturn, 1) := sorry
theorem dX7_isReserved_56 : decode cX7_isReserved 56 = .ok (.aload_n 0, 1) := sorry
theorem dX7_isReserved_57 : decode cX7_isReserved 57 = .ok (.ldc 156, 2) := sorry
theorem dX7_isReserved_59 : decode cX7_isReserved 59 = .ok (.invokevirtual 140, 3) := sorry
theorem dX7_isReserved_62 : decode cX7_isReserved 62 = .ok (.ifCond .ne 48, 3) := sorry
theorem dX7_isReserved_65 : decode cX7_isReserved 65 = .ok (.aload_n 0, 1) := sorry
theorem dX7_isReserved_66 : decode cX7_isReserved 66 = .ok (.ldc 158, 2) := sorry
def dtX7_isReserved_68_1 : List (Nat × Instr × Nat) := [(68, .invokevirtual 140, 3), (71, .ifCond .ne 39, 3), (74, .aload_n 0, 1), (75, .ldc 160, 2), (77, .invokevirtual 140, 3), (80, .ifCond .ne 30, 3), (83, .aload_n 0, 1), (84, .ldc 162, 2), (86, .invokevirtual 140, 3), (89, .ifCond .ne 21, 3), (92, .aload_n 0, 1), (93, .ldc 164, 2), (95, .invokevirtual 140, 3), (98, .ifCond .ne 12, 3), (101, .aload_n 0, 1), (102, .ldc 166, 2), (104, .invokevirtual 140, 3), (107, .ifCond .eq 5, 3), (110, .iconst 1, 1), (111, .ireturn, 1), (112, .aload_n 0, 1), (113, .ldc 168, 2), (115, .invokevirtual 140, 3), (118, .ifCond .ne 39, 3), (121, .aload_n 0, 1), (122, .ldc 170, 2), (124, .invokevirtual 140, 3), (127, .ifCond .ne 30, 3), (130, .aload_n 0, 1), (131, .ldc 172, 2), (133, .invokevirtual 140, 3), (136, .ifCond .ne 21, 3)]
theorem dtX7_isReserved_68_1_ok : dcAll cX7_isReserved dtX7_isReserved_68_1 = true := sorry
theorem dX7_isReserved_68 : decode cX7_isReserved 68 = .ok (.invokevirtual 140, 3) := sorry
theorem dX7_isReserved_71 : decode cX7_isReserved 71 = .ok (.ifCond .ne 39, 3) := sorry
theorem dX7_isReserved_74 : decode cX7_isReserved 74 = .ok (.aload_n 0, 1) := sorry
theorem dX7_isReserved_75 : decode cX7_isReserved 75 = .ok (.ldc 160, 2) := sorry
theorem dX7_isReserved_77 : decode cX7_isReserved 77 = .ok (.invokevirtual 140, 3) := sorry
theorem dX7_isReserved_80 : decode cX7_isReserved 80 = .ok (.ifCond .ne 30, 3) := sorry
theorem dX7_isReserved_83 : decode cX7_isReserved 83 = .ok (.aload_n 0, 1) := sorry
theorem dX7_isReserved_84 : decode cX7_isReserved 84 = .ok (.ldc 162, 2) := sorry
theorem dX7_isReserved_86 : decode cX7_isReserved 86 = .ok (.invokevirtual 140, 3) := sorry
theorem dX7_isReserved_89 : decode cX7_isReserved 89 = .ok (.ifCond .ne 21, 3) := sorry
theorem dX7_isReserved_92 : decode cX7_isReserved 92 = .ok (.aload_n 0, 1) := sorry
theorem dX7_isReserved_93 : decode cX7_isReserved 93 = .ok (.ldc 164, 2) := sorry
theorem dX7_isReserved_95 : decode cX7_isReserved 95 = .ok (.invokevirtual 140, 3) := sorry
theorem dX7_isReserved_98 : decode cX7_isReserved 98 = .ok (.ifCond .ne 12, 3) := sorry
theorem dX7_isReserved_101 : decode cX7_isReserved 101 = .ok (.aload_n 0, 1) := sorry
theorem dX7_isReserved_102 : decode cX7_isReserved 102 = .ok (.ldc 166, 2) := sorry
theorem dX7_isReserved_104 : decode cX7_isReserved 104 = .ok (.invokevirtual 140, 3) := sorry
theorem dX7_isReserved_107 : decode cX7_isReserved 107 = .ok (.ifCond .eq 5, 3) := sorry
theorem dX7_isReserved_110 : decode cX7_isReserved 110 = .ok (.iconst 1, 1) := sorry
theorem dX7_isReserved_111 : decode cX7_isReserved 111 = .ok (.ireturn, 1) := sorry
theorem dX7_isReserved_112 : decode cX7_isReserved 112 = .ok (.aload_n 0, 1) := sorry
theorem dX7_isReserved_113 : decode cX7_isReserved 113 = .ok (.ldc 168, 2) := sorry
theorem dX7_isReserved_115 : decode cX7_isReserved 115 = .ok (.invokevirtual 140, 3) := sorry
theorem dX7_isReserved_118 : decode cX7_isReserved 118 = .ok (.ifCond .ne 39, 3) := sorry
theorem dX7_isReserved_121 : decode cX7_isReserved 121 = .ok (.aload_n 0, 1) := sorry
theorem dX7_isReserved_122 : decode cX7_isReserved 122 = .ok (.ldc 170, 2) := sorry
theorem dX7_isReserved_124 : decode cX7_isReserved 124 = .ok (.invokevirtual 140, 3) := sorry
theorem dX7_isReserved_127 : decode cX7_isReserved 127 = .ok (.ifCond .ne 30, 3) := sorry
theorem dX7_isReserved_130 : decode cX7_isReserved 130 = .ok (.aload_n 0, 1) := sorry
theorem dX7_isReserved_131 : decode cX7_isReserved 131 = .ok (.ldc 172, 2) := sorry
theorem dX7_isReserved_133 : decode cX7_isReserved 133 = .ok (.invokevirtual 140, 3) := sorry
theorem dX7_isReserved_136 : decode cX7_isReserved 136 = .ok (.ifCond .ne 21, 3) := sorry
def dtX7_isReserved_139_2 : List (Nat × Instr × Nat) := [(139, .aload_n 0, 1), (140, .ldc 174, 2), (142, .invokevirtual 140, 3), (145, .ifCond .ne 12, 3), (148, .aload_n 0, 1), (149, .ldc 176, 2), (151, .invokevirtual 140, 3), (154, .ifCond .eq 5, 3), (157, .iconst 1, 1), (158, .ireturn, 1), (159, .aload_n 0, 1), (160, .ldc 178, 2), (162, .invokevirtual 140, 3), (165, .ifCond .ne 21, 3), (168, .aload_n 0, 1)]
theorem dtX7_isReserved_139_2_ok : dcAll cX7_isReserved dtX7_isReserved_139_2 = true := sorry
theorem dX7_isReserved_139 : decode cX7_isReserved 139 = .ok (.aload_n 0, 1) := sorry
theorem dX7_isReserved_140 : decode cX7_isReserved 140 = .ok (.ldc 174, 2) := sorry
theorem dX7_isReserved_142 : decode cX7_isReserved 142 = .ok (.invokevirtual 140, 3) := sorry
theorem dX7_isReserved_145 : decode cX7_isReserved 145 = .ok (.ifCond .ne 12, 3) := sorry
theorem dX7_isReserved_148 : decode cX7_isReserved 148 = .ok (.aload_n 0, 1) := sorry
theorem dX7_isReserved_149 : decode cX7_isReserved 149 = .ok (.ldc 176, 2) := sorry
theorem dX7_isReserved_151 : decode cX7_isReserved 151 = .ok (.invokevirtual 140, 3) := sorry
theorem dX7_isReserved_154 : decode cX7_isReserved 154 = .ok (.ifCond .eq 5, 3) := sorry
theorem dX7_isReserved_157 : decode cX7_isReserved 157 = .ok (.iconst 1, 1) := sorry
theorem dX7_isReserved_158 : decode cX7_isReserved 158 = .ok (.ireturn, 1) := sorry
theorem dX7_isReserved_159 : decode cX7_isReserved 159 = .ok (.aload_n 0, 1) := sorry
theorem dX7_isReserved_160 : decode cX7_isReserved 160 = .ok (.ldc 178, 2) := sorry
theorem dX7_isReserved_162 : decode cX7_isReserved 162 = .ok (.invokevirtual 140, 3) := sorry
theorem dX7_isReserved_165 : decode cX7_isReserved 165 = .ok (.ifCond .ne 21, 3) := sorry
theorem dX7_isReserved_168 : decode cX7_isReserved 168 = .ok (.aload_n 0, 1) := sorry

end
