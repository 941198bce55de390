/-! the code's instructions, a table at a time -/
def dcAll (c : ByteArray) (l : List (Nat × Instr × Nat)) : Bool := l.all fun q => match decode c q.1 with | .ok v => decide (v = q.2) | .error _ => false
theorem dc_of {c : ByteArray} {l : List (Nat × Instr × Nat)} (h : dcAll c l = true) {i pc : Nat} {v : Instr × Nat} (hi : l[i]? = some (pc, v)) : decode c pc = .ok v := by
  have q := List.all_eq_true.mp h (pc, v) (List.mem_of_getElem? hi)
  dsimp only at q
  cases hd : decode c pc with
  | ok w => rw [hd] at q; exact congrArg Except.ok (of_decide_eq_true q)
  | error e => rw [hd] at q; exact absurd q Bool.false_ne_true
def dtX0_init_0_0 : List (Nat × Instr × Nat) := [(0, .aload_n 0, 1), (1, .invokespecial 3, 3), (4, .aload_n 0, 1), (5, .bipush 32, 2), (7, .newarray .int, 2), (9, .putfield 11, 3), (12, .return_, 1)]
theorem dtX0_init_0_0_ok : dcAll cX0_init dtX0_init_0_0 = true := by decide +kernel
theorem dX0_init_0 : decode cX0_init 0 = .ok (.aload_n 0, 1) := dc_of dtX0_init_0_0_ok (i := 0) rfl
theorem dX0_init_1 : decode cX0_init 1 = .ok (.invokespecial 3, 3) := dc_of dtX0_init_0_0_ok (i := 1) rfl
theorem dX0_init_4 : decode cX0_init 4 = .ok (.aload_n 0, 1) := dc_of dtX0_init_0_0_ok (i := 2) rfl
theorem dX0_init_5 : decode cX0_init 5 = .ok (.bipush 32, 2) := dc_of dtX0_init_0_0_ok (i := 3) rfl
theorem dX0_init_7 : decode cX0_init 7 = .ok (.newarray .int, 2) := dc_of dtX0_init_0_0_ok (i := 4) rfl
theorem dX0_init_9 : decode cX0_init 9 = .ok (.putfield 11, 3) := dc_of dtX0_init_0_0_ok (i := 5) rfl
theorem dX0_init_12 : decode cX0_init 12 = .ok (.return_, 1) := dc_of dtX0_init_0_0_ok (i := 6) rfl
def dtX0_clear_0_0 : List (Nat × Instr × Nat) := [(0, .aload_n 0, 1), (1, .iload_n 1, 1), (2, .putfield 15, 3), (5, .aload_n 0, 1), (6, .iconst 0, 1), (7, .putfield 19, 3), (10, .aload_n 0, 1), (11, .iconst (-1), 1), (12, .putfield 22, 3), (15, .aload_n 0, 1), (16, .iconst (-1), 1), (17, .putfield 25, 3), (20, .aload_n 0, 1), (21, .iconst 0, 1), (22, .putfield 28, 3), (25, .aload_n 0, 1), (26, .iconst 0, 1), (27, .putfield 31, 3), (30, .aload_n 0, 1), (31, .iconst 0, 1), (32, .putfield 34, 3), (35, .aload_n 0, 1), (36, .iconst 0, 1), (37, .putfield 37, 3), (40, .aload_n 0, 1), (41, .iconst 0, 1), (42, .putfield 40, 3), (45, .return_, 1)]
theorem dtX0_clear_0_0_ok : dcAll cX0_clear dtX0_clear_0_0 = true := by decide +kernel
theorem dX0_clear_0 : decode cX0_clear 0 = .ok (.aload_n 0, 1) := dc_of dtX0_clear_0_0_ok (i := 0) rfl
theorem dX0_clear_1 : decode cX0_clear 1 = .ok (.iload_n 1, 1) := dc_of dtX0_clear_0_0_ok (i := 1) rfl
theorem dX0_clear_2 : decode cX0_clear 2 = .ok (.putfield 15, 3) := dc_of dtX0_clear_0_0_ok (i := 2) rfl
theorem dX0_clear_5 : decode cX0_clear 5 = .ok (.aload_n 0, 1) := dc_of dtX0_clear_0_0_ok (i := 3) rfl
theorem dX0_clear_6 : decode cX0_clear 6 = .ok (.iconst 0, 1) := dc_of dtX0_clear_0_0_ok (i := 4) rfl
theorem dX0_clear_7 : decode cX0_clear 7 = .ok (.putfield 19, 3) := dc_of dtX0_clear_0_0_ok (i := 5) rfl
theorem dX0_clear_10 : decode cX0_clear 10 = .ok (.aload_n 0, 1) := dc_of dtX0_clear_0_0_ok (i := 6) rfl
theorem dX0_clear_11 : decode cX0_clear 11 = .ok (.iconst (-1), 1) := dc_of dtX0_clear_0_0_ok (i := 7) rfl
theorem dX0_clear_12 : decode cX0_clear 12 = .ok (.putfield 22, 3) := dc_of dtX0_clear_0_0_ok (i := 8) rfl
theorem dX0_clear_15 : decode cX0_clear 15 = .ok (.aload_n 0, 1) := dc_of dtX0_clear_0_0_ok (i := 9) rfl
theorem dX0_clear_16 : decode cX0_clear 16 = .ok (.iconst (-1), 1) := dc_of dtX0_clear_0_0_ok (i := 10) rfl
theorem dX0_clear_17 : decode cX0_clear 17 = .ok (.putfield 25, 3) := dc_of dtX0_clear_0_0_ok (i := 11) rfl
theorem dX0_clear_20 : decode cX0_clear 20 = .ok (.aload_n 0, 1) := dc_of dtX0_clear_0_0_ok (i := 12) rfl
theorem dX0_clear_21 : decode cX0_clear 21 = .ok (.iconst 0, 1) := dc_of dtX0_clear_0_0_ok (i := 13) rfl
theorem dX0_clear_22 : decode cX0_clear 22 = .ok (.putfield 28, 3) := dc_of dtX0_clear_0_0_ok (i := 14) rfl
theorem dX0_clear_25 : decode cX0_clear 25 = .ok (.aload_n 0, 1) := dc_of dtX0_clear_0_0_ok (i := 15) rfl
theorem dX0_clear_26 : decode cX0_clear 26 = .ok (.iconst 0, 1) := dc_of dtX0_clear_0_0_ok (i := 16) rfl
theorem dX0_clear_27 : decode cX0_clear 27 = .ok (.putfield 31, 3) := dc_of dtX0_clear_0_0_ok (i := 17) rfl
theorem dX0_clear_30 : decode cX0_clear 30 = .ok (.aload_n 0, 1) := dc_of dtX0_clear_0_0_ok (i := 18) rfl
theorem dX0_clear_31 : decode cX0_clear 31 = .ok (.iconst 0, 1) := dc_of dtX0_clear_0_0_ok (i := 19) rfl
theorem dX0_clear_32 : decode cX0_clear 32 = .ok (.putfield 34, 3) := dc_of dtX0_clear_0_0_ok (i := 20) rfl
theorem dX0_clear_35 : decode cX0_clear 35 = .ok (.aload_n 0, 1) := dc_of dtX0_clear_0_0_ok (i := 21) rfl
theorem dX0_clear_36 : decode cX0_clear 36 = .ok (.iconst 0, 1) := dc_of dtX0_clear_0_0_ok (i := 22) rfl
theorem dX0_clear_37 : decode cX0_clear 37 = .ok (.putfield 37, 3) := dc_of dtX0_clear_0_0_ok (i := 23) rfl
theorem dX0_clear_40 : decode cX0_clear 40 = .ok (.aload_n 0, 1) := dc_of dtX0_clear_0_0_ok (i := 24) rfl
theorem dX0_clear_41 : decode cX0_clear 41 = .ok (.iconst 0, 1) := dc_of dtX0_clear_0_0_ok (i := 25) rfl
theorem dX0_clear_42 : decode cX0_clear 42 = .ok (.putfield 40, 3) := dc_of dtX0_clear_0_0_ok (i := 26) rfl
theorem dX0_clear_45 : decode cX0_clear 45 = .ok (.return_, 1) := dc_of dtX0_clear_0_0_ok (i := 27) rfl
def dtX0_lastLetter_0_0 : List (Nat × Instr × Nat) := [(0, .aload_n 0, 1), (1, .getfield 43, 3), (4, .ldc2_w 47, 3), (7, .land, 1), (8, .l2i, 1), (9, .ireturn, 1)]
theorem dtX0_lastLetter_0_0_ok : dcAll cX0_lastLetter dtX0_lastLetter_0_0 = true := by decide +kernel
theorem dX0_lastLetter_0 : decode cX0_lastLetter 0 = .ok (.aload_n 0, 1) := dc_of dtX0_lastLetter_0_0_ok (i := 0) rfl
theorem dX0_lastLetter_1 : decode cX0_lastLetter 1 = .ok (.getfield 43, 3) := dc_of dtX0_lastLetter_0_0_ok (i := 1) rfl
theorem dX0_lastLetter_4 : decode cX0_lastLetter 4 = .ok (.ldc2_w 47, 3) := dc_of dtX0_lastLetter_0_0_ok (i := 2) rfl
theorem dX0_lastLetter_7 : decode cX0_lastLetter 7 = .ok (.land, 1) := dc_of dtX0_lastLetter_0_0_ok (i := 3) rfl
theorem dX0_lastLetter_8 : decode cX0_lastLetter 8 = .ok (.l2i, 1) := dc_of dtX0_lastLetter_0_0_ok (i := 4) rfl
theorem dX0_lastLetter_9 : decode cX0_lastLetter 9 = .ok (.ireturn, 1) := dc_of dtX0_lastLetter_0_0_ok (i := 5) rfl
def dtX0_firstLetter_0_0 : List (Nat × Instr × Nat) := [(0, .aload_n 0, 1), (1, .getfield 43, 3), (4, .lstore_n 1, 1), (5, .iconst 0, 1), (6, .istore_n 3, 1), (7, .iload_n 3, 1), (8, .bipush 8, 2), (10, .if_icmp .ge 21, 3), (13, .lload_n 1, 1), (14, .ldc2_w 47, 3), (17, .lcmp, 1), (18, .ifCond .le 13, 3), (21, .lload_n 1, 1), (22, .iconst 5, 1), (23, .lushr, 1), (24, .lstore_n 1, 1), (25, .iinc 3 1, 3), (28, .goto (-21), 3), (31, .lload_n 1, 1), (32, .l2i, 1), (33, .ireturn, 1)]
theorem dtX0_firstLetter_0_0_ok : dcAll cX0_firstLetter dtX0_firstLetter_0_0 = true := by decide +kernel
theorem dX0_firstLetter_0 : decode cX0_firstLetter 0 = .ok (.aload_n 0, 1) := dc_of dtX0_firstLetter_0_0_ok (i := 0) rfl
theorem dX0_firstLetter_1 : decode cX0_firstLetter 1 = .ok (.getfield 43, 3) := dc_of dtX0_firstLetter_0_0_ok (i := 1) rfl
theorem dX0_firstLetter_4 : decode cX0_firstLetter 4 = .ok (.lstore_n 1, 1) := dc_of dtX0_firstLetter_0_0_ok (i := 2) rfl
theorem dX0_firstLetter_5 : decode cX0_firstLetter 5 = .ok (.iconst 0, 1) := dc_of dtX0_firstLetter_0_0_ok (i := 3) rfl
theorem dX0_firstLetter_6 : decode cX0_firstLetter 6 = .ok (.istore_n 3, 1) := dc_of dtX0_firstLetter_0_0_ok (i := 4) rfl
theorem dX0_firstLetter_7 : decode cX0_firstLetter 7 = .ok (.iload_n 3, 1) := dc_of dtX0_firstLetter_0_0_ok (i := 5) rfl
theorem dX0_firstLetter_8 : decode cX0_firstLetter 8 = .ok (.bipush 8, 2) := dc_of dtX0_firstLetter_0_0_ok (i := 6) rfl
theorem dX0_firstLetter_10 : decode cX0_firstLetter 10 = .ok (.if_icmp .ge 21, 3) := dc_of dtX0_firstLetter_0_0_ok (i := 7) rfl
theorem dX0_firstLetter_13 : decode cX0_firstLetter 13 = .ok (.lload_n 1, 1) := dc_of dtX0_firstLetter_0_0_ok (i := 8) rfl
theorem dX0_firstLetter_14 : decode cX0_firstLetter 14 = .ok (.ldc2_w 47, 3) := dc_of dtX0_firstLetter_0_0_ok (i := 9) rfl
theorem dX0_firstLetter_17 : decode cX0_firstLetter 17 = .ok (.lcmp, 1) := dc_of dtX0_firstLetter_0_0_ok (i := 10) rfl
theorem dX0_firstLetter_18 : decode cX0_firstLetter 18 = .ok (.ifCond .le 13, 3) := dc_of dtX0_firstLetter_0_0_ok (i := 11) rfl
theorem dX0_firstLetter_21 : decode cX0_firstLetter 21 = .ok (.lload_n 1, 1) := dc_of dtX0_firstLetter_0_0_ok (i := 12) rfl
theorem dX0_firstLetter_22 : decode cX0_firstLetter 22 = .ok (.iconst 5, 1) := dc_of dtX0_firstLetter_0_0_ok (i := 13) rfl
theorem dX0_firstLetter_23 : decode cX0_firstLetter 23 = .ok (.lushr, 1) := dc_of dtX0_firstLetter_0_0_ok (i := 14) rfl
theorem dX0_firstLetter_24 : decode cX0_firstLetter 24 = .ok (.lstore_n 1, 1) := dc_of dtX0_firstLetter_0_0_ok (i := 15) rfl
theorem dX0_firstLetter_25 : decode cX0_firstLetter 25 = .ok (.iinc 3 1, 3) := dc_of dtX0_firstLetter_0_0_ok (i := 16) rfl
theorem dX0_firstLetter_28 : decode cX0_firstLetter 28 = .ok (.goto (-21), 3) := dc_of dtX0_firstLetter_0_0_ok (i := 17) rfl
theorem dX0_firstLetter_31 : decode cX0_firstLetter 31 = .ok (.lload_n 1, 1) := dc_of dtX0_firstLetter_0_0_ok (i := 18) rfl
theorem dX0_firstLetter_32 : decode cX0_firstLetter 32 = .ok (.l2i, 1) := dc_of dtX0_firstLetter_0_0_ok (i := 19) rfl
theorem dX0_firstLetter_33 : decode cX0_firstLetter 33 = .ok (.ireturn, 1) := dc_of dtX0_firstLetter_0_0_ok (i := 20) rfl
def dtX0_addTest_0_0 : List (Nat × Instr × Nat) := [(0, .aload_n 0, 1), (1, .getfield 34, 3), (4, .iconst 4, 1), (5, .imul, 1), (6, .istore 5, 2), (8, .aload_n 0, 1), (9, .getfield 11, 3), (12, .iload 5, 2), (14, .iload_n 1, 1), (15, .iastore, 1), (16, .aload_n 0, 1), (17, .getfield 11, 3), (20, .iload 5, 2), (22, .iconst 1, 1), (23, .iadd, 1), (24, .iload_n 2, 1), (25, .iastore, 1), (26, .aload_n 0, 1), (27, .getfield 11, 3), (30, .iload 5, 2), (32, .iconst 2, 1), (33, .iadd, 1), (34, .iload_n 3, 1), (35, .iastore, 1), (36, .aload_n 0, 1), (37, .getfield 11, 3), (40, .iload 5, 2), (42, .iconst 3, 1), (43, .iadd, 1), (44, .iload 4, 2), (46, .iastore, 1), (47, .aload_n 0, 1)]
theorem dtX0_addTest_0_0_ok : dcAll cX0_addTest dtX0_addTest_0_0 = true := by decide +kernel
theorem dX0_addTest_0 : decode cX0_addTest 0 = .ok (.aload_n 0, 1) := dc_of dtX0_addTest_0_0_ok (i := 0) rfl
theorem dX0_addTest_1 : decode cX0_addTest 1 = .ok (.getfield 34, 3) := dc_of dtX0_addTest_0_0_ok (i := 1) rfl
theorem dX0_addTest_4 : decode cX0_addTest 4 = .ok (.iconst 4, 1) := dc_of dtX0_addTest_0_0_ok (i := 2) rfl
theorem dX0_addTest_5 : decode cX0_addTest 5 = .ok (.imul, 1) := dc_of dtX0_addTest_0_0_ok (i := 3) rfl
theorem dX0_addTest_6 : decode cX0_addTest 6 = .ok (.istore 5, 2) := dc_of dtX0_addTest_0_0_ok (i := 4) rfl
theorem dX0_addTest_8 : decode cX0_addTest 8 = .ok (.aload_n 0, 1) := dc_of dtX0_addTest_0_0_ok (i := 5) rfl
theorem dX0_addTest_9 : decode cX0_addTest 9 = .ok (.getfield 11, 3) := dc_of dtX0_addTest_0_0_ok (i := 6) rfl
theorem dX0_addTest_12 : decode cX0_addTest 12 = .ok (.iload 5, 2) := dc_of dtX0_addTest_0_0_ok (i := 7) rfl
theorem dX0_addTest_14 : decode cX0_addTest 14 = .ok (.iload_n 1, 1) := dc_of dtX0_addTest_0_0_ok (i := 8) rfl
theorem dX0_addTest_15 : decode cX0_addTest 15 = .ok (.iastore, 1) := dc_of dtX0_addTest_0_0_ok (i := 9) rfl
theorem dX0_addTest_16 : decode cX0_addTest 16 = .ok (.aload_n 0, 1) := dc_of dtX0_addTest_0_0_ok (i := 10) rfl
theorem dX0_addTest_17 : decode cX0_addTest 17 = .ok (.getfield 11, 3) := dc_of dtX0_addTest_0_0_ok (i := 11) rfl
theorem dX0_addTest_20 : decode cX0_addTest 20 = .ok (.iload 5, 2) := dc_of dtX0_addTest_0_0_ok (i := 12) rfl
theorem dX0_addTest_22 : decode cX0_addTest 22 = .ok (.iconst 1, 1) := dc_of dtX0_addTest_0_0_ok (i := 13) rfl
theorem dX0_addTest_23 : decode cX0_addTest 23 = .ok (.iadd, 1) := dc_of dtX0_addTest_0_0_ok (i := 14) rfl
theorem dX0_addTest_24 : decode cX0_addTest 24 = .ok (.iload_n 2, 1) := dc_of dtX0_addTest_0_0_ok (i := 15) rfl
theorem dX0_addTest_25 : decode cX0_addTest 25 = .ok (.iastore, 1) := dc_of dtX0_addTest_0_0_ok (i := 16) rfl
theorem dX0_addTest_26 : decode cX0_addTest 26 = .ok (.aload_n 0, 1) := dc_of dtX0_addTest_0_0_ok (i := 17) rfl
theorem dX0_addTest_27 : decode cX0_addTest 27 = .ok (.getfield 11, 3) := dc_of dtX0_addTest_0_0_ok (i := 18) rfl
theorem dX0_addTest_30 : decode cX0_addTest 30 = .ok (.iload 5, 2) := dc_of dtX0_addTest_0_0_ok (i := 19) rfl
theorem dX0_addTest_32 : decode cX0_addTest 32 = .ok (.iconst 2, 1) := dc_of dtX0_addTest_0_0_ok (i := 20) rfl
theorem dX0_addTest_33 : decode cX0_addTest 33 = .ok (.iadd, 1) := dc_of dtX0_addTest_0_0_ok (i := 21) rfl
theorem dX0_addTest_34 : decode cX0_addTest 34 = .ok (.iload_n 3, 1) := dc_of dtX0_addTest_0_0_ok (i := 22) rfl
theorem dX0_addTest_35 : decode cX0_addTest 35 = .ok (.iastore, 1) := dc_of dtX0_addTest_0_0_ok (i := 23) rfl
theorem dX0_addTest_36 : decode cX0_addTest 36 = .ok (.aload_n 0, 1) := dc_of dtX0_addTest_0_0_ok (i := 24) rfl
theorem dX0_addTest_37 : decode cX0_addTest 37 = .ok (.getfield 11, 3) := dc_of dtX0_addTest_0_0_ok (i := 25) rfl
theorem dX0_addTest_40 : decode cX0_addTest 40 = .ok (.iload 5, 2) := dc_of dtX0_addTest_0_0_ok (i := 26) rfl
theorem dX0_addTest_42 : decode cX0_addTest 42 = .ok (.iconst 3, 1) := dc_of dtX0_addTest_0_0_ok (i := 27) rfl
theorem dX0_addTest_43 : decode cX0_addTest 43 = .ok (.iadd, 1) := dc_of dtX0_addTest_0_0_ok (i := 28) rfl
theorem dX0_addTest_44 : decode cX0_addTest 44 = .ok (.iload 4, 2) := dc_of dtX0_addTest_0_0_ok (i := 29) rfl
theorem dX0_addTest_46 : decode cX0_addTest 46 = .ok (.iastore, 1) := dc_of dtX0_addTest_0_0_ok (i := 30) rfl
theorem dX0_addTest_47 : decode cX0_addTest 47 = .ok (.aload_n 0, 1) := dc_of dtX0_addTest_0_0_ok (i := 31) rfl
def dtX0_addTest_48_1 : List (Nat × Instr × Nat) := [(48, .dup, 1), (49, .getfield 34, 3), (52, .iconst 1, 1), (53, .iadd, 1), (54, .putfield 34, 3), (57, .return_, 1)]
theorem dtX0_addTest_48_1_ok : dcAll cX0_addTest dtX0_addTest_48_1 = true := by decide +kernel
theorem dX0_addTest_48 : decode cX0_addTest 48 = .ok (.dup, 1) := dc_of dtX0_addTest_48_1_ok (i := 0) rfl
theorem dX0_addTest_49 : decode cX0_addTest 49 = .ok (.getfield 34, 3) := dc_of dtX0_addTest_48_1_ok (i := 1) rfl
theorem dX0_addTest_52 : decode cX0_addTest 52 = .ok (.iconst 1, 1) := dc_of dtX0_addTest_48_1_ok (i := 2) rfl
theorem dX0_addTest_53 : decode cX0_addTest 53 = .ok (.iadd, 1) := dc_of dtX0_addTest_48_1_ok (i := 3) rfl
theorem dX0_addTest_54 : decode cX0_addTest 54 = .ok (.putfield 34, 3) := dc_of dtX0_addTest_48_1_ok (i := 4) rfl
theorem dX0_addTest_57 : decode cX0_addTest 57 = .ok (.return_, 1) := dc_of dtX0_addTest_48_1_ok (i := 5) rfl
def dtX0_holds_0_0 : List (Nat × Instr × Nat) := [(0, .iconst 0, 1), (1, .istore_n 3, 1), (2, .iload_n 3, 1), (3, .aload_n 0, 1), (4, .getfield 34, 3), (7, .if_icmp .ge 121, 3), (10, .iload_n 3, 1), (11, .iconst 4, 1), (12, .imul, 1), (13, .istore 4, 2), (15, .aload_n 1, 1), (16, .iload_n 2, 1), (17, .aload_n 0, 1), (18, .getfield 11, 3), (21, .iload 4, 2), (23, .iaload, 1), (24, .iadd, 1), (25, .iaload, 1), (26, .istore 5, 2), (28, .aload_n 0, 1), (29, .getfield 11, 3), (32, .iload 4, 2), (34, .iconst 2, 1), (35, .iadd, 1), (36, .iaload, 1), (37, .iconst (-1), 1), (38, .if_icmp .ne 15, 3), (41, .aload_n 0, 1), (42, .getfield 11, 3), (45, .iload 4, 2), (47, .iconst 3, 1), (48, .iadd, 1)]
theorem dtX0_holds_0_0_ok : dcAll cX0_holds dtX0_holds_0_0 = true := by decide +kernel
theorem dX0_holds_0 : decode cX0_holds 0 = .ok (.iconst 0, 1) := dc_of dtX0_holds_0_0_ok (i := 0) rfl
theorem dX0_holds_1 : decode cX0_holds 1 = .ok (.istore_n 3, 1) := dc_of dtX0_holds_0_0_ok (i := 1) rfl
theorem dX0_holds_2 : decode cX0_holds 2 = .ok (.iload_n 3, 1) := dc_of dtX0_holds_0_0_ok (i := 2) rfl
theorem dX0_holds_3 : decode cX0_holds 3 = .ok (.aload_n 0, 1) := dc_of dtX0_holds_0_0_ok (i := 3) rfl
theorem dX0_holds_4 : decode cX0_holds 4 = .ok (.getfield 34, 3) := dc_of dtX0_holds_0_0_ok (i := 4) rfl
theorem dX0_holds_7 : decode cX0_holds 7 = .ok (.if_icmp .ge 121, 3) := dc_of dtX0_holds_0_0_ok (i := 5) rfl
theorem dX0_holds_10 : decode cX0_holds 10 = .ok (.iload_n 3, 1) := dc_of dtX0_holds_0_0_ok (i := 6) rfl
theorem dX0_holds_11 : decode cX0_holds 11 = .ok (.iconst 4, 1) := dc_of dtX0_holds_0_0_ok (i := 7) rfl
theorem dX0_holds_12 : decode cX0_holds 12 = .ok (.imul, 1) := dc_of dtX0_holds_0_0_ok (i := 8) rfl
theorem dX0_holds_13 : decode cX0_holds 13 = .ok (.istore 4, 2) := dc_of dtX0_holds_0_0_ok (i := 9) rfl
theorem dX0_holds_15 : decode cX0_holds 15 = .ok (.aload_n 1, 1) := dc_of dtX0_holds_0_0_ok (i := 10) rfl
theorem dX0_holds_16 : decode cX0_holds 16 = .ok (.iload_n 2, 1) := dc_of dtX0_holds_0_0_ok (i := 11) rfl
theorem dX0_holds_17 : decode cX0_holds 17 = .ok (.aload_n 0, 1) := dc_of dtX0_holds_0_0_ok (i := 12) rfl
theorem dX0_holds_18 : decode cX0_holds 18 = .ok (.getfield 11, 3) := dc_of dtX0_holds_0_0_ok (i := 13) rfl
theorem dX0_holds_21 : decode cX0_holds 21 = .ok (.iload 4, 2) := dc_of dtX0_holds_0_0_ok (i := 14) rfl
theorem dX0_holds_23 : decode cX0_holds 23 = .ok (.iaload, 1) := dc_of dtX0_holds_0_0_ok (i := 15) rfl
theorem dX0_holds_24 : decode cX0_holds 24 = .ok (.iadd, 1) := dc_of dtX0_holds_0_0_ok (i := 16) rfl
theorem dX0_holds_25 : decode cX0_holds 25 = .ok (.iaload, 1) := dc_of dtX0_holds_0_0_ok (i := 17) rfl
theorem dX0_holds_26 : decode cX0_holds 26 = .ok (.istore 5, 2) := dc_of dtX0_holds_0_0_ok (i := 18) rfl
theorem dX0_holds_28 : decode cX0_holds 28 = .ok (.aload_n 0, 1) := dc_of dtX0_holds_0_0_ok (i := 19) rfl
theorem dX0_holds_29 : decode cX0_holds 29 = .ok (.getfield 11, 3) := dc_of dtX0_holds_0_0_ok (i := 20) rfl
theorem dX0_holds_32 : decode cX0_holds 32 = .ok (.iload 4, 2) := dc_of dtX0_holds_0_0_ok (i := 21) rfl
theorem dX0_holds_34 : decode cX0_holds 34 = .ok (.iconst 2, 1) := dc_of dtX0_holds_0_0_ok (i := 22) rfl
theorem dX0_holds_35 : decode cX0_holds 35 = .ok (.iadd, 1) := dc_of dtX0_holds_0_0_ok (i := 23) rfl
theorem dX0_holds_36 : decode cX0_holds 36 = .ok (.iaload, 1) := dc_of dtX0_holds_0_0_ok (i := 24) rfl
theorem dX0_holds_37 : decode cX0_holds 37 = .ok (.iconst (-1), 1) := dc_of dtX0_holds_0_0_ok (i := 25) rfl
theorem dX0_holds_38 : decode cX0_holds 38 = .ok (.if_icmp .ne 15, 3) := dc_of dtX0_holds_0_0_ok (i := 26) rfl
theorem dX0_holds_41 : decode cX0_holds 41 = .ok (.aload_n 0, 1) := dc_of dtX0_holds_0_0_ok (i := 27) rfl
theorem dX0_holds_42 : decode cX0_holds 42 = .ok (.getfield 11, 3) := dc_of dtX0_holds_0_0_ok (i := 28) rfl
theorem dX0_holds_45 : decode cX0_holds 45 = .ok (.iload 4, 2) := dc_of dtX0_holds_0_0_ok (i := 29) rfl
theorem dX0_holds_47 : decode cX0_holds 47 = .ok (.iconst 3, 1) := dc_of dtX0_holds_0_0_ok (i := 30) rfl
theorem dX0_holds_48 : decode cX0_holds 48 = .ok (.iadd, 1) := dc_of dtX0_holds_0_0_ok (i := 31) rfl
def dtX0_holds_49_1 : List (Nat × Instr × Nat) := [(49, .iaload, 1), (50, .goto 16, 3), (53, .aload_n 1, 1), (54, .iload_n 2, 1), (55, .aload_n 0, 1), (56, .getfield 11, 3), (59, .iload 4, 2), (61, .iconst 2, 1), (62, .iadd, 1), (63, .iaload, 1), (64, .iadd, 1), (65, .iaload, 1), (66, .istore 6, 2), (68, .aload_n 0, 1), (69, .getfield 11, 3), (72, .iload 4, 2), (74, .iconst 1, 1), (75, .iadd, 1), (76, .iaload, 1), (77, .istore 7, 2), (79, .iload 7, 2), (81, .bipush 61, 2), (83, .if_icmp .ne 13, 3), (86, .iload 5, 2), (88, .iload 6, 2), (90, .if_icmp .eq 32, 3), (93, .goto 27, 3), (96, .iload 7, 2), (98, .bipush 60, 2), (100, .if_icmp .ne 13, 3), (103, .iload 5, 2), (105, .iload 6, 2)]
theorem dtX0_holds_49_1_ok : dcAll cX0_holds dtX0_holds_49_1 = true := by decide +kernel
theorem dX0_holds_49 : decode cX0_holds 49 = .ok (.iaload, 1) := dc_of dtX0_holds_49_1_ok (i := 0) rfl
theorem dX0_holds_50 : decode cX0_holds 50 = .ok (.goto 16, 3) := dc_of dtX0_holds_49_1_ok (i := 1) rfl
theorem dX0_holds_53 : decode cX0_holds 53 = .ok (.aload_n 1, 1) := dc_of dtX0_holds_49_1_ok (i := 2) rfl
theorem dX0_holds_54 : decode cX0_holds 54 = .ok (.iload_n 2, 1) := dc_of dtX0_holds_49_1_ok (i := 3) rfl
theorem dX0_holds_55 : decode cX0_holds 55 = .ok (.aload_n 0, 1) := dc_of dtX0_holds_49_1_ok (i := 4) rfl
theorem dX0_holds_56 : decode cX0_holds 56 = .ok (.getfield 11, 3) := dc_of dtX0_holds_49_1_ok (i := 5) rfl
theorem dX0_holds_59 : decode cX0_holds 59 = .ok (.iload 4, 2) := dc_of dtX0_holds_49_1_ok (i := 6) rfl
theorem dX0_holds_61 : decode cX0_holds 61 = .ok (.iconst 2, 1) := dc_of dtX0_holds_49_1_ok (i := 7) rfl
theorem dX0_holds_62 : decode cX0_holds 62 = .ok (.iadd, 1) := dc_of dtX0_holds_49_1_ok (i := 8) rfl
theorem dX0_holds_63 : decode cX0_holds 63 = .ok (.iaload, 1) := dc_of dtX0_holds_49_1_ok (i := 9) rfl
theorem dX0_holds_64 : decode cX0_holds 64 = .ok (.iadd, 1) := dc_of dtX0_holds_49_1_ok (i := 10) rfl
theorem dX0_holds_65 : decode cX0_holds 65 = .ok (.iaload, 1) := dc_of dtX0_holds_49_1_ok (i := 11) rfl
theorem dX0_holds_66 : decode cX0_holds 66 = .ok (.istore 6, 2) := dc_of dtX0_holds_49_1_ok (i := 12) rfl
theorem dX0_holds_68 : decode cX0_holds 68 = .ok (.aload_n 0, 1) := dc_of dtX0_holds_49_1_ok (i := 13) rfl
theorem dX0_holds_69 : decode cX0_holds 69 = .ok (.getfield 11, 3) := dc_of dtX0_holds_49_1_ok (i := 14) rfl
theorem dX0_holds_72 : decode cX0_holds 72 = .ok (.iload 4, 2) := dc_of dtX0_holds_49_1_ok (i := 15) rfl
theorem dX0_holds_74 : decode cX0_holds 74 = .ok (.iconst 1, 1) := dc_of dtX0_holds_49_1_ok (i := 16) rfl
theorem dX0_holds_75 : decode cX0_holds 75 = .ok (.iadd, 1) := dc_of dtX0_holds_49_1_ok (i := 17) rfl
theorem dX0_holds_76 : decode cX0_holds 76 = .ok (.iaload, 1) := dc_of dtX0_holds_49_1_ok (i := 18) rfl
theorem dX0_holds_77 : decode cX0_holds 77 = .ok (.istore 7, 2) := dc_of dtX0_holds_49_1_ok (i := 19) rfl
theorem dX0_holds_79 : decode cX0_holds 79 = .ok (.iload 7, 2) := dc_of dtX0_holds_49_1_ok (i := 20) rfl
theorem dX0_holds_81 : decode cX0_holds 81 = .ok (.bipush 61, 2) := dc_of dtX0_holds_49_1_ok (i := 21) rfl
theorem dX0_holds_83 : decode cX0_holds 83 = .ok (.if_icmp .ne 13, 3) := dc_of dtX0_holds_49_1_ok (i := 22) rfl
theorem dX0_holds_86 : decode cX0_holds 86 = .ok (.iload 5, 2) := dc_of dtX0_holds_49_1_ok (i := 23) rfl
theorem dX0_holds_88 : decode cX0_holds 88 = .ok (.iload 6, 2) := dc_of dtX0_holds_49_1_ok (i := 24) rfl
theorem dX0_holds_90 : decode cX0_holds 90 = .ok (.if_icmp .eq 32, 3) := dc_of dtX0_holds_49_1_ok (i := 25) rfl
theorem dX0_holds_93 : decode cX0_holds 93 = .ok (.goto 27, 3) := dc_of dtX0_holds_49_1_ok (i := 26) rfl
theorem dX0_holds_96 : decode cX0_holds 96 = .ok (.iload 7, 2) := dc_of dtX0_holds_49_1_ok (i := 27) rfl
theorem dX0_holds_98 : decode cX0_holds 98 = .ok (.bipush 60, 2) := dc_of dtX0_holds_49_1_ok (i := 28) rfl
theorem dX0_holds_100 : decode cX0_holds 100 = .ok (.if_icmp .ne 13, 3) := dc_of dtX0_holds_49_1_ok (i := 29) rfl
theorem dX0_holds_103 : decode cX0_holds 103 = .ok (.iload 5, 2) := dc_of dtX0_holds_49_1_ok (i := 30) rfl
theorem dX0_holds_105 : decode cX0_holds 105 = .ok (.iload 6, 2) := dc_of dtX0_holds_49_1_ok (i := 31) rfl
def dtX0_holds_107_2 : List (Nat × Instr × Nat) := [(107, .if_icmp .lt 15, 3), (110, .goto 10, 3), (113, .iload 5, 2), (115, .iload 6, 2), (117, .if_icmp .gt 5, 3), (120, .iconst 0, 1), (121, .ireturn, 1), (122, .iinc 3 1, 3), (125, .goto (-123), 3), (128, .iconst 1, 1), (129, .ireturn, 1)]
theorem dtX0_holds_107_2_ok : dcAll cX0_holds dtX0_holds_107_2 = true := by decide +kernel
theorem dX0_holds_107 : decode cX0_holds 107 = .ok (.if_icmp .lt 15, 3) := dc_of dtX0_holds_107_2_ok (i := 0) rfl
theorem dX0_holds_110 : decode cX0_holds 110 = .ok (.goto 10, 3) := dc_of dtX0_holds_107_2_ok (i := 1) rfl
theorem dX0_holds_113 : decode cX0_holds 113 = .ok (.iload 5, 2) := dc_of dtX0_holds_107_2_ok (i := 2) rfl
theorem dX0_holds_115 : decode cX0_holds 115 = .ok (.iload 6, 2) := dc_of dtX0_holds_107_2_ok (i := 3) rfl
theorem dX0_holds_117 : decode cX0_holds 117 = .ok (.if_icmp .gt 5, 3) := dc_of dtX0_holds_107_2_ok (i := 4) rfl
theorem dX0_holds_120 : decode cX0_holds 120 = .ok (.iconst 0, 1) := dc_of dtX0_holds_107_2_ok (i := 5) rfl
theorem dX0_holds_121 : decode cX0_holds 121 = .ok (.ireturn, 1) := dc_of dtX0_holds_107_2_ok (i := 6) rfl
theorem dX0_holds_122 : decode cX0_holds 122 = .ok (.iinc 3 1, 3) := dc_of dtX0_holds_107_2_ok (i := 7) rfl
theorem dX0_holds_125 : decode cX0_holds 125 = .ok (.goto (-123), 3) := dc_of dtX0_holds_107_2_ok (i := 8) rfl
theorem dX0_holds_128 : decode cX0_holds 128 = .ok (.iconst 1, 1) := dc_of dtX0_holds_107_2_ok (i := 9) rfl
theorem dX0_holds_129 : decode cX0_holds 129 = .ok (.ireturn, 1) := dc_of dtX0_holds_107_2_ok (i := 10) rfl
def dtX0_addTwo_0_0 : List (Nat × Instr × Nat) := [(0, .aload_n 0, 1), (1, .getfield 11, 3), (4, .iconst 2, 1), (5, .aload_n 0, 1), (6, .getfield 34, 3), (9, .imul, 1), (10, .iload_n 1, 1), (11, .iastore, 1), (12, .aload_n 0, 1), (13, .getfield 11, 3), (16, .iconst 2, 1), (17, .aload_n 0, 1), (18, .getfield 34, 3), (21, .imul, 1), (22, .iconst 1, 1), (23, .iadd, 1), (24, .iload_n 2, 1), (25, .iastore, 1), (26, .aload_n 0, 1), (27, .dup, 1), (28, .getfield 34, 3), (31, .iconst 1, 1), (32, .iadd, 1), (33, .putfield 34, 3), (36, .return_, 1)]
theorem dtX0_addTwo_0_0_ok : dcAll cX0_addTwo dtX0_addTwo_0_0 = true := by decide +kernel
theorem dX0_addTwo_0 : decode cX0_addTwo 0 = .ok (.aload_n 0, 1) := dc_of dtX0_addTwo_0_0_ok (i := 0) rfl
theorem dX0_addTwo_1 : decode cX0_addTwo 1 = .ok (.getfield 11, 3) := dc_of dtX0_addTwo_0_0_ok (i := 1) rfl
theorem dX0_addTwo_4 : decode cX0_addTwo 4 = .ok (.iconst 2, 1) := dc_of dtX0_addTwo_0_0_ok (i := 2) rfl
theorem dX0_addTwo_5 : decode cX0_addTwo 5 = .ok (.aload_n 0, 1) := dc_of dtX0_addTwo_0_0_ok (i := 3) rfl
theorem dX0_addTwo_6 : decode cX0_addTwo 6 = .ok (.getfield 34, 3) := dc_of dtX0_addTwo_0_0_ok (i := 4) rfl
theorem dX0_addTwo_9 : decode cX0_addTwo 9 = .ok (.imul, 1) := dc_of dtX0_addTwo_0_0_ok (i := 5) rfl
theorem dX0_addTwo_10 : decode cX0_addTwo 10 = .ok (.iload_n 1, 1) := dc_of dtX0_addTwo_0_0_ok (i := 6) rfl
theorem dX0_addTwo_11 : decode cX0_addTwo 11 = .ok (.iastore, 1) := dc_of dtX0_addTwo_0_0_ok (i := 7) rfl
theorem dX0_addTwo_12 : decode cX0_addTwo 12 = .ok (.aload_n 0, 1) := dc_of dtX0_addTwo_0_0_ok (i := 8) rfl
theorem dX0_addTwo_13 : decode cX0_addTwo 13 = .ok (.getfield 11, 3) := dc_of dtX0_addTwo_0_0_ok (i := 9) rfl
theorem dX0_addTwo_16 : decode cX0_addTwo 16 = .ok (.iconst 2, 1) := dc_of dtX0_addTwo_0_0_ok (i := 10) rfl
theorem dX0_addTwo_17 : decode cX0_addTwo 17 = .ok (.aload_n 0, 1) := dc_of dtX0_addTwo_0_0_ok (i := 11) rfl
theorem dX0_addTwo_18 : decode cX0_addTwo 18 = .ok (.getfield 34, 3) := dc_of dtX0_addTwo_0_0_ok (i := 12) rfl
theorem dX0_addTwo_21 : decode cX0_addTwo 21 = .ok (.imul, 1) := dc_of dtX0_addTwo_0_0_ok (i := 13) rfl
theorem dX0_addTwo_22 : decode cX0_addTwo 22 = .ok (.iconst 1, 1) := dc_of dtX0_addTwo_0_0_ok (i := 14) rfl
theorem dX0_addTwo_23 : decode cX0_addTwo 23 = .ok (.iadd, 1) := dc_of dtX0_addTwo_0_0_ok (i := 15) rfl
theorem dX0_addTwo_24 : decode cX0_addTwo 24 = .ok (.iload_n 2, 1) := dc_of dtX0_addTwo_0_0_ok (i := 16) rfl
theorem dX0_addTwo_25 : decode cX0_addTwo 25 = .ok (.iastore, 1) := dc_of dtX0_addTwo_0_0_ok (i := 17) rfl
theorem dX0_addTwo_26 : decode cX0_addTwo 26 = .ok (.aload_n 0, 1) := dc_of dtX0_addTwo_0_0_ok (i := 18) rfl
theorem dX0_addTwo_27 : decode cX0_addTwo 27 = .ok (.dup, 1) := dc_of dtX0_addTwo_0_0_ok (i := 19) rfl
theorem dX0_addTwo_28 : decode cX0_addTwo 28 = .ok (.getfield 34, 3) := dc_of dtX0_addTwo_0_0_ok (i := 20) rfl
theorem dX0_addTwo_31 : decode cX0_addTwo 31 = .ok (.iconst 1, 1) := dc_of dtX0_addTwo_0_0_ok (i := 21) rfl
theorem dX0_addTwo_32 : decode cX0_addTwo 32 = .ok (.iadd, 1) := dc_of dtX0_addTwo_0_0_ok (i := 22) rfl
theorem dX0_addTwo_33 : decode cX0_addTwo 33 = .ok (.putfield 34, 3) := dc_of dtX0_addTwo_0_0_ok (i := 23) rfl
theorem dX0_addTwo_36 : decode cX0_addTwo 36 = .ok (.return_, 1) := dc_of dtX0_addTwo_0_0_ok (i := 24) rfl
def dtX0_fillTerms_0_0 : List (Nat × Instr × Nat) := [(0, .iconst 0, 1), (1, .istore 4, 2), (3, .iload 4, 2), (5, .aload_n 0, 1), (6, .getfield 34, 3), (9, .if_icmp .ge 52, 3), (12, .aload_n 0, 1), (13, .getfield 11, 3), (16, .iconst 2, 1), (17, .iload 4, 2), (19, .imul, 1), (20, .iaload, 1), (21, .istore 5, 2), (23, .aload_n 3, 1), (24, .iload 4, 2), (26, .iload 5, 2), (28, .iconst (-1), 1), (29, .if_icmp .ne 7, 3), (32, .iconst 0, 1), (33, .goto 9, 3), (36, .aload_n 1, 1), (37, .iload_n 2, 1), (38, .iload 5, 2), (40, .iadd, 1), (41, .iaload, 1), (42, .aload_n 0, 1), (43, .getfield 11, 3), (46, .iconst 2, 1), (47, .iload 4, 2), (49, .imul, 1), (50, .iconst 1, 1), (51, .iadd, 1)]
theorem dtX0_fillTerms_0_0_ok : dcAll cX0_fillTerms dtX0_fillTerms_0_0 = true := by decide +kernel
theorem dX0_fillTerms_0 : decode cX0_fillTerms 0 = .ok (.iconst 0, 1) := dc_of dtX0_fillTerms_0_0_ok (i := 0) rfl
theorem dX0_fillTerms_1 : decode cX0_fillTerms 1 = .ok (.istore 4, 2) := dc_of dtX0_fillTerms_0_0_ok (i := 1) rfl
theorem dX0_fillTerms_3 : decode cX0_fillTerms 3 = .ok (.iload 4, 2) := dc_of dtX0_fillTerms_0_0_ok (i := 2) rfl
theorem dX0_fillTerms_5 : decode cX0_fillTerms 5 = .ok (.aload_n 0, 1) := dc_of dtX0_fillTerms_0_0_ok (i := 3) rfl
theorem dX0_fillTerms_6 : decode cX0_fillTerms 6 = .ok (.getfield 34, 3) := dc_of dtX0_fillTerms_0_0_ok (i := 4) rfl
theorem dX0_fillTerms_9 : decode cX0_fillTerms 9 = .ok (.if_icmp .ge 52, 3) := dc_of dtX0_fillTerms_0_0_ok (i := 5) rfl
theorem dX0_fillTerms_12 : decode cX0_fillTerms 12 = .ok (.aload_n 0, 1) := dc_of dtX0_fillTerms_0_0_ok (i := 6) rfl
theorem dX0_fillTerms_13 : decode cX0_fillTerms 13 = .ok (.getfield 11, 3) := dc_of dtX0_fillTerms_0_0_ok (i := 7) rfl
theorem dX0_fillTerms_16 : decode cX0_fillTerms 16 = .ok (.iconst 2, 1) := dc_of dtX0_fillTerms_0_0_ok (i := 8) rfl
theorem dX0_fillTerms_17 : decode cX0_fillTerms 17 = .ok (.iload 4, 2) := dc_of dtX0_fillTerms_0_0_ok (i := 9) rfl
theorem dX0_fillTerms_19 : decode cX0_fillTerms 19 = .ok (.imul, 1) := dc_of dtX0_fillTerms_0_0_ok (i := 10) rfl
theorem dX0_fillTerms_20 : decode cX0_fillTerms 20 = .ok (.iaload, 1) := dc_of dtX0_fillTerms_0_0_ok (i := 11) rfl
theorem dX0_fillTerms_21 : decode cX0_fillTerms 21 = .ok (.istore 5, 2) := dc_of dtX0_fillTerms_0_0_ok (i := 12) rfl
theorem dX0_fillTerms_23 : decode cX0_fillTerms 23 = .ok (.aload_n 3, 1) := dc_of dtX0_fillTerms_0_0_ok (i := 13) rfl
theorem dX0_fillTerms_24 : decode cX0_fillTerms 24 = .ok (.iload 4, 2) := dc_of dtX0_fillTerms_0_0_ok (i := 14) rfl
theorem dX0_fillTerms_26 : decode cX0_fillTerms 26 = .ok (.iload 5, 2) := dc_of dtX0_fillTerms_0_0_ok (i := 15) rfl
theorem dX0_fillTerms_28 : decode cX0_fillTerms 28 = .ok (.iconst (-1), 1) := dc_of dtX0_fillTerms_0_0_ok (i := 16) rfl
theorem dX0_fillTerms_29 : decode cX0_fillTerms 29 = .ok (.if_icmp .ne 7, 3) := dc_of dtX0_fillTerms_0_0_ok (i := 17) rfl
theorem dX0_fillTerms_32 : decode cX0_fillTerms 32 = .ok (.iconst 0, 1) := dc_of dtX0_fillTerms_0_0_ok (i := 18) rfl
theorem dX0_fillTerms_33 : decode cX0_fillTerms 33 = .ok (.goto 9, 3) := dc_of dtX0_fillTerms_0_0_ok (i := 19) rfl
theorem dX0_fillTerms_36 : decode cX0_fillTerms 36 = .ok (.aload_n 1, 1) := dc_of dtX0_fillTerms_0_0_ok (i := 20) rfl
theorem dX0_fillTerms_37 : decode cX0_fillTerms 37 = .ok (.iload_n 2, 1) := dc_of dtX0_fillTerms_0_0_ok (i := 21) rfl
theorem dX0_fillTerms_38 : decode cX0_fillTerms 38 = .ok (.iload 5, 2) := dc_of dtX0_fillTerms_0_0_ok (i := 22) rfl
theorem dX0_fillTerms_40 : decode cX0_fillTerms 40 = .ok (.iadd, 1) := dc_of dtX0_fillTerms_0_0_ok (i := 23) rfl
theorem dX0_fillTerms_41 : decode cX0_fillTerms 41 = .ok (.iaload, 1) := dc_of dtX0_fillTerms_0_0_ok (i := 24) rfl
theorem dX0_fillTerms_42 : decode cX0_fillTerms 42 = .ok (.aload_n 0, 1) := dc_of dtX0_fillTerms_0_0_ok (i := 25) rfl
theorem dX0_fillTerms_43 : decode cX0_fillTerms 43 = .ok (.getfield 11, 3) := dc_of dtX0_fillTerms_0_0_ok (i := 26) rfl
theorem dX0_fillTerms_46 : decode cX0_fillTerms 46 = .ok (.iconst 2, 1) := dc_of dtX0_fillTerms_0_0_ok (i := 27) rfl
theorem dX0_fillTerms_47 : decode cX0_fillTerms 47 = .ok (.iload 4, 2) := dc_of dtX0_fillTerms_0_0_ok (i := 28) rfl
theorem dX0_fillTerms_49 : decode cX0_fillTerms 49 = .ok (.imul, 1) := dc_of dtX0_fillTerms_0_0_ok (i := 29) rfl
theorem dX0_fillTerms_50 : decode cX0_fillTerms 50 = .ok (.iconst 1, 1) := dc_of dtX0_fillTerms_0_0_ok (i := 30) rfl
theorem dX0_fillTerms_51 : decode cX0_fillTerms 51 = .ok (.iadd, 1) := dc_of dtX0_fillTerms_0_0_ok (i := 31) rfl
def dtX0_fillTerms_52_1 : List (Nat × Instr × Nat) := [(52, .iaload, 1), (53, .iadd, 1), (54, .iastore, 1), (55, .iinc 4 1, 3), (58, .goto (-55), 3), (61, .return_, 1)]
theorem dtX0_fillTerms_52_1_ok : dcAll cX0_fillTerms dtX0_fillTerms_52_1 = true := by decide +kernel
theorem dX0_fillTerms_52 : decode cX0_fillTerms 52 = .ok (.iaload, 1) := dc_of dtX0_fillTerms_52_1_ok (i := 0) rfl
theorem dX0_fillTerms_53 : decode cX0_fillTerms 53 = .ok (.iadd, 1) := dc_of dtX0_fillTerms_52_1_ok (i := 1) rfl
theorem dX0_fillTerms_54 : decode cX0_fillTerms 54 = .ok (.iastore, 1) := dc_of dtX0_fillTerms_52_1_ok (i := 2) rfl
theorem dX0_fillTerms_55 : decode cX0_fillTerms 55 = .ok (.iinc 4 1, 3) := dc_of dtX0_fillTerms_52_1_ok (i := 3) rfl
theorem dX0_fillTerms_58 : decode cX0_fillTerms 58 = .ok (.goto (-55), 3) := dc_of dtX0_fillTerms_52_1_ok (i := 4) rfl
theorem dX0_fillTerms_61 : decode cX0_fillTerms 61 = .ok (.return_, 1) := dc_of dtX0_fillTerms_52_1_ok (i := 5) rfl
def dtX0_pairsAreAlike_0_0 : List (Nat × Instr × Nat) := [(0, .iconst 0, 1), (1, .istore 5, 2), (3, .iload 5, 2), (5, .aload_n 0, 1), (6, .getfield 34, 3), (9, .if_icmp .ge 43, 3), (12, .aload_n 1, 1), (13, .iload_n 2, 1), (14, .aload_n 0, 1), (15, .getfield 11, 3), (18, .iconst 2, 1), (19, .iload 5, 2), (21, .imul, 1), (22, .iaload, 1), (23, .iadd, 1), (24, .iaload, 1), (25, .aload_n 3, 1), (26, .iload 4, 2), (28, .aload_n 0, 1), (29, .getfield 11, 3), (32, .iconst 2, 1), (33, .iload 5, 2), (35, .imul, 1), (36, .iconst 1, 1), (37, .iadd, 1), (38, .iaload, 1), (39, .iadd, 1), (40, .iaload, 1), (41, .if_icmp .eq 5, 3), (44, .iconst 0, 1), (45, .ireturn, 1), (46, .iinc 5 1, 3)]
theorem dtX0_pairsAreAlike_0_0_ok : dcAll cX0_pairsAreAlike dtX0_pairsAreAlike_0_0 = true := by decide +kernel
theorem dX0_pairsAreAlike_0 : decode cX0_pairsAreAlike 0 = .ok (.iconst 0, 1) := dc_of dtX0_pairsAreAlike_0_0_ok (i := 0) rfl
theorem dX0_pairsAreAlike_1 : decode cX0_pairsAreAlike 1 = .ok (.istore 5, 2) := dc_of dtX0_pairsAreAlike_0_0_ok (i := 1) rfl
theorem dX0_pairsAreAlike_3 : decode cX0_pairsAreAlike 3 = .ok (.iload 5, 2) := dc_of dtX0_pairsAreAlike_0_0_ok (i := 2) rfl
theorem dX0_pairsAreAlike_5 : decode cX0_pairsAreAlike 5 = .ok (.aload_n 0, 1) := dc_of dtX0_pairsAreAlike_0_0_ok (i := 3) rfl
theorem dX0_pairsAreAlike_6 : decode cX0_pairsAreAlike 6 = .ok (.getfield 34, 3) := dc_of dtX0_pairsAreAlike_0_0_ok (i := 4) rfl
theorem dX0_pairsAreAlike_9 : decode cX0_pairsAreAlike 9 = .ok (.if_icmp .ge 43, 3) := dc_of dtX0_pairsAreAlike_0_0_ok (i := 5) rfl
theorem dX0_pairsAreAlike_12 : decode cX0_pairsAreAlike 12 = .ok (.aload_n 1, 1) := dc_of dtX0_pairsAreAlike_0_0_ok (i := 6) rfl
theorem dX0_pairsAreAlike_13 : decode cX0_pairsAreAlike 13 = .ok (.iload_n 2, 1) := dc_of dtX0_pairsAreAlike_0_0_ok (i := 7) rfl
theorem dX0_pairsAreAlike_14 : decode cX0_pairsAreAlike 14 = .ok (.aload_n 0, 1) := dc_of dtX0_pairsAreAlike_0_0_ok (i := 8) rfl
theorem dX0_pairsAreAlike_15 : decode cX0_pairsAreAlike 15 = .ok (.getfield 11, 3) := dc_of dtX0_pairsAreAlike_0_0_ok (i := 9) rfl
theorem dX0_pairsAreAlike_18 : decode cX0_pairsAreAlike 18 = .ok (.iconst 2, 1) := dc_of dtX0_pairsAreAlike_0_0_ok (i := 10) rfl
theorem dX0_pairsAreAlike_19 : decode cX0_pairsAreAlike 19 = .ok (.iload 5, 2) := dc_of dtX0_pairsAreAlike_0_0_ok (i := 11) rfl
theorem dX0_pairsAreAlike_21 : decode cX0_pairsAreAlike 21 = .ok (.imul, 1) := dc_of dtX0_pairsAreAlike_0_0_ok (i := 12) rfl
theorem dX0_pairsAreAlike_22 : decode cX0_pairsAreAlike 22 = .ok (.iaload, 1) := dc_of dtX0_pairsAreAlike_0_0_ok (i := 13) rfl
theorem dX0_pairsAreAlike_23 : decode cX0_pairsAreAlike 23 = .ok (.iadd, 1) := dc_of dtX0_pairsAreAlike_0_0_ok (i := 14) rfl
theorem dX0_pairsAreAlike_24 : decode cX0_pairsAreAlike 24 = .ok (.iaload, 1) := dc_of dtX0_pairsAreAlike_0_0_ok (i := 15) rfl
theorem dX0_pairsAreAlike_25 : decode cX0_pairsAreAlike 25 = .ok (.aload_n 3, 1) := dc_of dtX0_pairsAreAlike_0_0_ok (i := 16) rfl
theorem dX0_pairsAreAlike_26 : decode cX0_pairsAreAlike 26 = .ok (.iload 4, 2) := dc_of dtX0_pairsAreAlike_0_0_ok (i := 17) rfl
theorem dX0_pairsAreAlike_28 : decode cX0_pairsAreAlike 28 = .ok (.aload_n 0, 1) := dc_of dtX0_pairsAreAlike_0_0_ok (i := 18) rfl
theorem dX0_pairsAreAlike_29 : decode cX0_pairsAreAlike 29 = .ok (.getfield 11, 3) := dc_of dtX0_pairsAreAlike_0_0_ok (i := 19) rfl
theorem dX0_pairsAreAlike_32 : decode cX0_pairsAreAlike 32 = .ok (.iconst 2, 1) := dc_of dtX0_pairsAreAlike_0_0_ok (i := 20) rfl
theorem dX0_pairsAreAlike_33 : decode cX0_pairsAreAlike 33 = .ok (.iload 5, 2) := dc_of dtX0_pairsAreAlike_0_0_ok (i := 21) rfl
theorem dX0_pairsAreAlike_35 : decode cX0_pairsAreAlike 35 = .ok (.imul, 1) := dc_of dtX0_pairsAreAlike_0_0_ok (i := 22) rfl
theorem dX0_pairsAreAlike_36 : decode cX0_pairsAreAlike 36 = .ok (.iconst 1, 1) := dc_of dtX0_pairsAreAlike_0_0_ok (i := 23) rfl
theorem dX0_pairsAreAlike_37 : decode cX0_pairsAreAlike 37 = .ok (.iadd, 1) := dc_of dtX0_pairsAreAlike_0_0_ok (i := 24) rfl
theorem dX0_pairsAreAlike_38 : decode cX0_pairsAreAlike 38 = .ok (.iaload, 1) := dc_of dtX0_pairsAreAlike_0_0_ok (i := 25) rfl
theorem dX0_pairsAreAlike_39 : decode cX0_pairsAreAlike 39 = .ok (.iadd, 1) := dc_of dtX0_pairsAreAlike_0_0_ok (i := 26) rfl
theorem dX0_pairsAreAlike_40 : decode cX0_pairsAreAlike 40 = .ok (.iaload, 1) := dc_of dtX0_pairsAreAlike_0_0_ok (i := 27) rfl
theorem dX0_pairsAreAlike_41 : decode cX0_pairsAreAlike 41 = .ok (.if_icmp .eq 5, 3) := dc_of dtX0_pairsAreAlike_0_0_ok (i := 28) rfl
theorem dX0_pairsAreAlike_44 : decode cX0_pairsAreAlike 44 = .ok (.iconst 0, 1) := dc_of dtX0_pairsAreAlike_0_0_ok (i := 29) rfl
theorem dX0_pairsAreAlike_45 : decode cX0_pairsAreAlike 45 = .ok (.ireturn, 1) := dc_of dtX0_pairsAreAlike_0_0_ok (i := 30) rfl
theorem dX0_pairsAreAlike_46 : decode cX0_pairsAreAlike 46 = .ok (.iinc 5 1, 3) := dc_of dtX0_pairsAreAlike_0_0_ok (i := 31) rfl
def dtX0_pairsAreAlike_49_1 : List (Nat × Instr × Nat) := [(49, .goto (-46), 3), (52, .iconst 1, 1), (53, .ireturn, 1)]
theorem dtX0_pairsAreAlike_49_1_ok : dcAll cX0_pairsAreAlike dtX0_pairsAreAlike_49_1 = true := by decide +kernel
theorem dX0_pairsAreAlike_49 : decode cX0_pairsAreAlike 49 = .ok (.goto (-46), 3) := dc_of dtX0_pairsAreAlike_49_1_ok (i := 0) rfl
theorem dX0_pairsAreAlike_52 : decode cX0_pairsAreAlike 52 = .ok (.iconst 1, 1) := dc_of dtX0_pairsAreAlike_49_1_ok (i := 1) rfl
theorem dX0_pairsAreAlike_53 : decode cX0_pairsAreAlike 53 = .ok (.ireturn, 1) := dc_of dtX0_pairsAreAlike_49_1_ok (i := 2) rfl
def dtX0_tellsSecond_0_0 : List (Nat × Instr × Nat) := [(0, .iconst 0, 1), (1, .istore_n 2, 1), (2, .iload_n 2, 1), (3, .aload_n 0, 1), (4, .getfield 34, 3), (7, .if_icmp .ge 25, 3), (10, .aload_n 0, 1), (11, .getfield 11, 3), (14, .iconst 2, 1), (15, .iload_n 2, 1), (16, .imul, 1), (17, .iconst 1, 1), (18, .iadd, 1), (19, .iaload, 1), (20, .iload_n 1, 1), (21, .if_icmp .ne 5, 3), (24, .iconst 1, 1), (25, .ireturn, 1), (26, .iinc 2 1, 3), (29, .goto (-27), 3), (32, .iconst 0, 1), (33, .ireturn, 1)]
theorem dtX0_tellsSecond_0_0_ok : dcAll cX0_tellsSecond dtX0_tellsSecond_0_0 = true := by decide +kernel
theorem dX0_tellsSecond_0 : decode cX0_tellsSecond 0 = .ok (.iconst 0, 1) := dc_of dtX0_tellsSecond_0_0_ok (i := 0) rfl
theorem dX0_tellsSecond_1 : decode cX0_tellsSecond 1 = .ok (.istore_n 2, 1) := dc_of dtX0_tellsSecond_0_0_ok (i := 1) rfl
theorem dX0_tellsSecond_2 : decode cX0_tellsSecond 2 = .ok (.iload_n 2, 1) := dc_of dtX0_tellsSecond_0_0_ok (i := 2) rfl
theorem dX0_tellsSecond_3 : decode cX0_tellsSecond 3 = .ok (.aload_n 0, 1) := dc_of dtX0_tellsSecond_0_0_ok (i := 3) rfl
theorem dX0_tellsSecond_4 : decode cX0_tellsSecond 4 = .ok (.getfield 34, 3) := dc_of dtX0_tellsSecond_0_0_ok (i := 4) rfl
theorem dX0_tellsSecond_7 : decode cX0_tellsSecond 7 = .ok (.if_icmp .ge 25, 3) := dc_of dtX0_tellsSecond_0_0_ok (i := 5) rfl
theorem dX0_tellsSecond_10 : decode cX0_tellsSecond 10 = .ok (.aload_n 0, 1) := dc_of dtX0_tellsSecond_0_0_ok (i := 6) rfl
theorem dX0_tellsSecond_11 : decode cX0_tellsSecond 11 = .ok (.getfield 11, 3) := dc_of dtX0_tellsSecond_0_0_ok (i := 7) rfl
theorem dX0_tellsSecond_14 : decode cX0_tellsSecond 14 = .ok (.iconst 2, 1) := dc_of dtX0_tellsSecond_0_0_ok (i := 8) rfl
theorem dX0_tellsSecond_15 : decode cX0_tellsSecond 15 = .ok (.iload_n 2, 1) := dc_of dtX0_tellsSecond_0_0_ok (i := 9) rfl
theorem dX0_tellsSecond_16 : decode cX0_tellsSecond 16 = .ok (.imul, 1) := dc_of dtX0_tellsSecond_0_0_ok (i := 10) rfl
theorem dX0_tellsSecond_17 : decode cX0_tellsSecond 17 = .ok (.iconst 1, 1) := dc_of dtX0_tellsSecond_0_0_ok (i := 11) rfl
theorem dX0_tellsSecond_18 : decode cX0_tellsSecond 18 = .ok (.iadd, 1) := dc_of dtX0_tellsSecond_0_0_ok (i := 12) rfl
theorem dX0_tellsSecond_19 : decode cX0_tellsSecond 19 = .ok (.iaload, 1) := dc_of dtX0_tellsSecond_0_0_ok (i := 13) rfl
theorem dX0_tellsSecond_20 : decode cX0_tellsSecond 20 = .ok (.iload_n 1, 1) := dc_of dtX0_tellsSecond_0_0_ok (i := 14) rfl
theorem dX0_tellsSecond_21 : decode cX0_tellsSecond 21 = .ok (.if_icmp .ne 5, 3) := dc_of dtX0_tellsSecond_0_0_ok (i := 15) rfl
theorem dX0_tellsSecond_24 : decode cX0_tellsSecond 24 = .ok (.iconst 1, 1) := dc_of dtX0_tellsSecond_0_0_ok (i := 16) rfl
theorem dX0_tellsSecond_25 : decode cX0_tellsSecond 25 = .ok (.ireturn, 1) := dc_of dtX0_tellsSecond_0_0_ok (i := 17) rfl
theorem dX0_tellsSecond_26 : decode cX0_tellsSecond 26 = .ok (.iinc 2 1, 3) := dc_of dtX0_tellsSecond_0_0_ok (i := 18) rfl
theorem dX0_tellsSecond_29 : decode cX0_tellsSecond 29 = .ok (.goto (-27), 3) := dc_of dtX0_tellsSecond_0_0_ok (i := 19) rfl
theorem dX0_tellsSecond_32 : decode cX0_tellsSecond 32 = .ok (.iconst 0, 1) := dc_of dtX0_tellsSecond_0_0_ok (i := 20) rfl
theorem dX0_tellsSecond_33 : decode cX0_tellsSecond 33 = .ok (.ireturn, 1) := dc_of dtX0_tellsSecond_0_0_ok (i := 21) rfl
set_option maxRecDepth 20000 in
theorem gw_wsX0_tellsSecond : wsX0_tellsSecond.all goodWord = true := by decide +kernel
set_option maxRecDepth 20000 in
theorem ggX0_columnsOfJoin_X0_tellsSecond : GoodIn wsX0_columnsOfJoin wsX0_tellsSecond := goodIn_r _ [7, 8, 9, 10, 11, 12, 13, 14, 15, 16, 17, 18, 19, 20, 21, 22, 23, 24] rfl gw_wsX0_tellsSecond
set_option maxRecDepth 20000 in
theorem gX0_columnsOfJoin_X0_tellsSecond : GoodIn wsX0_columnsOfJoin (wsV RX0 51 RX0 yX0_tellsSecond wsX0_tellsSecond) := goodIn_app (goodIn_of _ (by decide +kernel)) ggX0_columnsOfJoin_X0_tellsSecond
def dtX0_columnsOfJoin_0_0 : List (Nat × Instr × Nat) := [(0, .aload_n 0, 1), (1, .getfield 28, 3), (4, .istore_n 1, 1), (5, .iconst 0, 1), (6, .istore_n 2, 1), (7, .iload_n 2, 1), (8, .aload_n 0, 1), (9, .getfield 31, 3), (12, .if_icmp .ge 25, 3), (15, .iload_n 1, 1), (16, .aload_n 0, 1), (17, .iload_n 2, 1), (18, .invokevirtual 51, 3), (21, .ifCond .eq 7, 3), (24, .iconst 0, 1), (25, .goto 4, 3), (28, .iconst 1, 1), (29, .iadd, 1), (30, .istore_n 1, 1), (31, .iinc 2 1, 3), (34, .goto (-27), 3), (37, .iload_n 1, 1), (38, .ireturn, 1)]
theorem dtX0_columnsOfJoin_0_0_ok : dcAll cX0_columnsOfJoin dtX0_columnsOfJoin_0_0 = true := by decide +kernel
theorem dX0_columnsOfJoin_0 : decode cX0_columnsOfJoin 0 = .ok (.aload_n 0, 1) := dc_of dtX0_columnsOfJoin_0_0_ok (i := 0) rfl
theorem dX0_columnsOfJoin_1 : decode cX0_columnsOfJoin 1 = .ok (.getfield 28, 3) := dc_of dtX0_columnsOfJoin_0_0_ok (i := 1) rfl
theorem dX0_columnsOfJoin_4 : decode cX0_columnsOfJoin 4 = .ok (.istore_n 1, 1) := dc_of dtX0_columnsOfJoin_0_0_ok (i := 2) rfl
theorem dX0_columnsOfJoin_5 : decode cX0_columnsOfJoin 5 = .ok (.iconst 0, 1) := dc_of dtX0_columnsOfJoin_0_0_ok (i := 3) rfl
theorem dX0_columnsOfJoin_6 : decode cX0_columnsOfJoin 6 = .ok (.istore_n 2, 1) := dc_of dtX0_columnsOfJoin_0_0_ok (i := 4) rfl
theorem dX0_columnsOfJoin_7 : decode cX0_columnsOfJoin 7 = .ok (.iload_n 2, 1) := dc_of dtX0_columnsOfJoin_0_0_ok (i := 5) rfl
theorem dX0_columnsOfJoin_8 : decode cX0_columnsOfJoin 8 = .ok (.aload_n 0, 1) := dc_of dtX0_columnsOfJoin_0_0_ok (i := 6) rfl
theorem dX0_columnsOfJoin_9 : decode cX0_columnsOfJoin 9 = .ok (.getfield 31, 3) := dc_of dtX0_columnsOfJoin_0_0_ok (i := 7) rfl
theorem dX0_columnsOfJoin_12 : decode cX0_columnsOfJoin 12 = .ok (.if_icmp .ge 25, 3) := dc_of dtX0_columnsOfJoin_0_0_ok (i := 8) rfl
theorem dX0_columnsOfJoin_15 : decode cX0_columnsOfJoin 15 = .ok (.iload_n 1, 1) := dc_of dtX0_columnsOfJoin_0_0_ok (i := 9) rfl
theorem dX0_columnsOfJoin_16 : decode cX0_columnsOfJoin 16 = .ok (.aload_n 0, 1) := dc_of dtX0_columnsOfJoin_0_0_ok (i := 10) rfl
theorem dX0_columnsOfJoin_17 : decode cX0_columnsOfJoin 17 = .ok (.iload_n 2, 1) := dc_of dtX0_columnsOfJoin_0_0_ok (i := 11) rfl
theorem dX0_columnsOfJoin_18 : decode cX0_columnsOfJoin 18 = .ok (.invokevirtual 51, 3) := dc_of dtX0_columnsOfJoin_0_0_ok (i := 12) rfl
theorem dX0_columnsOfJoin_21 : decode cX0_columnsOfJoin 21 = .ok (.ifCond .eq 7, 3) := dc_of dtX0_columnsOfJoin_0_0_ok (i := 13) rfl
theorem dX0_columnsOfJoin_24 : decode cX0_columnsOfJoin 24 = .ok (.iconst 0, 1) := dc_of dtX0_columnsOfJoin_0_0_ok (i := 14) rfl
theorem dX0_columnsOfJoin_25 : decode cX0_columnsOfJoin 25 = .ok (.goto 4, 3) := dc_of dtX0_columnsOfJoin_0_0_ok (i := 15) rfl
theorem dX0_columnsOfJoin_28 : decode cX0_columnsOfJoin 28 = .ok (.iconst 1, 1) := dc_of dtX0_columnsOfJoin_0_0_ok (i := 16) rfl
theorem dX0_columnsOfJoin_29 : decode cX0_columnsOfJoin 29 = .ok (.iadd, 1) := dc_of dtX0_columnsOfJoin_0_0_ok (i := 17) rfl
theorem dX0_columnsOfJoin_30 : decode cX0_columnsOfJoin 30 = .ok (.istore_n 1, 1) := dc_of dtX0_columnsOfJoin_0_0_ok (i := 18) rfl
theorem dX0_columnsOfJoin_31 : decode cX0_columnsOfJoin 31 = .ok (.iinc 2 1, 3) := dc_of dtX0_columnsOfJoin_0_0_ok (i := 19) rfl
theorem dX0_columnsOfJoin_34 : decode cX0_columnsOfJoin 34 = .ok (.goto (-27), 3) := dc_of dtX0_columnsOfJoin_0_0_ok (i := 20) rfl
theorem dX0_columnsOfJoin_37 : decode cX0_columnsOfJoin 37 = .ok (.iload_n 1, 1) := dc_of dtX0_columnsOfJoin_0_0_ok (i := 21) rfl
theorem dX0_columnsOfJoin_38 : decode cX0_columnsOfJoin 38 = .ok (.ireturn, 1) := dc_of dtX0_columnsOfJoin_0_0_ok (i := 22) rfl
def dtX0_addColumn_0_0 : List (Nat × Instr × Nat) := [(0, .aload_n 0, 1), (1, .getfield 11, 3), (4, .aload_n 0, 1), (5, .getfield 34, 3), (8, .iload_n 1, 1), (9, .iastore, 1), (10, .aload_n 0, 1), (11, .dup, 1), (12, .getfield 34, 3), (15, .iconst 1, 1), (16, .iadd, 1), (17, .putfield 34, 3), (20, .return_, 1)]
theorem dtX0_addColumn_0_0_ok : dcAll cX0_addColumn dtX0_addColumn_0_0 = true := by decide +kernel
theorem dX0_addColumn_0 : decode cX0_addColumn 0 = .ok (.aload_n 0, 1) := dc_of dtX0_addColumn_0_0_ok (i := 0) rfl
theorem dX0_addColumn_1 : decode cX0_addColumn 1 = .ok (.getfield 11, 3) := dc_of dtX0_addColumn_0_0_ok (i := 1) rfl
theorem dX0_addColumn_4 : decode cX0_addColumn 4 = .ok (.aload_n 0, 1) := dc_of dtX0_addColumn_0_0_ok (i := 2) rfl
theorem dX0_addColumn_5 : decode cX0_addColumn 5 = .ok (.getfield 34, 3) := dc_of dtX0_addColumn_0_0_ok (i := 3) rfl
theorem dX0_addColumn_8 : decode cX0_addColumn 8 = .ok (.iload_n 1, 1) := dc_of dtX0_addColumn_0_0_ok (i := 4) rfl
theorem dX0_addColumn_9 : decode cX0_addColumn 9 = .ok (.iastore, 1) := dc_of dtX0_addColumn_0_0_ok (i := 5) rfl
theorem dX0_addColumn_10 : decode cX0_addColumn 10 = .ok (.aload_n 0, 1) := dc_of dtX0_addColumn_0_0_ok (i := 6) rfl
theorem dX0_addColumn_11 : decode cX0_addColumn 11 = .ok (.dup, 1) := dc_of dtX0_addColumn_0_0_ok (i := 7) rfl
theorem dX0_addColumn_12 : decode cX0_addColumn 12 = .ok (.getfield 34, 3) := dc_of dtX0_addColumn_0_0_ok (i := 8) rfl
theorem dX0_addColumn_15 : decode cX0_addColumn 15 = .ok (.iconst 1, 1) := dc_of dtX0_addColumn_0_0_ok (i := 9) rfl
theorem dX0_addColumn_16 : decode cX0_addColumn 16 = .ok (.iadd, 1) := dc_of dtX0_addColumn_0_0_ok (i := 10) rfl
theorem dX0_addColumn_17 : decode cX0_addColumn 17 = .ok (.putfield 34, 3) := dc_of dtX0_addColumn_0_0_ok (i := 11) rfl
theorem dX0_addColumn_20 : decode cX0_addColumn 20 = .ok (.return_, 1) := dc_of dtX0_addColumn_0_0_ok (i := 12) rfl
def dtX0_hasColumn_0_0 : List (Nat × Instr × Nat) := [(0, .iconst 0, 1), (1, .istore_n 2, 1), (2, .iload_n 2, 1), (3, .aload_n 0, 1), (4, .getfield 34, 3), (7, .if_icmp .ge 21, 3), (10, .aload_n 0, 1), (11, .getfield 11, 3), (14, .iload_n 2, 1), (15, .iaload, 1), (16, .iload_n 1, 1), (17, .if_icmp .ne 5, 3), (20, .iconst 1, 1), (21, .ireturn, 1), (22, .iinc 2 1, 3), (25, .goto (-23), 3), (28, .iconst 0, 1), (29, .ireturn, 1)]
theorem dtX0_hasColumn_0_0_ok : dcAll cX0_hasColumn dtX0_hasColumn_0_0 = true := by decide +kernel
theorem dX0_hasColumn_0 : decode cX0_hasColumn 0 = .ok (.iconst 0, 1) := dc_of dtX0_hasColumn_0_0_ok (i := 0) rfl
theorem dX0_hasColumn_1 : decode cX0_hasColumn 1 = .ok (.istore_n 2, 1) := dc_of dtX0_hasColumn_0_0_ok (i := 1) rfl
theorem dX0_hasColumn_2 : decode cX0_hasColumn 2 = .ok (.iload_n 2, 1) := dc_of dtX0_hasColumn_0_0_ok (i := 2) rfl
theorem dX0_hasColumn_3 : decode cX0_hasColumn 3 = .ok (.aload_n 0, 1) := dc_of dtX0_hasColumn_0_0_ok (i := 3) rfl
theorem dX0_hasColumn_4 : decode cX0_hasColumn 4 = .ok (.getfield 34, 3) := dc_of dtX0_hasColumn_0_0_ok (i := 4) rfl
theorem dX0_hasColumn_7 : decode cX0_hasColumn 7 = .ok (.if_icmp .ge 21, 3) := dc_of dtX0_hasColumn_0_0_ok (i := 5) rfl
theorem dX0_hasColumn_10 : decode cX0_hasColumn 10 = .ok (.aload_n 0, 1) := dc_of dtX0_hasColumn_0_0_ok (i := 6) rfl
theorem dX0_hasColumn_11 : decode cX0_hasColumn 11 = .ok (.getfield 11, 3) := dc_of dtX0_hasColumn_0_0_ok (i := 7) rfl
theorem dX0_hasColumn_14 : decode cX0_hasColumn 14 = .ok (.iload_n 2, 1) := dc_of dtX0_hasColumn_0_0_ok (i := 8) rfl
theorem dX0_hasColumn_15 : decode cX0_hasColumn 15 = .ok (.iaload, 1) := dc_of dtX0_hasColumn_0_0_ok (i := 9) rfl
theorem dX0_hasColumn_16 : decode cX0_hasColumn 16 = .ok (.iload_n 1, 1) := dc_of dtX0_hasColumn_0_0_ok (i := 10) rfl
theorem dX0_hasColumn_17 : decode cX0_hasColumn 17 = .ok (.if_icmp .ne 5, 3) := dc_of dtX0_hasColumn_0_0_ok (i := 11) rfl
theorem dX0_hasColumn_20 : decode cX0_hasColumn 20 = .ok (.iconst 1, 1) := dc_of dtX0_hasColumn_0_0_ok (i := 12) rfl
theorem dX0_hasColumn_21 : decode cX0_hasColumn 21 = .ok (.ireturn, 1) := dc_of dtX0_hasColumn_0_0_ok (i := 13) rfl
theorem dX0_hasColumn_22 : decode cX0_hasColumn 22 = .ok (.iinc 2 1, 3) := dc_of dtX0_hasColumn_0_0_ok (i := 14) rfl
theorem dX0_hasColumn_25 : decode cX0_hasColumn 25 = .ok (.goto (-23), 3) := dc_of dtX0_hasColumn_0_0_ok (i := 15) rfl
theorem dX0_hasColumn_28 : decode cX0_hasColumn 28 = .ok (.iconst 0, 1) := dc_of dtX0_hasColumn_0_0_ok (i := 16) rfl
theorem dX0_hasColumn_29 : decode cX0_hasColumn 29 = .ok (.ireturn, 1) := dc_of dtX0_hasColumn_0_0_ok (i := 17) rfl
set_option maxRecDepth 20000 in
theorem gw_wsX5_init : wsX5_init.all goodWord = true := by decide +kernel
set_option maxRecDepth 20000 in
theorem ggX1_init_X5_init : GoodIn wsX1_init wsX5_init := goodIn_r _ [15, 16, 2, 3, 17, 18, 19, 20, 21, 22, 35, 36, 37, 38, 39] rfl gw_wsX5_init
set_option maxRecDepth 20000 in
theorem gX1_init_X5_init_n11 : GoodIn wsX1_init (wsX5_init) := ggX1_init_X5_init
set_option maxRecDepth 20000 in
theorem gw_wsX2_init : wsX2_init.all goodWord = true := by decide +kernel
set_option maxRecDepth 20000 in
theorem ggX1_init_X2_init : GoodIn wsX1_init wsX2_init := goodIn_r _ [25, 26, 2, 3, 27, 28, 29, 30, 31, 32, 33, 17, 34, 44, 45, 46, 47, 48, 49, 50, 51, 52, 53, 54, 55, 56, 57, 58, 59, 60, 61] rfl gw_wsX2_init
set_option maxRecDepth 20000 in
theorem gX1_init_X2_init : GoodIn wsX1_init (wsX2_init) := ggX1_init_X2_init
def dtX1_init_0_0 : List (Nat × Instr × Nat) := [(0, .aload_n 0, 1), (1, .invokespecial 3, 3), (4, .aload_n 0, 1), (5, .new 9, 3), (8, .dup, 1), (9, .invokespecial 11, 3), (12, .putfield 12, 3), (15, .aload_n 0, 1), (16, .new 18, 3), (19, .dup, 1), (20, .invokespecial 20, 3), (23, .putfield 21, 3), (26, .aload_n 0, 1), (27, .aload_n 0, 1), (28, .getfield 21, 3), (31, .getfield 25, 3), (34, .iconst 0, 1), (35, .aaload, 1), (36, .putfield 29, 3), (39, .return_, 1)]
theorem dtX1_init_0_0_ok : dcAll cX1_init dtX1_init_0_0 = true := by decide +kernel
theorem dX1_init_0 : decode cX1_init 0 = .ok (.aload_n 0, 1) := dc_of dtX1_init_0_0_ok (i := 0) rfl
theorem dX1_init_1 : decode cX1_init 1 = .ok (.invokespecial 3, 3) := dc_of dtX1_init_0_0_ok (i := 1) rfl
theorem dX1_init_4 : decode cX1_init 4 = .ok (.aload_n 0, 1) := dc_of dtX1_init_0_0_ok (i := 2) rfl
theorem dX1_init_5 : decode cX1_init 5 = .ok (.new 9, 3) := dc_of dtX1_init_0_0_ok (i := 3) rfl
theorem dX1_init_8 : decode cX1_init 8 = .ok (.dup, 1) := dc_of dtX1_init_0_0_ok (i := 4) rfl
theorem dX1_init_9 : decode cX1_init 9 = .ok (.invokespecial 11, 3) := dc_of dtX1_init_0_0_ok (i := 5) rfl
theorem dX1_init_12 : decode cX1_init 12 = .ok (.putfield 12, 3) := dc_of dtX1_init_0_0_ok (i := 6) rfl
theorem dX1_init_15 : decode cX1_init 15 = .ok (.aload_n 0, 1) := dc_of dtX1_init_0_0_ok (i := 7) rfl
theorem dX1_init_16 : decode cX1_init 16 = .ok (.new 18, 3) := dc_of dtX1_init_0_0_ok (i := 8) rfl
theorem dX1_init_19 : decode cX1_init 19 = .ok (.dup, 1) := dc_of dtX1_init_0_0_ok (i := 9) rfl
theorem dX1_init_20 : decode cX1_init 20 = .ok (.invokespecial 20, 3) := dc_of dtX1_init_0_0_ok (i := 10) rfl
theorem dX1_init_23 : decode cX1_init 23 = .ok (.putfield 21, 3) := dc_of dtX1_init_0_0_ok (i := 11) rfl
theorem dX1_init_26 : decode cX1_init 26 = .ok (.aload_n 0, 1) := dc_of dtX1_init_0_0_ok (i := 12) rfl
theorem dX1_init_27 : decode cX1_init 27 = .ok (.aload_n 0, 1) := dc_of dtX1_init_0_0_ok (i := 13) rfl
theorem dX1_init_28 : decode cX1_init 28 = .ok (.getfield 21, 3) := dc_of dtX1_init_0_0_ok (i := 14) rfl
theorem dX1_init_31 : decode cX1_init 31 = .ok (.getfield 25, 3) := dc_of dtX1_init_0_0_ok (i := 15) rfl
theorem dX1_init_34 : decode cX1_init 34 = .ok (.iconst 0, 1) := dc_of dtX1_init_0_0_ok (i := 16) rfl
theorem dX1_init_35 : decode cX1_init 35 = .ok (.aaload, 1) := dc_of dtX1_init_0_0_ok (i := 17) rfl
theorem dX1_init_36 : decode cX1_init 36 = .ok (.putfield 29, 3) := dc_of dtX1_init_0_0_ok (i := 18) rfl
theorem dX1_init_39 : decode cX1_init 39 = .ok (.return_, 1) := dc_of dtX1_init_0_0_ok (i := 19) rfl
def dtX1_exchangePlan_0_0 : List (Nat × Instr × Nat) := [(0, .aload_n 0, 1), (1, .getfield 21, 3), (4, .astore_n 2, 1), (5, .aload_n 0, 1), (6, .aload_n 1, 1), (7, .putfield 21, 3), (10, .aload_n 2, 1), (11, .areturn, 1)]
theorem dtX1_exchangePlan_0_0_ok : dcAll cX1_exchangePlan dtX1_exchangePlan_0_0 = true := by decide +kernel
theorem dX1_exchangePlan_0 : decode cX1_exchangePlan 0 = .ok (.aload_n 0, 1) := dc_of dtX1_exchangePlan_0_0_ok (i := 0) rfl
theorem dX1_exchangePlan_1 : decode cX1_exchangePlan 1 = .ok (.getfield 21, 3) := dc_of dtX1_exchangePlan_0_0_ok (i := 1) rfl
theorem dX1_exchangePlan_4 : decode cX1_exchangePlan 4 = .ok (.astore_n 2, 1) := dc_of dtX1_exchangePlan_0_0_ok (i := 2) rfl
theorem dX1_exchangePlan_5 : decode cX1_exchangePlan 5 = .ok (.aload_n 0, 1) := dc_of dtX1_exchangePlan_0_0_ok (i := 3) rfl
theorem dX1_exchangePlan_6 : decode cX1_exchangePlan 6 = .ok (.aload_n 1, 1) := dc_of dtX1_exchangePlan_0_0_ok (i := 4) rfl
theorem dX1_exchangePlan_7 : decode cX1_exchangePlan 7 = .ok (.putfield 21, 3) := dc_of dtX1_exchangePlan_0_0_ok (i := 5) rfl
theorem dX1_exchangePlan_10 : decode cX1_exchangePlan 10 = .ok (.aload_n 2, 1) := dc_of dtX1_exchangePlan_0_0_ok (i := 6) rfl
theorem dX1_exchangePlan_11 : decode cX1_exchangePlan 11 = .ok (.areturn, 1) := dc_of dtX1_exchangePlan_0_0_ok (i := 7) rfl
set_option maxRecDepth 20000 in
theorem gw_wsX5_read : wsX5_read.all goodWord = true := by decide +kernel
set_option maxRecDepth 20000 in
theorem ggX1_parse_X5_read : GoodIn wsX1_parse wsX5_read := goodIn_r _ [12, 13, 14, 15, 11, 16, 17, 18, 19, 20, 21, 22, 23, 24, 25, 26, 27, 28, 29, 30, 31, 32, 33, 34, 35, 36, 37, 38, 39, 40, 41, 42, 43, 44, 45, 46, 47, 48, 49, 50, 51, 52, 53, 54, 55, 56, 57, 58, 59, 60, 61, 62, 63, 64, 65, 66, 67, 68, 69, 70, 71, 72, 73, 74, 75, 76, 77, 78, 79, 80, 81, 82, 83, 84, 85, 86, 87, 88, 89, 90, 91, 92, 93, 94, 95, 96, 97, 98, 99, 100, 101, 102, 103, 104, 105, 106, 107, 108, 109, 110, 111, 112, 113, 114, 115, 116, 117, 118, 119, 120, 121, 122, 123, 124, 125, 126, 127, 128, 129, 130, 131, 132, 133, 134, 135, 136, 137, 138, 139, 140, 141, 142, 143, 144, 145, 146, 147, 148, 149, 150, 151, 152, 153, 369, 370, 371, 372, 373] rfl gw_wsX5_read
set_option maxRecDepth 20000 in
theorem gX1_parse_X5_read : GoodIn wsX1_parse (wsV RX1 33 RX5 yX5_read wsX5_read) := goodIn_app (goodIn_of _ (by decide +kernel)) ggX1_parse_X5_read
set_option maxRecDepth 20000 in
theorem gw_wsX1_readHead : wsX1_readHead.all goodWord = true := by decide +kernel
set_option maxRecDepth 20000 in
theorem ggX1_parse_X1_readHead : GoodIn wsX1_parse wsX1_readHead := goodIn_r _ [158, 2, 3, 4, 159, 160, 161, 162, 163, 157, 164, 1, 165, 5, 166, 167, 168, 169, 6, 170, 171, 172, 173, 174, 175, 176, 177, 178, 179, 180, 181, 182, 183, 184, 185, 186, 187, 188, 189, 190, 191, 192, 193, 194, 195, 196, 197, 198, 199, 200, 201, 202, 203, 204, 205, 206, 207, 208, 209, 210, 211, 362, 363, 364, 365, 366, 367, 368, 369, 370, 371, 372, 373, 374, 375, 376, 377, 378, 379, 380, 381, 382, 383, 384, 385, 386, 387, 388] rfl gw_wsX1_readHead
set_option maxRecDepth 20000 in
theorem gX1_parse_X1_readHead : GoodIn wsX1_parse (wsV RX1 51 RX1 yX1_readHead wsX1_readHead) := goodIn_app (goodIn_of _ (by decide +kernel)) ggX1_parse_X1_readHead
set_option maxRecDepth 20000 in
theorem gw_wsX1_readBody : wsX1_readBody.all goodWord = true := by decide +kernel
set_option maxRecDepth 20000 in
theorem ggX1_parse_X1_readBody : GoodIn wsX1_parse wsX1_readBody := goodIn_r _ [215, 160, 207, 216, 217, 218, 157, 219, 220, 221, 222, 223, 224, 225, 2, 1, 193, 5, 226, 159, 227, 228, 229, 230, 161, 162, 163, 164, 165, 166, 167, 168, 169, 6, 195, 196, 197, 198, 199, 200, 201, 202, 170, 171, 172, 173, 174, 231, 232, 233, 234, 235, 236, 237, 238, 239, 240, 241, 242, 243, 244, 245, 246, 247, 248, 249, 250, 178, 251, 186, 252, 253, 254, 255, 256, 257, 258, 259, 260, 261, 262, 263, 264, 265, 266, 267, 268, 269, 270, 271, 272, 273, 274, 275, 276, 277, 278, 279, 280, 281, 282, 283, 284, 285, 286, 287, 288, 208, 209, 210, 211, 289, 290, 291, 292, 184, 185, 293, 294, 295, 296, 297, 298, 299, 300, 301, 302, 303, 304, 305, 306, 307, 308, 309, 310, 311, 312, 313, 314, 315, 316, 317, 318, 319, 320, 321, 322, 323, 324, 325, 326, 327, 328, 329, 330, 331, 332, 333, 334, 335, 336, 337, 338, 362, 363, 364, 365, 374, 375, 376, 377, 378, 379, 380, 381, 382, 383, 384, 385, 386, 387, 388, 369, 370, 371, 372, 373, 366, 367, 368] rfl gw_wsX1_readBody
set_option maxRecDepth 20000 in
theorem gX1_parse_X1_readBody : GoodIn wsX1_parse (wsV RX1 55 RX1 yX1_readBody wsX1_readBody) := goodIn_app (goodIn_of _ (by decide +kernel)) ggX1_parse_X1_readBody
set_option maxRecDepth 20000 in
theorem gw_wsX1_readClose : wsX1_readClose.all goodWord = true := by decide +kernel
set_option maxRecDepth 20000 in
theorem ggX1_parse_X1_readClose : GoodIn wsX1_parse wsX1_readClose := goodIn_r _ [342, 160, 221, 207, 166, 167, 168, 157, 169, 1, 6, 5, 343, 344, 345, 346, 220, 278, 243, 170, 171, 172, 173, 174, 362, 363, 364, 365, 374, 375, 376, 377, 378, 379, 380, 381, 382, 383, 384, 385, 386, 387, 388, 369, 370, 371, 372, 373] rfl gw_wsX1_readClose
set_option maxRecDepth 20000 in
theorem gX1_parse_X1_readClose : GoodIn wsX1_parse (wsV RX1 58 RX1 yX1_readClose wsX1_readClose) := goodIn_app (goodIn_of _ (by decide +kernel)) ggX1_parse_X1_readClose
set_option maxRecDepth 20000 in
theorem gw_wsX2_keepLine : wsX2_keepLine.all goodWord = true := by decide +kernel
set_option maxRecDepth 20000 in
theorem ggX1_parse_X2_keepLine : GoodIn wsX1_parse wsX2_keepLine := goodIn_r _ [350, 201, 200, 351, 352, 353, 354, 355, 356, 357, 198, 358, 359, 360, 361, 106, 107, 108, 366, 367, 368, 374, 375, 376, 377, 378, 379, 380, 381, 382, 383, 384, 385, 386, 387, 388] rfl gw_wsX2_keepLine
set_option maxRecDepth 20000 in
theorem gX1_parse_X2_keepLine : GoodIn wsX1_parse (wsV RX1 64 RX2 yX2_keepLine wsX2_keepLine) := goodIn_app (goodIn_of _ (by decide +kernel)) ggX1_parse_X2_keepLine
def dtX1_parse_0_0 : List (Nat × Instr × Nat) := [(0, .aload_n 0, 1), (1, .getfield 12, 3), (4, .aload_n 1, 1), (5, .iload_n 2, 1), (6, .invokevirtual 33, 3), (9, .aload_n 0, 1), (10, .getfield 21, 3), (13, .iconst 0, 1), (14, .putfield 37, 3), (17, .aload_n 0, 1), (18, .getfield 21, 3), (21, .iconst 0, 1), (22, .putfield 41, 3), (25, .aload_n 0, 1), (26, .iconst 0, 1), (27, .putfield 44, 3), (30, .iconst 0, 1), (31, .istore_n 3, 1), (32, .iload_n 3, 1), (33, .bipush 16, 2), (35, .if_icmp .gt 83, 3), (38, .aload_n 0, 1), (39, .getfield 12, 3), (42, .getfield 47, 3), (45, .aload_n 0, 1), (46, .getfield 44, 3), (49, .iaload, 1), (50, .ifCond .eq 68, 3), (53, .aload_n 0, 1), (54, .invokevirtual 51, 3), (57, .istore 4, 2), (59, .iload 4, 2)]
theorem dtX1_parse_0_0_ok : dcAll cX1_parse dtX1_parse_0_0 = true := by decide +kernel
theorem dX1_parse_0 : decode cX1_parse 0 = .ok (.aload_n 0, 1) := dc_of dtX1_parse_0_0_ok (i := 0) rfl
theorem dX1_parse_1 : decode cX1_parse 1 = .ok (.getfield 12, 3) := dc_of dtX1_parse_0_0_ok (i := 1) rfl
theorem dX1_parse_4 : decode cX1_parse 4 = .ok (.aload_n 1, 1) := dc_of dtX1_parse_0_0_ok (i := 2) rfl
theorem dX1_parse_5 : decode cX1_parse 5 = .ok (.iload_n 2, 1) := dc_of dtX1_parse_0_0_ok (i := 3) rfl
theorem dX1_parse_6 : decode cX1_parse 6 = .ok (.invokevirtual 33, 3) := dc_of dtX1_parse_0_0_ok (i := 4) rfl
theorem dX1_parse_9 : decode cX1_parse 9 = .ok (.aload_n 0, 1) := dc_of dtX1_parse_0_0_ok (i := 5) rfl
theorem dX1_parse_10 : decode cX1_parse 10 = .ok (.getfield 21, 3) := dc_of dtX1_parse_0_0_ok (i := 6) rfl
theorem dX1_parse_13 : decode cX1_parse 13 = .ok (.iconst 0, 1) := dc_of dtX1_parse_0_0_ok (i := 7) rfl
theorem dX1_parse_14 : decode cX1_parse 14 = .ok (.putfield 37, 3) := dc_of dtX1_parse_0_0_ok (i := 8) rfl
theorem dX1_parse_17 : decode cX1_parse 17 = .ok (.aload_n 0, 1) := dc_of dtX1_parse_0_0_ok (i := 9) rfl
theorem dX1_parse_18 : decode cX1_parse 18 = .ok (.getfield 21, 3) := dc_of dtX1_parse_0_0_ok (i := 10) rfl
theorem dX1_parse_21 : decode cX1_parse 21 = .ok (.iconst 0, 1) := dc_of dtX1_parse_0_0_ok (i := 11) rfl
theorem dX1_parse_22 : decode cX1_parse 22 = .ok (.putfield 41, 3) := dc_of dtX1_parse_0_0_ok (i := 12) rfl
theorem dX1_parse_25 : decode cX1_parse 25 = .ok (.aload_n 0, 1) := dc_of dtX1_parse_0_0_ok (i := 13) rfl
theorem dX1_parse_26 : decode cX1_parse 26 = .ok (.iconst 0, 1) := dc_of dtX1_parse_0_0_ok (i := 14) rfl
theorem dX1_parse_27 : decode cX1_parse 27 = .ok (.putfield 44, 3) := dc_of dtX1_parse_0_0_ok (i := 15) rfl
theorem dX1_parse_30 : decode cX1_parse 30 = .ok (.iconst 0, 1) := dc_of dtX1_parse_0_0_ok (i := 16) rfl
theorem dX1_parse_31 : decode cX1_parse 31 = .ok (.istore_n 3, 1) := dc_of dtX1_parse_0_0_ok (i := 17) rfl
theorem dX1_parse_32 : decode cX1_parse 32 = .ok (.iload_n 3, 1) := dc_of dtX1_parse_0_0_ok (i := 18) rfl
theorem dX1_parse_33 : decode cX1_parse 33 = .ok (.bipush 16, 2) := dc_of dtX1_parse_0_0_ok (i := 19) rfl
theorem dX1_parse_35 : decode cX1_parse 35 = .ok (.if_icmp .gt 83, 3) := dc_of dtX1_parse_0_0_ok (i := 20) rfl
theorem dX1_parse_38 : decode cX1_parse 38 = .ok (.aload_n 0, 1) := dc_of dtX1_parse_0_0_ok (i := 21) rfl
theorem dX1_parse_39 : decode cX1_parse 39 = .ok (.getfield 12, 3) := dc_of dtX1_parse_0_0_ok (i := 22) rfl
theorem dX1_parse_42 : decode cX1_parse 42 = .ok (.getfield 47, 3) := dc_of dtX1_parse_0_0_ok (i := 23) rfl
theorem dX1_parse_45 : decode cX1_parse 45 = .ok (.aload_n 0, 1) := dc_of dtX1_parse_0_0_ok (i := 24) rfl
theorem dX1_parse_46 : decode cX1_parse 46 = .ok (.getfield 44, 3) := dc_of dtX1_parse_0_0_ok (i := 25) rfl
theorem dX1_parse_49 : decode cX1_parse 49 = .ok (.iaload, 1) := dc_of dtX1_parse_0_0_ok (i := 26) rfl
theorem dX1_parse_50 : decode cX1_parse 50 = .ok (.ifCond .eq 68, 3) := dc_of dtX1_parse_0_0_ok (i := 27) rfl
theorem dX1_parse_53 : decode cX1_parse 53 = .ok (.aload_n 0, 1) := dc_of dtX1_parse_0_0_ok (i := 28) rfl
theorem dX1_parse_54 : decode cX1_parse 54 = .ok (.invokevirtual 51, 3) := dc_of dtX1_parse_0_0_ok (i := 29) rfl
theorem dX1_parse_57 : decode cX1_parse 57 = .ok (.istore 4, 2) := dc_of dtX1_parse_0_0_ok (i := 30) rfl
theorem dX1_parse_59 : decode cX1_parse 59 = .ok (.iload 4, 2) := dc_of dtX1_parse_0_0_ok (i := 31) rfl
def dtX1_parse_61_1 : List (Nat × Instr × Nat) := [(61, .ifCond .ne 9, 3), (64, .aload_n 0, 1), (65, .invokevirtual 55, 3), (68, .istore 4, 2), (70, .iload 4, 2), (72, .ifCond .ne 9, 3), (75, .aload_n 0, 1), (76, .invokevirtual 58, 3), (79, .istore 4, 2), (81, .iload 4, 2), (83, .ifCond .eq 22, 3), (86, .bipush 8, 2), (88, .aload_n 0, 1), (89, .getfield 12, 3), (92, .getfield 61, 3), (95, .aload_n 0, 1), (96, .getfield 44, 3), (99, .iaload, 1), (100, .imul, 1), (101, .iload 4, 2), (103, .iadd, 1), (104, .ireturn, 1), (105, .aload_n 0, 1), (106, .getfield 21, 3), (109, .invokevirtual 64, 3), (112, .iinc 3 1, 3), (115, .goto (-83), 3), (118, .iconst 0, 1), (119, .ireturn, 1)]
theorem dtX1_parse_61_1_ok : dcAll cX1_parse dtX1_parse_61_1 = true := by decide +kernel
theorem dX1_parse_61 : decode cX1_parse 61 = .ok (.ifCond .ne 9, 3) := dc_of dtX1_parse_61_1_ok (i := 0) rfl
theorem dX1_parse_64 : decode cX1_parse 64 = .ok (.aload_n 0, 1) := dc_of dtX1_parse_61_1_ok (i := 1) rfl
theorem dX1_parse_65 : decode cX1_parse 65 = .ok (.invokevirtual 55, 3) := dc_of dtX1_parse_61_1_ok (i := 2) rfl
theorem dX1_parse_68 : decode cX1_parse 68 = .ok (.istore 4, 2) := dc_of dtX1_parse_61_1_ok (i := 3) rfl
theorem dX1_parse_70 : decode cX1_parse 70 = .ok (.iload 4, 2) := dc_of dtX1_parse_61_1_ok (i := 4) rfl
theorem dX1_parse_72 : decode cX1_parse 72 = .ok (.ifCond .ne 9, 3) := dc_of dtX1_parse_61_1_ok (i := 5) rfl
theorem dX1_parse_75 : decode cX1_parse 75 = .ok (.aload_n 0, 1) := dc_of dtX1_parse_61_1_ok (i := 6) rfl
theorem dX1_parse_76 : decode cX1_parse 76 = .ok (.invokevirtual 58, 3) := dc_of dtX1_parse_61_1_ok (i := 7) rfl
theorem dX1_parse_79 : decode cX1_parse 79 = .ok (.istore 4, 2) := dc_of dtX1_parse_61_1_ok (i := 8) rfl
theorem dX1_parse_81 : decode cX1_parse 81 = .ok (.iload 4, 2) := dc_of dtX1_parse_61_1_ok (i := 9) rfl
theorem dX1_parse_83 : decode cX1_parse 83 = .ok (.ifCond .eq 22, 3) := dc_of dtX1_parse_61_1_ok (i := 10) rfl
theorem dX1_parse_86 : decode cX1_parse 86 = .ok (.bipush 8, 2) := dc_of dtX1_parse_61_1_ok (i := 11) rfl
theorem dX1_parse_88 : decode cX1_parse 88 = .ok (.aload_n 0, 1) := dc_of dtX1_parse_61_1_ok (i := 12) rfl
theorem dX1_parse_89 : decode cX1_parse 89 = .ok (.getfield 12, 3) := dc_of dtX1_parse_61_1_ok (i := 13) rfl
theorem dX1_parse_92 : decode cX1_parse 92 = .ok (.getfield 61, 3) := dc_of dtX1_parse_61_1_ok (i := 14) rfl
theorem dX1_parse_95 : decode cX1_parse 95 = .ok (.aload_n 0, 1) := dc_of dtX1_parse_61_1_ok (i := 15) rfl
theorem dX1_parse_96 : decode cX1_parse 96 = .ok (.getfield 44, 3) := dc_of dtX1_parse_61_1_ok (i := 16) rfl
theorem dX1_parse_99 : decode cX1_parse 99 = .ok (.iaload, 1) := dc_of dtX1_parse_61_1_ok (i := 17) rfl
theorem dX1_parse_100 : decode cX1_parse 100 = .ok (.imul, 1) := dc_of dtX1_parse_61_1_ok (i := 18) rfl
theorem dX1_parse_101 : decode cX1_parse 101 = .ok (.iload 4, 2) := dc_of dtX1_parse_61_1_ok (i := 19) rfl
theorem dX1_parse_103 : decode cX1_parse 103 = .ok (.iadd, 1) := dc_of dtX1_parse_61_1_ok (i := 20) rfl
theorem dX1_parse_104 : decode cX1_parse 104 = .ok (.ireturn, 1) := dc_of dtX1_parse_61_1_ok (i := 21) rfl
theorem dX1_parse_105 : decode cX1_parse 105 = .ok (.aload_n 0, 1) := dc_of dtX1_parse_61_1_ok (i := 22) rfl
theorem dX1_parse_106 : decode cX1_parse 106 = .ok (.getfield 21, 3) := dc_of dtX1_parse_61_1_ok (i := 23) rfl
theorem dX1_parse_109 : decode cX1_parse 109 = .ok (.invokevirtual 64, 3) := dc_of dtX1_parse_61_1_ok (i := 24) rfl
theorem dX1_parse_112 : decode cX1_parse 112 = .ok (.iinc 3 1, 3) := dc_of dtX1_parse_61_1_ok (i := 25) rfl
theorem dX1_parse_115 : decode cX1_parse 115 = .ok (.goto (-83), 3) := dc_of dtX1_parse_61_1_ok (i := 26) rfl
theorem dX1_parse_118 : decode cX1_parse 118 = .ok (.iconst 0, 1) := dc_of dtX1_parse_61_1_ok (i := 27) rfl
theorem dX1_parse_119 : decode cX1_parse 119 = .ok (.ireturn, 1) := dc_of dtX1_parse_61_1_ok (i := 28) rfl
def dtX1_isKind_0_0 : List (Nat × Instr × Nat) := [(0, .aload_n 0, 1), (1, .getfield 12, 3), (4, .getfield 47, 3), (7, .aload_n 0, 1), (8, .getfield 44, 3), (11, .iaload, 1), (12, .iload_n 1, 1), (13, .if_icmp .ne 7, 3), (16, .iconst 1, 1), (17, .goto 4, 3), (20, .iconst 0, 1), (21, .ireturn, 1)]
theorem dtX1_isKind_0_0_ok : dcAll cX1_isKind dtX1_isKind_0_0 = true := by decide +kernel
theorem dX1_isKind_0 : decode cX1_isKind 0 = .ok (.aload_n 0, 1) := dc_of dtX1_isKind_0_0_ok (i := 0) rfl
theorem dX1_isKind_1 : decode cX1_isKind 1 = .ok (.getfield 12, 3) := dc_of dtX1_isKind_0_0_ok (i := 1) rfl
theorem dX1_isKind_4 : decode cX1_isKind 4 = .ok (.getfield 47, 3) := dc_of dtX1_isKind_0_0_ok (i := 2) rfl
theorem dX1_isKind_7 : decode cX1_isKind 7 = .ok (.aload_n 0, 1) := dc_of dtX1_isKind_0_0_ok (i := 3) rfl
theorem dX1_isKind_8 : decode cX1_isKind 8 = .ok (.getfield 44, 3) := dc_of dtX1_isKind_0_0_ok (i := 4) rfl
theorem dX1_isKind_11 : decode cX1_isKind 11 = .ok (.iaload, 1) := dc_of dtX1_isKind_0_0_ok (i := 5) rfl
theorem dX1_isKind_12 : decode cX1_isKind 12 = .ok (.iload_n 1, 1) := dc_of dtX1_isKind_0_0_ok (i := 6) rfl
theorem dX1_isKind_13 : decode cX1_isKind 13 = .ok (.if_icmp .ne 7, 3) := dc_of dtX1_isKind_0_0_ok (i := 7) rfl
theorem dX1_isKind_16 : decode cX1_isKind 16 = .ok (.iconst 1, 1) := dc_of dtX1_isKind_0_0_ok (i := 8) rfl
theorem dX1_isKind_17 : decode cX1_isKind 17 = .ok (.goto 4, 3) := dc_of dtX1_isKind_0_0_ok (i := 9) rfl
theorem dX1_isKind_20 : decode cX1_isKind 20 = .ok (.iconst 0, 1) := dc_of dtX1_isKind_0_0_ok (i := 10) rfl
theorem dX1_isKind_21 : decode cX1_isKind 21 = .ok (.ireturn, 1) := dc_of dtX1_isKind_0_0_ok (i := 11) rfl
set_option maxRecDepth 20000 in
theorem gw_wsX1_isKind : wsX1_isKind.all goodWord = true := by decide +kernel
set_option maxRecDepth 20000 in
theorem ggX1_isWord_X1_isKind : GoodIn wsX1_isWord wsX1_isKind := goodIn_r _ [8, 1, 9, 3, 10, 11, 12, 13, 14, 15, 16, 17, 18] rfl gw_wsX1_isKind
set_option maxRecDepth 20000 in
theorem gX1_isWord_X1_isKind : GoodIn wsX1_isWord (wsV RX1 67 RX1 yX1_isKind wsX1_isKind) := goodIn_app (goodIn_of _ (by decide +kernel)) ggX1_isWord_X1_isKind
def dtX1_isWord_0_0 : List (Nat × Instr × Nat) := [(0, .aload_n 0, 1), (1, .iconst 3, 1), (2, .invokevirtual 67, 3), (5, .ifCond .eq 23, 3), (8, .aload_n 0, 1), (9, .getfield 12, 3), (12, .getfield 71, 3), (15, .aload_n 0, 1), (16, .getfield 44, 3), (19, .iaload, 1), (20, .iload_n 1, 1), (21, .if_icmp .ne 7, 3), (24, .iconst 1, 1), (25, .goto 4, 3), (28, .iconst 0, 1), (29, .ireturn, 1)]
theorem dtX1_isWord_0_0_ok : dcAll cX1_isWord dtX1_isWord_0_0 = true := by decide +kernel
theorem dX1_isWord_0 : decode cX1_isWord 0 = .ok (.aload_n 0, 1) := dc_of dtX1_isWord_0_0_ok (i := 0) rfl
theorem dX1_isWord_1 : decode cX1_isWord 1 = .ok (.iconst 3, 1) := dc_of dtX1_isWord_0_0_ok (i := 1) rfl
theorem dX1_isWord_2 : decode cX1_isWord 2 = .ok (.invokevirtual 67, 3) := dc_of dtX1_isWord_0_0_ok (i := 2) rfl
theorem dX1_isWord_5 : decode cX1_isWord 5 = .ok (.ifCond .eq 23, 3) := dc_of dtX1_isWord_0_0_ok (i := 3) rfl
theorem dX1_isWord_8 : decode cX1_isWord 8 = .ok (.aload_n 0, 1) := dc_of dtX1_isWord_0_0_ok (i := 4) rfl
theorem dX1_isWord_9 : decode cX1_isWord 9 = .ok (.getfield 12, 3) := dc_of dtX1_isWord_0_0_ok (i := 5) rfl
theorem dX1_isWord_12 : decode cX1_isWord 12 = .ok (.getfield 71, 3) := dc_of dtX1_isWord_0_0_ok (i := 6) rfl
theorem dX1_isWord_15 : decode cX1_isWord 15 = .ok (.aload_n 0, 1) := dc_of dtX1_isWord_0_0_ok (i := 7) rfl
theorem dX1_isWord_16 : decode cX1_isWord 16 = .ok (.getfield 44, 3) := dc_of dtX1_isWord_0_0_ok (i := 8) rfl
theorem dX1_isWord_19 : decode cX1_isWord 19 = .ok (.iaload, 1) := dc_of dtX1_isWord_0_0_ok (i := 9) rfl
theorem dX1_isWord_20 : decode cX1_isWord 20 = .ok (.iload_n 1, 1) := dc_of dtX1_isWord_0_0_ok (i := 10) rfl
theorem dX1_isWord_21 : decode cX1_isWord 21 = .ok (.if_icmp .ne 7, 3) := dc_of dtX1_isWord_0_0_ok (i := 11) rfl
theorem dX1_isWord_24 : decode cX1_isWord 24 = .ok (.iconst 1, 1) := dc_of dtX1_isWord_0_0_ok (i := 12) rfl
theorem dX1_isWord_25 : decode cX1_isWord 25 = .ok (.goto 4, 3) := dc_of dtX1_isWord_0_0_ok (i := 13) rfl
theorem dX1_isWord_28 : decode cX1_isWord 28 = .ok (.iconst 0, 1) := dc_of dtX1_isWord_0_0_ok (i := 14) rfl
theorem dX1_isWord_29 : decode cX1_isWord 29 = .ok (.ireturn, 1) := dc_of dtX1_isWord_0_0_ok (i := 15) rfl
def dtX1_step_0_0 : List (Nat × Instr × Nat) := [(0, .aload_n 0, 1), (1, .getfield 44, 3), (4, .aload_n 0, 1), (5, .getfield 12, 3), (8, .getfield 74, 3), (11, .iconst 1, 1), (12, .isub, 1), (13, .if_icmp .ge 13, 3), (16, .aload_n 0, 1), (17, .dup, 1), (18, .getfield 44, 3), (21, .iconst 1, 1), (22, .iadd, 1), (23, .putfield 44, 3), (26, .return_, 1)]
theorem dtX1_step_0_0_ok : dcAll cX1_step dtX1_step_0_0 = true := by decide +kernel
theorem dX1_step_0 : decode cX1_step 0 = .ok (.aload_n 0, 1) := dc_of dtX1_step_0_0_ok (i := 0) rfl
theorem dX1_step_1 : decode cX1_step 1 = .ok (.getfield 44, 3) := dc_of dtX1_step_0_0_ok (i := 1) rfl
theorem dX1_step_4 : decode cX1_step 4 = .ok (.aload_n 0, 1) := dc_of dtX1_step_0_0_ok (i := 2) rfl
theorem dX1_step_5 : decode cX1_step 5 = .ok (.getfield 12, 3) := dc_of dtX1_step_0_0_ok (i := 3) rfl
theorem dX1_step_8 : decode cX1_step 8 = .ok (.getfield 74, 3) := dc_of dtX1_step_0_0_ok (i := 4) rfl
theorem dX1_step_11 : decode cX1_step 11 = .ok (.iconst 1, 1) := dc_of dtX1_step_0_0_ok (i := 5) rfl
theorem dX1_step_12 : decode cX1_step 12 = .ok (.isub, 1) := dc_of dtX1_step_0_0_ok (i := 6) rfl
theorem dX1_step_13 : decode cX1_step 13 = .ok (.if_icmp .ge 13, 3) := dc_of dtX1_step_0_0_ok (i := 7) rfl
theorem dX1_step_16 : decode cX1_step 16 = .ok (.aload_n 0, 1) := dc_of dtX1_step_0_0_ok (i := 8) rfl
theorem dX1_step_17 : decode cX1_step 17 = .ok (.dup, 1) := dc_of dtX1_step_0_0_ok (i := 9) rfl
theorem dX1_step_18 : decode cX1_step 18 = .ok (.getfield 44, 3) := dc_of dtX1_step_0_0_ok (i := 10) rfl
theorem dX1_step_21 : decode cX1_step 21 = .ok (.iconst 1, 1) := dc_of dtX1_step_0_0_ok (i := 11) rfl
theorem dX1_step_22 : decode cX1_step 22 = .ok (.iadd, 1) := dc_of dtX1_step_0_0_ok (i := 12) rfl
theorem dX1_step_23 : decode cX1_step 23 = .ok (.putfield 44, 3) := dc_of dtX1_step_0_0_ok (i := 13) rfl
theorem dX1_step_26 : decode cX1_step 26 = .ok (.return_, 1) := dc_of dtX1_step_0_0_ok (i := 14) rfl
set_option maxRecDepth 20000 in
theorem ggX1_takeKind_X1_isKind : GoodIn wsX1_takeKind wsX1_isKind := goodIn_r _ [5, 6, 7, 8, 14, 15, 16, 17, 18, 19, 20, 21, 22] rfl gw_wsX1_isKind
set_option maxRecDepth 20000 in
theorem gX1_takeKind_X1_isKind : GoodIn wsX1_takeKind (wsV RX1 67 RX1 yX1_isKind wsX1_isKind) := goodIn_app (goodIn_of _ (by decide +kernel)) ggX1_takeKind_X1_isKind
set_option maxRecDepth 20000 in
theorem gw_wsX1_step : wsX1_step.all goodWord = true := by decide +kernel
set_option maxRecDepth 20000 in
theorem ggX1_takeKind_X1_step : GoodIn wsX1_takeKind wsX1_step := goodIn_r _ [12, 8, 6, 13, 14, 15, 16, 17, 18, 19, 20, 21, 22] rfl gw_wsX1_step
set_option maxRecDepth 20000 in
theorem gX1_takeKind_X1_step : GoodIn wsX1_takeKind (wsV RX1 75 RX1 yX1_step wsX1_step) := goodIn_app (goodIn_of _ (by decide +kernel)) ggX1_takeKind_X1_step
def dtX1_takeKind_0_0 : List (Nat × Instr × Nat) := [(0, .aload_n 0, 1), (1, .iload_n 1, 1), (2, .invokevirtual 67, 3), (5, .ifCond .ne 5, 3), (8, .iconst 1, 1), (9, .ireturn, 1), (10, .aload_n 0, 1), (11, .invokevirtual 75, 3), (14, .iconst 0, 1), (15, .ireturn, 1)]
theorem dtX1_takeKind_0_0_ok : dcAll cX1_takeKind dtX1_takeKind_0_0 = true := by decide +kernel
theorem dX1_takeKind_0 : decode cX1_takeKind 0 = .ok (.aload_n 0, 1) := dc_of dtX1_takeKind_0_0_ok (i := 0) rfl
theorem dX1_takeKind_1 : decode cX1_takeKind 1 = .ok (.iload_n 1, 1) := dc_of dtX1_takeKind_0_0_ok (i := 1) rfl
theorem dX1_takeKind_2 : decode cX1_takeKind 2 = .ok (.invokevirtual 67, 3) := dc_of dtX1_takeKind_0_0_ok (i := 2) rfl
theorem dX1_takeKind_5 : decode cX1_takeKind 5 = .ok (.ifCond .ne 5, 3) := dc_of dtX1_takeKind_0_0_ok (i := 3) rfl
theorem dX1_takeKind_8 : decode cX1_takeKind 8 = .ok (.iconst 1, 1) := dc_of dtX1_takeKind_0_0_ok (i := 4) rfl
theorem dX1_takeKind_9 : decode cX1_takeKind 9 = .ok (.ireturn, 1) := dc_of dtX1_takeKind_0_0_ok (i := 5) rfl
theorem dX1_takeKind_10 : decode cX1_takeKind 10 = .ok (.aload_n 0, 1) := dc_of dtX1_takeKind_0_0_ok (i := 6) rfl
theorem dX1_takeKind_11 : decode cX1_takeKind 11 = .ok (.invokevirtual 75, 3) := dc_of dtX1_takeKind_0_0_ok (i := 7) rfl
theorem dX1_takeKind_14 : decode cX1_takeKind 14 = .ok (.iconst 0, 1) := dc_of dtX1_takeKind_0_0_ok (i := 8) rfl
theorem dX1_takeKind_15 : decode cX1_takeKind 15 = .ok (.ireturn, 1) := dc_of dtX1_takeKind_0_0_ok (i := 9) rfl
set_option maxRecDepth 20000 in
theorem gw_wsX1_isWord : wsX1_isWord.all goodWord = true := by decide +kernel
set_option maxRecDepth 20000 in
theorem ggX1_takeWord_X1_isWord : GoodIn wsX1_takeWord wsX1_isWord := goodIn_r _ [5, 6, 7, 8, 9, 10, 11, 4, 12, 13, 19, 20, 21, 22, 23, 24, 25, 26, 27] rfl gw_wsX1_isWord
set_option maxRecDepth 20000 in
theorem gX1_takeWord_X1_isWord : GoodIn wsX1_takeWord (wsV RX1 78 RX1 yX1_isWord wsX1_isWord) := goodIn_app (goodIn_of _ (by decide +kernel)) ggX1_takeWord_X1_isWord
set_option maxRecDepth 20000 in
theorem ggX1_takeWord_X1_step : GoodIn wsX1_takeWord wsX1_step := goodIn_r _ [17, 8, 6, 18, 19, 20, 21, 22, 23, 24, 25, 26, 27] rfl gw_wsX1_step
set_option maxRecDepth 20000 in
theorem gX1_takeWord_X1_step : GoodIn wsX1_takeWord (wsV RX1 75 RX1 yX1_step wsX1_step) := goodIn_app (goodIn_of _ (by decide +kernel)) ggX1_takeWord_X1_step
def dtX1_takeWord_0_0 : List (Nat × Instr × Nat) := [(0, .aload_n 0, 1), (1, .iload_n 1, 1), (2, .invokevirtual 78, 3), (5, .ifCond .ne 5, 3), (8, .iconst 1, 1), (9, .ireturn, 1), (10, .aload_n 0, 1), (11, .invokevirtual 75, 3), (14, .iconst 0, 1), (15, .ireturn, 1)]
theorem dtX1_takeWord_0_0_ok : dcAll cX1_takeWord dtX1_takeWord_0_0 = true := by decide +kernel
theorem dX1_takeWord_0 : decode cX1_takeWord 0 = .ok (.aload_n 0, 1) := dc_of dtX1_takeWord_0_0_ok (i := 0) rfl
theorem dX1_takeWord_1 : decode cX1_takeWord 1 = .ok (.iload_n 1, 1) := dc_of dtX1_takeWord_0_0_ok (i := 1) rfl
theorem dX1_takeWord_2 : decode cX1_takeWord 2 = .ok (.invokevirtual 78, 3) := dc_of dtX1_takeWord_0_0_ok (i := 2) rfl
theorem dX1_takeWord_5 : decode cX1_takeWord 5 = .ok (.ifCond .ne 5, 3) := dc_of dtX1_takeWord_0_0_ok (i := 3) rfl
theorem dX1_takeWord_8 : decode cX1_takeWord 8 = .ok (.iconst 1, 1) := dc_of dtX1_takeWord_0_0_ok (i := 4) rfl
theorem dX1_takeWord_9 : decode cX1_takeWord 9 = .ok (.ireturn, 1) := dc_of dtX1_takeWord_0_0_ok (i := 5) rfl
theorem dX1_takeWord_10 : decode cX1_takeWord 10 = .ok (.aload_n 0, 1) := dc_of dtX1_takeWord_0_0_ok (i := 6) rfl
theorem dX1_takeWord_11 : decode cX1_takeWord 11 = .ok (.invokevirtual 75, 3) := dc_of dtX1_takeWord_0_0_ok (i := 7) rfl
theorem dX1_takeWord_14 : decode cX1_takeWord 14 = .ok (.iconst 0, 1) := dc_of dtX1_takeWord_0_0_ok (i := 8) rfl
theorem dX1_takeWord_15 : decode cX1_takeWord 15 = .ok (.ireturn, 1) := dc_of dtX1_takeWord_0_0_ok (i := 9) rfl
set_option maxRecDepth 20000 in
theorem ggX1_readHead_X1_isWord : GoodIn wsX1_readHead wsX1_isWord := goodIn_r _ [10, 11, 12, 13, 14, 15, 16, 9, 17, 18, 61, 62, 63, 64, 68, 69, 70, 71, 72] rfl gw_wsX1_isWord
set_option maxRecDepth 20000 in
theorem gX1_readHead_X1_isWord : GoodIn wsX1_readHead (wsV RX1 78 RX1 yX1_isWord wsX1_isWord) := goodIn_app (goodIn_of _ (by decide +kernel)) ggX1_readHead_X1_isWord
set_option maxRecDepth 20000 in
theorem ggX1_readHead_X1_step : GoodIn wsX1_readHead wsX1_step := goodIn_r _ [22, 13, 11, 23, 61, 62, 63, 64, 68, 69, 70, 71, 72] rfl gw_wsX1_step
set_option maxRecDepth 20000 in
theorem gX1_readHead_X1_step : GoodIn wsX1_readHead (wsV RX1 75 RX1 yX1_step wsX1_step) := goodIn_app (goodIn_of _ (by decide +kernel)) ggX1_readHead_X1_step
set_option maxRecDepth 20000 in
theorem gw_wsX0_clear : wsX0_clear.all goodWord = true := by decide +kernel
set_option maxRecDepth 20000 in
theorem ggX1_readHead_X0_clear : GoodIn wsX1_readHead wsX0_clear := goodIn_r _ [28, 29, 30, 31, 32, 33, 34, 35, 36, 37, 73, 74, 75, 76, 77, 78, 79, 80, 81, 82, 83, 84, 85, 86, 87] rfl gw_wsX0_clear
set_option maxRecDepth 20000 in
theorem gX1_readHead_X0_clear : GoodIn wsX1_readHead (wsV RX1 81 RX0 yX0_clear wsX0_clear) := goodIn_app (goodIn_of _ (by decide +kernel)) ggX1_readHead_X0_clear
set_option maxRecDepth 20000 in
theorem gw_wsX1_readNewName : wsX1_readNewName.all goodWord = true := by decide +kernel
set_option maxRecDepth 20000 in
theorem ggX1_readHead_X1_readNewName : GoodIn wsX1_readHead wsX1_readNewName := goodIn_r _ [41, 11, 42, 13, 1, 5, 43, 6, 7, 8, 9, 10, 12, 14, 15, 16, 17, 18, 44, 45, 46, 47, 48, 49, 50, 51, 19, 20, 21, 22, 23, 61, 62, 63, 64, 68, 69, 70, 71, 72, 73, 74, 75, 76, 77, 78, 79, 80, 81, 82, 83, 84, 85, 86, 87, 65, 66, 67] rfl gw_wsX1_readNewName
set_option maxRecDepth 20000 in
theorem gX1_readHead_X1_readNewName : GoodIn wsX1_readHead (wsV RX1 87 RX1 yX1_readNewName wsX1_readNewName) := goodIn_app (goodIn_of _ (by decide +kernel)) ggX1_readHead_X1_readNewName
set_option maxRecDepth 20000 in
theorem gw_wsX1_readViewKind : wsX1_readViewKind.all goodWord = true := by decide +kernel
set_option maxRecDepth 20000 in
theorem ggX1_readHead_X1_readViewKind : GoodIn wsX1_readHead wsX1_readViewKind := goodIn_r _ [55, 11, 12, 13, 5, 56, 57, 58, 59, 9, 60, 14, 15, 16, 17, 18, 19, 20, 21, 22, 23, 61, 62, 63, 64, 68, 69, 70, 71, 72, 73, 74, 75, 76, 77, 78, 79, 80, 81, 82, 83, 84, 85, 86, 87] rfl gw_wsX1_readViewKind
set_option maxRecDepth 20000 in
theorem gX1_readHead_X1_readViewKind : GoodIn wsX1_readHead (wsV RX1 90 RX1 yX1_readViewKind wsX1_readViewKind) := goodIn_app (goodIn_of _ (by decide +kernel)) ggX1_readHead_X1_readViewKind
def dtX1_readHead_0_0 : List (Nat × Instr × Nat) := [(0, .aload_n 0, 1), (1, .iconst 0, 1), (2, .invokevirtual 78, 3), (5, .istore_n 1, 1), (6, .iload_n 1, 1), (7, .ifCond .ne 14, 3), (10, .aload_n 0, 1), (11, .bipush 9, 2), (13, .invokevirtual 78, 3), (16, .ifCond .ne 5, 3), (19, .iconst 1, 1), (20, .ireturn, 1), (21, .aload_n 0, 1), (22, .getfield 21, 3), (25, .getfield 37, 3), (28, .bipush 16, 2), (30, .if_icmp .lt 5, 3), (33, .iconst 4, 1), (34, .ireturn, 1), (35, .iload_n 1, 1), (36, .ifCond .eq 23, 3), (39, .aload_n 0, 1), (40, .getfield 21, 3), (43, .getfield 37, 3), (46, .aload_n 0, 1), (47, .getfield 21, 3), (50, .getfield 41, 3), (53, .if_icmp .le 6, 3), (56, .bipush 6, 2), (58, .ireturn, 1), (59, .aload_n 0, 1), (60, .invokevirtual 75, 3)]
theorem dtX1_readHead_0_0_ok : dcAll cX1_readHead dtX1_readHead_0_0 = true := by decide +kernel
theorem dX1_readHead_0 : decode cX1_readHead 0 = .ok (.aload_n 0, 1) := dc_of dtX1_readHead_0_0_ok (i := 0) rfl
theorem dX1_readHead_1 : decode cX1_readHead 1 = .ok (.iconst 0, 1) := dc_of dtX1_readHead_0_0_ok (i := 1) rfl
theorem dX1_readHead_2 : decode cX1_readHead 2 = .ok (.invokevirtual 78, 3) := dc_of dtX1_readHead_0_0_ok (i := 2) rfl
theorem dX1_readHead_5 : decode cX1_readHead 5 = .ok (.istore_n 1, 1) := dc_of dtX1_readHead_0_0_ok (i := 3) rfl
theorem dX1_readHead_6 : decode cX1_readHead 6 = .ok (.iload_n 1, 1) := dc_of dtX1_readHead_0_0_ok (i := 4) rfl
theorem dX1_readHead_7 : decode cX1_readHead 7 = .ok (.ifCond .ne 14, 3) := dc_of dtX1_readHead_0_0_ok (i := 5) rfl
theorem dX1_readHead_10 : decode cX1_readHead 10 = .ok (.aload_n 0, 1) := dc_of dtX1_readHead_0_0_ok (i := 6) rfl
theorem dX1_readHead_11 : decode cX1_readHead 11 = .ok (.bipush 9, 2) := dc_of dtX1_readHead_0_0_ok (i := 7) rfl
theorem dX1_readHead_13 : decode cX1_readHead 13 = .ok (.invokevirtual 78, 3) := dc_of dtX1_readHead_0_0_ok (i := 8) rfl
theorem dX1_readHead_16 : decode cX1_readHead 16 = .ok (.ifCond .ne 5, 3) := dc_of dtX1_readHead_0_0_ok (i := 9) rfl
theorem dX1_readHead_19 : decode cX1_readHead 19 = .ok (.iconst 1, 1) := dc_of dtX1_readHead_0_0_ok (i := 10) rfl
theorem dX1_readHead_20 : decode cX1_readHead 20 = .ok (.ireturn, 1) := dc_of dtX1_readHead_0_0_ok (i := 11) rfl
theorem dX1_readHead_21 : decode cX1_readHead 21 = .ok (.aload_n 0, 1) := dc_of dtX1_readHead_0_0_ok (i := 12) rfl
theorem dX1_readHead_22 : decode cX1_readHead 22 = .ok (.getfield 21, 3) := dc_of dtX1_readHead_0_0_ok (i := 13) rfl
theorem dX1_readHead_25 : decode cX1_readHead 25 = .ok (.getfield 37, 3) := dc_of dtX1_readHead_0_0_ok (i := 14) rfl
theorem dX1_readHead_28 : decode cX1_readHead 28 = .ok (.bipush 16, 2) := dc_of dtX1_readHead_0_0_ok (i := 15) rfl
theorem dX1_readHead_30 : decode cX1_readHead 30 = .ok (.if_icmp .lt 5, 3) := dc_of dtX1_readHead_0_0_ok (i := 16) rfl
theorem dX1_readHead_33 : decode cX1_readHead 33 = .ok (.iconst 4, 1) := dc_of dtX1_readHead_0_0_ok (i := 17) rfl
theorem dX1_readHead_34 : decode cX1_readHead 34 = .ok (.ireturn, 1) := dc_of dtX1_readHead_0_0_ok (i := 18) rfl
theorem dX1_readHead_35 : decode cX1_readHead 35 = .ok (.iload_n 1, 1) := dc_of dtX1_readHead_0_0_ok (i := 19) rfl
theorem dX1_readHead_36 : decode cX1_readHead 36 = .ok (.ifCond .eq 23, 3) := dc_of dtX1_readHead_0_0_ok (i := 20) rfl
theorem dX1_readHead_39 : decode cX1_readHead 39 = .ok (.aload_n 0, 1) := dc_of dtX1_readHead_0_0_ok (i := 21) rfl
theorem dX1_readHead_40 : decode cX1_readHead 40 = .ok (.getfield 21, 3) := dc_of dtX1_readHead_0_0_ok (i := 22) rfl
theorem dX1_readHead_43 : decode cX1_readHead 43 = .ok (.getfield 37, 3) := dc_of dtX1_readHead_0_0_ok (i := 23) rfl
theorem dX1_readHead_46 : decode cX1_readHead 46 = .ok (.aload_n 0, 1) := dc_of dtX1_readHead_0_0_ok (i := 24) rfl
theorem dX1_readHead_47 : decode cX1_readHead 47 = .ok (.getfield 21, 3) := dc_of dtX1_readHead_0_0_ok (i := 25) rfl
theorem dX1_readHead_50 : decode cX1_readHead 50 = .ok (.getfield 41, 3) := dc_of dtX1_readHead_0_0_ok (i := 26) rfl
theorem dX1_readHead_53 : decode cX1_readHead 53 = .ok (.if_icmp .le 6, 3) := dc_of dtX1_readHead_0_0_ok (i := 27) rfl
theorem dX1_readHead_56 : decode cX1_readHead 56 = .ok (.bipush 6, 2) := dc_of dtX1_readHead_0_0_ok (i := 28) rfl
theorem dX1_readHead_58 : decode cX1_readHead 58 = .ok (.ireturn, 1) := dc_of dtX1_readHead_0_0_ok (i := 29) rfl
theorem dX1_readHead_59 : decode cX1_readHead 59 = .ok (.aload_n 0, 1) := dc_of dtX1_readHead_0_0_ok (i := 30) rfl
theorem dX1_readHead_60 : decode cX1_readHead 60 = .ok (.invokevirtual 75, 3) := dc_of dtX1_readHead_0_0_ok (i := 31) rfl
def dtX1_readHead_63_1 : List (Nat × Instr × Nat) := [(63, .aload_n 0, 1), (64, .aload_n 0, 1), (65, .getfield 21, 3), (68, .getfield 25, 3), (71, .aload_n 0, 1), (72, .getfield 21, 3), (75, .getfield 37, 3), (78, .aaload, 1), (79, .putfield 29, 3), (82, .aload_n 0, 1), (83, .getfield 29, 3), (86, .iconst 0, 1), (87, .invokevirtual 81, 3), (90, .aload_n 0, 1), (91, .invokevirtual 87, 3), (94, .istore_n 2, 1), (95, .iload_n 2, 1), (96, .ifCond .ne 12, 3), (99, .iload_n 1, 1), (100, .ifCond .ne 8, 3), (103, .aload_n 0, 1), (104, .invokevirtual 90, 3), (107, .istore_n 2, 1), (108, .iload_n 2, 1), (109, .ireturn, 1)]
theorem dtX1_readHead_63_1_ok : dcAll cX1_readHead dtX1_readHead_63_1 = true := by decide +kernel
theorem dX1_readHead_63 : decode cX1_readHead 63 = .ok (.aload_n 0, 1) := dc_of dtX1_readHead_63_1_ok (i := 0) rfl
theorem dX1_readHead_64 : decode cX1_readHead 64 = .ok (.aload_n 0, 1) := dc_of dtX1_readHead_63_1_ok (i := 1) rfl
theorem dX1_readHead_65 : decode cX1_readHead 65 = .ok (.getfield 21, 3) := dc_of dtX1_readHead_63_1_ok (i := 2) rfl
theorem dX1_readHead_68 : decode cX1_readHead 68 = .ok (.getfield 25, 3) := dc_of dtX1_readHead_63_1_ok (i := 3) rfl
theorem dX1_readHead_71 : decode cX1_readHead 71 = .ok (.aload_n 0, 1) := dc_of dtX1_readHead_63_1_ok (i := 4) rfl
theorem dX1_readHead_72 : decode cX1_readHead 72 = .ok (.getfield 21, 3) := dc_of dtX1_readHead_63_1_ok (i := 5) rfl
theorem dX1_readHead_75 : decode cX1_readHead 75 = .ok (.getfield 37, 3) := dc_of dtX1_readHead_63_1_ok (i := 6) rfl
theorem dX1_readHead_78 : decode cX1_readHead 78 = .ok (.aaload, 1) := dc_of dtX1_readHead_63_1_ok (i := 7) rfl
theorem dX1_readHead_79 : decode cX1_readHead 79 = .ok (.putfield 29, 3) := dc_of dtX1_readHead_63_1_ok (i := 8) rfl
theorem dX1_readHead_82 : decode cX1_readHead 82 = .ok (.aload_n 0, 1) := dc_of dtX1_readHead_63_1_ok (i := 9) rfl
theorem dX1_readHead_83 : decode cX1_readHead 83 = .ok (.getfield 29, 3) := dc_of dtX1_readHead_63_1_ok (i := 10) rfl
theorem dX1_readHead_86 : decode cX1_readHead 86 = .ok (.iconst 0, 1) := dc_of dtX1_readHead_63_1_ok (i := 11) rfl
theorem dX1_readHead_87 : decode cX1_readHead 87 = .ok (.invokevirtual 81, 3) := dc_of dtX1_readHead_63_1_ok (i := 12) rfl
theorem dX1_readHead_90 : decode cX1_readHead 90 = .ok (.aload_n 0, 1) := dc_of dtX1_readHead_63_1_ok (i := 13) rfl
theorem dX1_readHead_91 : decode cX1_readHead 91 = .ok (.invokevirtual 87, 3) := dc_of dtX1_readHead_63_1_ok (i := 14) rfl
theorem dX1_readHead_94 : decode cX1_readHead 94 = .ok (.istore_n 2, 1) := dc_of dtX1_readHead_63_1_ok (i := 15) rfl
theorem dX1_readHead_95 : decode cX1_readHead 95 = .ok (.iload_n 2, 1) := dc_of dtX1_readHead_63_1_ok (i := 16) rfl
theorem dX1_readHead_96 : decode cX1_readHead 96 = .ok (.ifCond .ne 12, 3) := dc_of dtX1_readHead_63_1_ok (i := 17) rfl
theorem dX1_readHead_99 : decode cX1_readHead 99 = .ok (.iload_n 1, 1) := dc_of dtX1_readHead_63_1_ok (i := 18) rfl
theorem dX1_readHead_100 : decode cX1_readHead 100 = .ok (.ifCond .ne 8, 3) := dc_of dtX1_readHead_63_1_ok (i := 19) rfl
theorem dX1_readHead_103 : decode cX1_readHead 103 = .ok (.aload_n 0, 1) := dc_of dtX1_readHead_63_1_ok (i := 20) rfl
theorem dX1_readHead_104 : decode cX1_readHead 104 = .ok (.invokevirtual 90, 3) := dc_of dtX1_readHead_63_1_ok (i := 21) rfl
theorem dX1_readHead_107 : decode cX1_readHead 107 = .ok (.istore_n 2, 1) := dc_of dtX1_readHead_63_1_ok (i := 22) rfl
theorem dX1_readHead_108 : decode cX1_readHead 108 = .ok (.iload_n 2, 1) := dc_of dtX1_readHead_63_1_ok (i := 23) rfl
theorem dX1_readHead_109 : decode cX1_readHead 109 = .ok (.ireturn, 1) := dc_of dtX1_readHead_63_1_ok (i := 24) rfl
set_option maxRecDepth 20000 in
theorem ggX1_readNewName_X1_isWord : GoodIn wsX1_readNewName wsX1_isWord := goodIn_r _ [11, 1, 12, 3, 13, 14, 15, 10, 16, 17, 31, 32, 33, 34, 35, 36, 37, 38, 39] rfl gw_wsX1_isWord
set_option maxRecDepth 20000 in
theorem gX1_readNewName_X1_isWord : GoodIn wsX1_readNewName (wsV RX1 78 RX1 yX1_isWord wsX1_isWord) := goodIn_app (goodIn_of _ (by decide +kernel)) ggX1_readNewName_X1_isWord
set_option maxRecDepth 20000 in
theorem gw_wsX2_relationOf : wsX2_relationOf.all goodWord = true := by decide +kernel
set_option maxRecDepth 20000 in
theorem ggX1_readNewName_X2_relationOf : GoodIn wsX1_readNewName wsX2_relationOf := goodIn_r _ [22, 23, 24, 25, 55, 56, 57, 40, 41, 42, 43, 44, 45, 46, 47, 48, 49, 50, 51, 52, 53, 54] rfl gw_wsX2_relationOf
set_option maxRecDepth 20000 in
theorem gX1_readNewName_X2_relationOf : GoodIn wsX1_readNewName (wsV RX1 97 RX2 yX2_relationOf wsX2_relationOf) := goodIn_app (goodIn_of _ (by decide +kernel)) ggX1_readNewName_X2_relationOf
set_option maxRecDepth 20000 in
theorem ggX1_readNewName_X1_step : GoodIn wsX1_readNewName wsX1_step := goodIn_r _ [29, 3, 1, 30, 31, 32, 33, 34, 35, 36, 37, 38, 39] rfl gw_wsX1_step
set_option maxRecDepth 20000 in
theorem gX1_readNewName_X1_step : GoodIn wsX1_readNewName (wsV RX1 75 RX1 yX1_step wsX1_step) := goodIn_app (goodIn_of _ (by decide +kernel)) ggX1_readNewName_X1_step
def dtX1_readNewName_0_0 : List (Nat × Instr × Nat) := [(0, .aload_n 0, 1), (1, .iconst (-1), 1), (2, .invokevirtual 78, 3), (5, .ifCond .ne 5, 3), (8, .iconst 1, 1), (9, .ireturn, 1), (10, .aload_n 0, 1), (11, .getfield 12, 3), (14, .getfield 93, 3), (17, .aload_n 0, 1), (18, .getfield 44, 3), (21, .laload, 1), (22, .lstore_n 1, 1), (23, .aload_n 0, 1), (24, .getfield 21, 3), (27, .lload_n 1, 1), (28, .invokevirtual 97, 3), (31, .iconst (-1), 1), (32, .if_icmp .eq 5, 3), (35, .iconst 3, 1), (36, .ireturn, 1), (37, .aload_n 0, 1), (38, .getfield 29, 3), (41, .lload_n 1, 1), (42, .putfield 101, 3), (45, .aload_n 0, 1), (46, .invokevirtual 75, 3), (49, .iconst 0, 1), (50, .ireturn, 1)]
theorem dtX1_readNewName_0_0_ok : dcAll cX1_readNewName dtX1_readNewName_0_0 = true := by decide +kernel
theorem dX1_readNewName_0 : decode cX1_readNewName 0 = .ok (.aload_n 0, 1) := dc_of dtX1_readNewName_0_0_ok (i := 0) rfl
theorem dX1_readNewName_1 : decode cX1_readNewName 1 = .ok (.iconst (-1), 1) := dc_of dtX1_readNewName_0_0_ok (i := 1) rfl
theorem dX1_readNewName_2 : decode cX1_readNewName 2 = .ok (.invokevirtual 78, 3) := dc_of dtX1_readNewName_0_0_ok (i := 2) rfl
theorem dX1_readNewName_5 : decode cX1_readNewName 5 = .ok (.ifCond .ne 5, 3) := dc_of dtX1_readNewName_0_0_ok (i := 3) rfl
theorem dX1_readNewName_8 : decode cX1_readNewName 8 = .ok (.iconst 1, 1) := dc_of dtX1_readNewName_0_0_ok (i := 4) rfl
theorem dX1_readNewName_9 : decode cX1_readNewName 9 = .ok (.ireturn, 1) := dc_of dtX1_readNewName_0_0_ok (i := 5) rfl
theorem dX1_readNewName_10 : decode cX1_readNewName 10 = .ok (.aload_n 0, 1) := dc_of dtX1_readNewName_0_0_ok (i := 6) rfl
theorem dX1_readNewName_11 : decode cX1_readNewName 11 = .ok (.getfield 12, 3) := dc_of dtX1_readNewName_0_0_ok (i := 7) rfl
theorem dX1_readNewName_14 : decode cX1_readNewName 14 = .ok (.getfield 93, 3) := dc_of dtX1_readNewName_0_0_ok (i := 8) rfl
theorem dX1_readNewName_17 : decode cX1_readNewName 17 = .ok (.aload_n 0, 1) := dc_of dtX1_readNewName_0_0_ok (i := 9) rfl
theorem dX1_readNewName_18 : decode cX1_readNewName 18 = .ok (.getfield 44, 3) := dc_of dtX1_readNewName_0_0_ok (i := 10) rfl
theorem dX1_readNewName_21 : decode cX1_readNewName 21 = .ok (.laload, 1) := dc_of dtX1_readNewName_0_0_ok (i := 11) rfl
theorem dX1_readNewName_22 : decode cX1_readNewName 22 = .ok (.lstore_n 1, 1) := dc_of dtX1_readNewName_0_0_ok (i := 12) rfl
theorem dX1_readNewName_23 : decode cX1_readNewName 23 = .ok (.aload_n 0, 1) := dc_of dtX1_readNewName_0_0_ok (i := 13) rfl
theorem dX1_readNewName_24 : decode cX1_readNewName 24 = .ok (.getfield 21, 3) := dc_of dtX1_readNewName_0_0_ok (i := 14) rfl
theorem dX1_readNewName_27 : decode cX1_readNewName 27 = .ok (.lload_n 1, 1) := dc_of dtX1_readNewName_0_0_ok (i := 15) rfl
theorem dX1_readNewName_28 : decode cX1_readNewName 28 = .ok (.invokevirtual 97, 3) := dc_of dtX1_readNewName_0_0_ok (i := 16) rfl
theorem dX1_readNewName_31 : decode cX1_readNewName 31 = .ok (.iconst (-1), 1) := dc_of dtX1_readNewName_0_0_ok (i := 17) rfl
theorem dX1_readNewName_32 : decode cX1_readNewName 32 = .ok (.if_icmp .eq 5, 3) := dc_of dtX1_readNewName_0_0_ok (i := 18) rfl
theorem dX1_readNewName_35 : decode cX1_readNewName 35 = .ok (.iconst 3, 1) := dc_of dtX1_readNewName_0_0_ok (i := 19) rfl
theorem dX1_readNewName_36 : decode cX1_readNewName 36 = .ok (.ireturn, 1) := dc_of dtX1_readNewName_0_0_ok (i := 20) rfl
theorem dX1_readNewName_37 : decode cX1_readNewName 37 = .ok (.aload_n 0, 1) := dc_of dtX1_readNewName_0_0_ok (i := 21) rfl
theorem dX1_readNewName_38 : decode cX1_readNewName 38 = .ok (.getfield 29, 3) := dc_of dtX1_readNewName_0_0_ok (i := 22) rfl
theorem dX1_readNewName_41 : decode cX1_readNewName 41 = .ok (.lload_n 1, 1) := dc_of dtX1_readNewName_0_0_ok (i := 23) rfl
theorem dX1_readNewName_42 : decode cX1_readNewName 42 = .ok (.putfield 101, 3) := dc_of dtX1_readNewName_0_0_ok (i := 24) rfl
theorem dX1_readNewName_45 : decode cX1_readNewName 45 = .ok (.aload_n 0, 1) := dc_of dtX1_readNewName_0_0_ok (i := 25) rfl
theorem dX1_readNewName_46 : decode cX1_readNewName 46 = .ok (.invokevirtual 75, 3) := dc_of dtX1_readNewName_0_0_ok (i := 26) rfl
theorem dX1_readNewName_49 : decode cX1_readNewName 49 = .ok (.iconst 0, 1) := dc_of dtX1_readNewName_0_0_ok (i := 27) rfl
theorem dX1_readNewName_50 : decode cX1_readNewName 50 = .ok (.ireturn, 1) := dc_of dtX1_readNewName_0_0_ok (i := 28) rfl
set_option maxRecDepth 20000 in
theorem gw_wsX1_takeKind : wsX1_takeKind.all goodWord = true := by decide +kernel
set_option maxRecDepth 20000 in
theorem ggX1_readViewKind_X1_takeKind : GoodIn wsX1_readViewKind wsX1_takeKind := goodIn_r _ [10, 11, 12, 13, 9, 14, 1, 15, 3, 16, 17, 18, 19, 20, 21, 22, 23, 24, 25, 26, 27, 28, 29] rfl gw_wsX1_takeKind
set_option maxRecDepth 20000 in
theorem gX1_readViewKind_X1_takeKind : GoodIn wsX1_readViewKind (wsV RX1 105 RX1 yX1_takeKind wsX1_takeKind) := goodIn_app (goodIn_of _ (by decide +kernel)) ggX1_readViewKind_X1_takeKind
set_option maxRecDepth 20000 in
theorem ggX1_readViewKind_X1_isKind : GoodIn wsX1_readViewKind wsX1_isKind := goodIn_r _ [14, 1, 15, 3, 21, 22, 23, 24, 25, 26, 27, 28, 29] rfl gw_wsX1_isKind
set_option maxRecDepth 20000 in
theorem gX1_readViewKind_X1_isKind : GoodIn wsX1_readViewKind (wsV RX1 67 RX1 yX1_isKind wsX1_isKind) := goodIn_app (goodIn_of _ (by decide +kernel)) ggX1_readViewKind_X1_isKind
set_option maxRecDepth 20000 in
theorem ggX1_readViewKind_X1_step : GoodIn wsX1_readViewKind wsX1_step := goodIn_r _ [19, 3, 1, 20, 21, 22, 23, 24, 25, 26, 27, 28, 29] rfl gw_wsX1_step
set_option maxRecDepth 20000 in
theorem gX1_readViewKind_X1_step : GoodIn wsX1_readViewKind (wsV RX1 75 RX1 yX1_step wsX1_step) := goodIn_app (goodIn_of _ (by decide +kernel)) ggX1_readViewKind_X1_step
def dtX1_readViewKind_0_0 : List (Nat × Instr × Nat) := [(0, .aload_n 0, 1), (1, .bipush 61, 2), (3, .invokevirtual 105, 3), (6, .istore_n 1, 1), (7, .iload_n 1, 1), (8, .ifCond .eq 5, 3), (11, .iload_n 1, 1), (12, .ireturn, 1), (13, .aload_n 0, 1), (14, .getfield 12, 3), (17, .getfield 71, 3), (20, .aload_n 0, 1), (21, .getfield 44, 3), (24, .iaload, 1), (25, .istore_n 2, 1), (26, .aload_n 0, 1), (27, .iconst 3, 1), (28, .invokevirtual 67, 3), (31, .ifCond .eq 14, 3), (34, .iload_n 2, 1), (35, .iconst 1, 1), (36, .if_icmp .lt 9, 3), (39, .iload_n 2, 1), (40, .bipush 8, 2), (42, .if_icmp .le 5, 3), (45, .iconst 1, 1), (46, .ireturn, 1), (47, .aload_n 0, 1), (48, .getfield 29, 3), (51, .iload_n 2, 1), (52, .putfield 109, 3), (55, .aload_n 0, 1)]
theorem dtX1_readViewKind_0_0_ok : dcAll cX1_readViewKind dtX1_readViewKind_0_0 = true := by decide +kernel
theorem dX1_readViewKind_0 : decode cX1_readViewKind 0 = .ok (.aload_n 0, 1) := dc_of dtX1_readViewKind_0_0_ok (i := 0) rfl
theorem dX1_readViewKind_1 : decode cX1_readViewKind 1 = .ok (.bipush 61, 2) := dc_of dtX1_readViewKind_0_0_ok (i := 1) rfl
theorem dX1_readViewKind_3 : decode cX1_readViewKind 3 = .ok (.invokevirtual 105, 3) := dc_of dtX1_readViewKind_0_0_ok (i := 2) rfl
theorem dX1_readViewKind_6 : decode cX1_readViewKind 6 = .ok (.istore_n 1, 1) := dc_of dtX1_readViewKind_0_0_ok (i := 3) rfl
theorem dX1_readViewKind_7 : decode cX1_readViewKind 7 = .ok (.iload_n 1, 1) := dc_of dtX1_readViewKind_0_0_ok (i := 4) rfl
theorem dX1_readViewKind_8 : decode cX1_readViewKind 8 = .ok (.ifCond .eq 5, 3) := dc_of dtX1_readViewKind_0_0_ok (i := 5) rfl
theorem dX1_readViewKind_11 : decode cX1_readViewKind 11 = .ok (.iload_n 1, 1) := dc_of dtX1_readViewKind_0_0_ok (i := 6) rfl
theorem dX1_readViewKind_12 : decode cX1_readViewKind 12 = .ok (.ireturn, 1) := dc_of dtX1_readViewKind_0_0_ok (i := 7) rfl
theorem dX1_readViewKind_13 : decode cX1_readViewKind 13 = .ok (.aload_n 0, 1) := dc_of dtX1_readViewKind_0_0_ok (i := 8) rfl
theorem dX1_readViewKind_14 : decode cX1_readViewKind 14 = .ok (.getfield 12, 3) := dc_of dtX1_readViewKind_0_0_ok (i := 9) rfl
theorem dX1_readViewKind_17 : decode cX1_readViewKind 17 = .ok (.getfield 71, 3) := dc_of dtX1_readViewKind_0_0_ok (i := 10) rfl
theorem dX1_readViewKind_20 : decode cX1_readViewKind 20 = .ok (.aload_n 0, 1) := dc_of dtX1_readViewKind_0_0_ok (i := 11) rfl
theorem dX1_readViewKind_21 : decode cX1_readViewKind 21 = .ok (.getfield 44, 3) := dc_of dtX1_readViewKind_0_0_ok (i := 12) rfl
theorem dX1_readViewKind_24 : decode cX1_readViewKind 24 = .ok (.iaload, 1) := dc_of dtX1_readViewKind_0_0_ok (i := 13) rfl
theorem dX1_readViewKind_25 : decode cX1_readViewKind 25 = .ok (.istore_n 2, 1) := dc_of dtX1_readViewKind_0_0_ok (i := 14) rfl
theorem dX1_readViewKind_26 : decode cX1_readViewKind 26 = .ok (.aload_n 0, 1) := dc_of dtX1_readViewKind_0_0_ok (i := 15) rfl
theorem dX1_readViewKind_27 : decode cX1_readViewKind 27 = .ok (.iconst 3, 1) := dc_of dtX1_readViewKind_0_0_ok (i := 16) rfl
theorem dX1_readViewKind_28 : decode cX1_readViewKind 28 = .ok (.invokevirtual 67, 3) := dc_of dtX1_readViewKind_0_0_ok (i := 17) rfl
theorem dX1_readViewKind_31 : decode cX1_readViewKind 31 = .ok (.ifCond .eq 14, 3) := dc_of dtX1_readViewKind_0_0_ok (i := 18) rfl
theorem dX1_readViewKind_34 : decode cX1_readViewKind 34 = .ok (.iload_n 2, 1) := dc_of dtX1_readViewKind_0_0_ok (i := 19) rfl
theorem dX1_readViewKind_35 : decode cX1_readViewKind 35 = .ok (.iconst 1, 1) := dc_of dtX1_readViewKind_0_0_ok (i := 20) rfl
theorem dX1_readViewKind_36 : decode cX1_readViewKind 36 = .ok (.if_icmp .lt 9, 3) := dc_of dtX1_readViewKind_0_0_ok (i := 21) rfl
theorem dX1_readViewKind_39 : decode cX1_readViewKind 39 = .ok (.iload_n 2, 1) := dc_of dtX1_readViewKind_0_0_ok (i := 22) rfl
theorem dX1_readViewKind_40 : decode cX1_readViewKind 40 = .ok (.bipush 8, 2) := dc_of dtX1_readViewKind_0_0_ok (i := 23) rfl
theorem dX1_readViewKind_42 : decode cX1_readViewKind 42 = .ok (.if_icmp .le 5, 3) := dc_of dtX1_readViewKind_0_0_ok (i := 24) rfl
theorem dX1_readViewKind_45 : decode cX1_readViewKind 45 = .ok (.iconst 1, 1) := dc_of dtX1_readViewKind_0_0_ok (i := 25) rfl
theorem dX1_readViewKind_46 : decode cX1_readViewKind 46 = .ok (.ireturn, 1) := dc_of dtX1_readViewKind_0_0_ok (i := 26) rfl
theorem dX1_readViewKind_47 : decode cX1_readViewKind 47 = .ok (.aload_n 0, 1) := dc_of dtX1_readViewKind_0_0_ok (i := 27) rfl
theorem dX1_readViewKind_48 : decode cX1_readViewKind 48 = .ok (.getfield 29, 3) := dc_of dtX1_readViewKind_0_0_ok (i := 28) rfl
theorem dX1_readViewKind_51 : decode cX1_readViewKind 51 = .ok (.iload_n 2, 1) := dc_of dtX1_readViewKind_0_0_ok (i := 29) rfl
theorem dX1_readViewKind_52 : decode cX1_readViewKind 52 = .ok (.putfield 109, 3) := dc_of dtX1_readViewKind_0_0_ok (i := 30) rfl
theorem dX1_readViewKind_55 : decode cX1_readViewKind 55 = .ok (.aload_n 0, 1) := dc_of dtX1_readViewKind_0_0_ok (i := 31) rfl
def dtX1_readViewKind_56_1 : List (Nat × Instr × Nat) := [(56, .invokevirtual 75, 3), (59, .iconst 0, 1), (60, .ireturn, 1)]
theorem dtX1_readViewKind_56_1_ok : dcAll cX1_readViewKind dtX1_readViewKind_56_1 = true := by decide +kernel
theorem dX1_readViewKind_56 : decode cX1_readViewKind 56 = .ok (.invokevirtual 75, 3) := dc_of dtX1_readViewKind_56_1_ok (i := 0) rfl
theorem dX1_readViewKind_59 : decode cX1_readViewKind 59 = .ok (.iconst 0, 1) := dc_of dtX1_readViewKind_56_1_ok (i := 1) rfl
theorem dX1_readViewKind_60 : decode cX1_readViewKind 60 = .ok (.ireturn, 1) := dc_of dtX1_readViewKind_56_1_ok (i := 2) rfl
set_option maxRecDepth 20000 in
theorem gw_wsX1_readSelect : wsX1_readSelect.all goodWord = true := by decide +kernel
set_option maxRecDepth 20000 in
theorem ggX1_readBody_X1_readSelect : GoodIn wsX1_readBody wsX1_readSelect := goodIn_r _ [7, 1, 8, 9, 10, 11, 12, 6, 13, 14, 15, 16, 17, 18, 19, 20, 21, 22, 23, 24, 25, 26, 27, 28, 29, 30, 31, 32, 33, 34, 35, 36, 37, 38, 39, 40, 41, 42, 43, 44, 45, 46, 47, 48, 49, 50, 51, 52, 53, 54, 55, 56, 57, 58, 59, 60, 61, 62, 63, 64, 65, 66, 67, 68, 69, 70, 163, 164, 165, 166, 167, 168, 169, 170, 171, 172, 173, 174, 175, 176, 177, 178, 179, 180, 181, 182, 183, 184, 185, 186, 187, 188, 189] rfl gw_wsX1_readSelect
set_option maxRecDepth 20000 in
theorem gX1_readBody_X1_readSelect : GoodIn wsX1_readBody (wsV RX1 112 RX1 yX1_readSelect wsX1_readSelect) := goodIn_app (goodIn_of _ (by decide +kernel)) ggX1_readBody_X1_readSelect
set_option maxRecDepth 20000 in
theorem gw_wsX1_readProject : wsX1_readProject.all goodWord = true := by decide +kernel
set_option maxRecDepth 20000 in
theorem ggX1_readBody_X1_readProject : GoodIn wsX1_readBody wsX1_readProject := goodIn_r _ [74, 1, 8, 59, 9, 10, 11, 12, 6, 13, 14, 15, 16, 17, 18, 19, 20, 21, 22, 23, 24, 25, 26, 27, 28, 29, 30, 31, 32, 33, 34, 35, 36, 37, 38, 39, 40, 41, 42, 43, 44, 45, 46, 75, 76, 77, 78, 79, 80, 81, 82, 60, 61, 62, 63, 83, 84, 85, 67, 86, 70, 69, 163, 164, 165, 166, 167, 168, 169, 170, 171, 172, 173, 174, 175, 176, 177, 178, 179, 180, 181, 182, 183, 184, 185, 186, 187, 188, 189] rfl gw_wsX1_readProject
set_option maxRecDepth 20000 in
theorem gX1_readBody_X1_readProject : GoodIn wsX1_readBody (wsV RX1 115 RX1 yX1_readProject wsX1_readProject) := goodIn_app (goodIn_of _ (by decide +kernel)) ggX1_readBody_X1_readProject
set_option maxRecDepth 20000 in
theorem gw_wsX1_readJoin : wsX1_readJoin.all goodWord = true := by decide +kernel
set_option maxRecDepth 20000 in
theorem ggX1_readBody_X1_readJoin : GoodIn wsX1_readBody wsX1_readJoin := goodIn_r _ [90, 1, 9, 10, 11, 12, 6, 13, 14, 15, 16, 17, 18, 19, 8, 20, 21, 22, 23, 24, 25, 26, 27, 28, 29, 30, 31, 32, 33, 34, 35, 36, 37, 38, 39, 40, 41, 42, 43, 44, 45, 46, 91, 92, 93, 94, 95, 96, 47, 48, 49, 50, 97, 98, 99, 100, 101, 102, 103, 104, 105, 106, 59, 60, 61, 62, 63, 107, 108, 109, 110, 83, 84, 85, 67, 86, 70, 69, 111, 112, 113, 114, 115, 116, 117, 118, 119, 120, 163, 164, 165, 166, 167, 168, 169, 170, 171, 172, 173, 174, 175, 176, 177, 178, 179, 180, 181, 182, 183, 184, 185, 186, 187, 188, 189] rfl gw_wsX1_readJoin
set_option maxRecDepth 20000 in
theorem gX1_readBody_X1_readJoin : GoodIn wsX1_readBody (wsV RX1 118 RX1 yX1_readJoin wsX1_readJoin) := goodIn_app (goodIn_of _ (by decide +kernel)) ggX1_readBody_X1_readJoin
set_option maxRecDepth 20000 in
theorem gw_wsX1_readTwoAlike : wsX1_readTwoAlike.all goodWord = true := by decide +kernel
set_option maxRecDepth 20000 in
theorem ggX1_readBody_X1_readTwoAlike : GoodIn wsX1_readBody wsX1_readTwoAlike := goodIn_r _ [124, 14, 15, 16, 17, 19, 9, 1, 8, 10, 11, 12, 6, 13, 18, 20, 21, 22, 23, 24, 25, 26, 27, 28, 29, 30, 31, 32, 33, 34, 35, 36, 37, 38, 39, 40, 41, 42, 43, 44, 45, 46, 91, 92, 93, 94, 95, 96, 163, 164, 165, 166, 182, 183, 184, 185, 186, 187, 188, 189, 167, 168, 169, 170, 171, 172, 173, 174, 175, 176, 177, 178, 179, 180, 181] rfl gw_wsX1_readTwoAlike
set_option maxRecDepth 20000 in
theorem gX1_readBody_X1_readTwoAlike : GoodIn wsX1_readBody (wsV RX1 121 RX1 yX1_readTwoAlike wsX1_readTwoAlike) := goodIn_app (goodIn_of _ (by decide +kernel)) ggX1_readBody_X1_readTwoAlike
set_option maxRecDepth 20000 in
theorem gw_wsX1_readDistinct : wsX1_readDistinct.all goodWord = true := by decide +kernel
set_option maxRecDepth 20000 in
theorem ggX1_readBody_X1_readDistinct : GoodIn wsX1_readBody wsX1_readDistinct := goodIn_r _ [128, 1, 8, 9, 10, 11, 12, 6, 13, 14, 15, 16, 17, 18, 19, 20, 21, 22, 23, 24, 25, 26, 27, 28, 29, 30, 31, 32, 33, 34, 35, 36, 37, 38, 39, 40, 41, 42, 43, 44, 45, 46, 163, 164, 165, 166, 167, 168, 169, 170, 171, 172, 173, 174, 175, 176, 177, 178, 179, 180, 181, 182, 183, 184, 185, 186, 187, 188, 189] rfl gw_wsX1_readDistinct
set_option maxRecDepth 20000 in
theorem gX1_readBody_X1_readDistinct : GoodIn wsX1_readBody (wsV RX1 124 RX1 yX1_readDistinct wsX1_readDistinct) := goodIn_app (goodIn_of _ (by decide +kernel)) ggX1_readBody_X1_readDistinct
set_option maxRecDepth 20000 in
theorem gw_wsX1_readGroup : wsX1_readGroup.all goodWord = true := by decide +kernel
set_option maxRecDepth 20000 in
theorem ggX1_readBody_X1_readGroup : GoodIn wsX1_readBody wsX1_readGroup := goodIn_r _ [132, 1, 59, 9, 10, 11, 12, 6, 13, 14, 15, 16, 17, 18, 19, 8, 20, 21, 22, 23, 24, 25, 26, 27, 28, 29, 30, 31, 32, 33, 34, 35, 36, 37, 38, 39, 40, 41, 42, 43, 44, 45, 46, 47, 48, 49, 50, 133, 134, 135, 136, 137, 138, 139, 140, 60, 61, 62, 63, 141, 142, 143, 67, 144, 69, 70, 145, 146, 147, 148, 149, 150, 151, 152, 153, 154, 163, 164, 165, 166, 167, 168, 169, 170, 171, 172, 173, 174, 175, 176, 177, 178, 179, 180, 181, 182, 183, 184, 185, 186, 187, 188, 189] rfl gw_wsX1_readGroup
set_option maxRecDepth 20000 in
theorem gX1_readBody_X1_readGroup : GoodIn wsX1_readBody (wsV RX1 127 RX1 yX1_readGroup wsX1_readGroup) := goodIn_app (goodIn_of _ (by decide +kernel)) ggX1_readBody_X1_readGroup
set_option maxRecDepth 20000 in
theorem gw_wsX1_readRing : wsX1_readRing.all goodWord = true := by decide +kernel
set_option maxRecDepth 20000 in
theorem ggX1_readBody_X1_readRing : GoodIn wsX1_readBody wsX1_readRing := goodIn_r _ [158, 1, 8, 96, 9, 10, 11, 12, 6, 13, 14, 15, 16, 17, 18, 19, 20, 21, 22, 23, 24, 25, 26, 27, 28, 29, 30, 31, 32, 33, 34, 35, 36, 37, 38, 39, 40, 41, 42, 43, 44, 45, 46, 47, 48, 49, 50, 91, 92, 93, 94, 95, 103, 104, 105, 106, 59, 101, 102, 60, 61, 62, 63, 107, 108, 109, 110, 75, 76, 77, 78, 79, 80, 81, 82, 83, 84, 85, 67, 86, 70, 69, 163, 164, 165, 166, 167, 168, 169, 170, 171, 172, 173, 174, 175, 176, 177, 178, 179, 180, 181, 182, 183, 184, 185, 186, 187, 188, 189] rfl gw_wsX1_readRing
set_option maxRecDepth 20000 in
theorem gX1_readBody_X1_readRing : GoodIn wsX1_readBody (wsV RX1 130 RX1 yX1_readRing wsX1_readRing) := goodIn_app (goodIn_of _ (by decide +kernel)) ggX1_readBody_X1_readRing
set_option maxRecDepth 20000 in
theorem gw_wsX1_readTableColumns : wsX1_readTableColumns.all goodWord = true := by decide +kernel
set_option maxRecDepth 20000 in
theorem ggX1_readBody_X1_readTableColumns : GoodIn wsX1_readBody wsX1_readTableColumns := goodIn_r _ [162, 15, 28, 17, 1, 9, 29, 30, 31, 6, 32, 33, 42, 43, 44, 45, 46, 163, 164, 165, 166, 182, 183, 184, 185, 186, 167, 168, 169, 170, 171, 172, 173, 174, 175, 176, 177, 178, 179, 180, 181] rfl gw_wsX1_readTableColumns
set_option maxRecDepth 20000 in
theorem gX1_readBody_X1_readTableColumns : GoodIn wsX1_readBody (wsV RX1 133 RX1 yX1_readTableColumns wsX1_readTableColumns) := goodIn_app (goodIn_of _ (by decide +kernel)) ggX1_readBody_X1_readTableColumns
def dtX1_readBody_0_0 : List (Nat × Instr × Nat) := [(0, .aload_n 0, 1), (1, .getfield 29, 3), (4, .getfield 109, 3), (7, .tableswitch 80 1 8 #[45, 50, 55, 60, 60, 65, 70, 75], 45), (52, .aload_n 0, 1), (53, .invokevirtual 112, 3), (56, .ireturn, 1), (57, .aload_n 0, 1), (58, .invokevirtual 115, 3), (61, .ireturn, 1), (62, .aload_n 0, 1), (63, .invokevirtual 118, 3), (66, .ireturn, 1), (67, .aload_n 0, 1), (68, .invokevirtual 121, 3), (71, .ireturn, 1), (72, .aload_n 0, 1), (73, .invokevirtual 124, 3), (76, .ireturn, 1), (77, .aload_n 0, 1), (78, .invokevirtual 127, 3), (81, .ireturn, 1), (82, .aload_n 0, 1), (83, .invokevirtual 130, 3), (86, .ireturn, 1), (87, .aload_n 0, 1), (88, .invokevirtual 133, 3), (91, .ireturn, 1)]
theorem dtX1_readBody_0_0_ok : dcAll cX1_readBody dtX1_readBody_0_0 = true := by decide +kernel
theorem dX1_readBody_0 : decode cX1_readBody 0 = .ok (.aload_n 0, 1) := dc_of dtX1_readBody_0_0_ok (i := 0) rfl
theorem dX1_readBody_1 : decode cX1_readBody 1 = .ok (.getfield 29, 3) := dc_of dtX1_readBody_0_0_ok (i := 1) rfl
theorem dX1_readBody_4 : decode cX1_readBody 4 = .ok (.getfield 109, 3) := dc_of dtX1_readBody_0_0_ok (i := 2) rfl
theorem dX1_readBody_7 : decode cX1_readBody 7 = .ok (.tableswitch 80 1 8 #[45, 50, 55, 60, 60, 65, 70, 75], 45) := dc_of dtX1_readBody_0_0_ok (i := 3) rfl
theorem dX1_readBody_52 : decode cX1_readBody 52 = .ok (.aload_n 0, 1) := dc_of dtX1_readBody_0_0_ok (i := 4) rfl
theorem dX1_readBody_53 : decode cX1_readBody 53 = .ok (.invokevirtual 112, 3) := dc_of dtX1_readBody_0_0_ok (i := 5) rfl
theorem dX1_readBody_56 : decode cX1_readBody 56 = .ok (.ireturn, 1) := dc_of dtX1_readBody_0_0_ok (i := 6) rfl
theorem dX1_readBody_57 : decode cX1_readBody 57 = .ok (.aload_n 0, 1) := dc_of dtX1_readBody_0_0_ok (i := 7) rfl
theorem dX1_readBody_58 : decode cX1_readBody 58 = .ok (.invokevirtual 115, 3) := dc_of dtX1_readBody_0_0_ok (i := 8) rfl
theorem dX1_readBody_61 : decode cX1_readBody 61 = .ok (.ireturn, 1) := dc_of dtX1_readBody_0_0_ok (i := 9) rfl
theorem dX1_readBody_62 : decode cX1_readBody 62 = .ok (.aload_n 0, 1) := dc_of dtX1_readBody_0_0_ok (i := 10) rfl
theorem dX1_readBody_63 : decode cX1_readBody 63 = .ok (.invokevirtual 118, 3) := dc_of dtX1_readBody_0_0_ok (i := 11) rfl
theorem dX1_readBody_66 : decode cX1_readBody 66 = .ok (.ireturn, 1) := dc_of dtX1_readBody_0_0_ok (i := 12) rfl
theorem dX1_readBody_67 : decode cX1_readBody 67 = .ok (.aload_n 0, 1) := dc_of dtX1_readBody_0_0_ok (i := 13) rfl
theorem dX1_readBody_68 : decode cX1_readBody 68 = .ok (.invokevirtual 121, 3) := dc_of dtX1_readBody_0_0_ok (i := 14) rfl
theorem dX1_readBody_71 : decode cX1_readBody 71 = .ok (.ireturn, 1) := dc_of dtX1_readBody_0_0_ok (i := 15) rfl
theorem dX1_readBody_72 : decode cX1_readBody 72 = .ok (.aload_n 0, 1) := dc_of dtX1_readBody_0_0_ok (i := 16) rfl
theorem dX1_readBody_73 : decode cX1_readBody 73 = .ok (.invokevirtual 124, 3) := dc_of dtX1_readBody_0_0_ok (i := 17) rfl
theorem dX1_readBody_76 : decode cX1_readBody 76 = .ok (.ireturn, 1) := dc_of dtX1_readBody_0_0_ok (i := 18) rfl
theorem dX1_readBody_77 : decode cX1_readBody 77 = .ok (.aload_n 0, 1) := dc_of dtX1_readBody_0_0_ok (i := 19) rfl
theorem dX1_readBody_78 : decode cX1_readBody 78 = .ok (.invokevirtual 127, 3) := dc_of dtX1_readBody_0_0_ok (i := 20) rfl
theorem dX1_readBody_81 : decode cX1_readBody 81 = .ok (.ireturn, 1) := dc_of dtX1_readBody_0_0_ok (i := 21) rfl
theorem dX1_readBody_82 : decode cX1_readBody 82 = .ok (.aload_n 0, 1) := dc_of dtX1_readBody_0_0_ok (i := 22) rfl
theorem dX1_readBody_83 : decode cX1_readBody 83 = .ok (.invokevirtual 130, 3) := dc_of dtX1_readBody_0_0_ok (i := 23) rfl
theorem dX1_readBody_86 : decode cX1_readBody 86 = .ok (.ireturn, 1) := dc_of dtX1_readBody_0_0_ok (i := 24) rfl
theorem dX1_readBody_87 : decode cX1_readBody 87 = .ok (.aload_n 0, 1) := dc_of dtX1_readBody_0_0_ok (i := 25) rfl
theorem dX1_readBody_88 : decode cX1_readBody 88 = .ok (.invokevirtual 133, 3) := dc_of dtX1_readBody_0_0_ok (i := 26) rfl
theorem dX1_readBody_91 : decode cX1_readBody 91 = .ok (.ireturn, 1) := dc_of dtX1_readBody_0_0_ok (i := 27) rfl
set_option maxRecDepth 20000 in
theorem ggX1_readClose_X1_isKind : GoodIn wsX1_readClose wsX1_isKind := goodIn_r _ [8, 9, 10, 11, 24, 25, 26, 27, 43, 44, 45, 46, 47] rfl gw_wsX1_isKind
set_option maxRecDepth 20000 in
theorem gX1_readClose_X1_isKind : GoodIn wsX1_readClose (wsV RX1 67 RX1 yX1_isKind wsX1_isKind) := goodIn_app (goodIn_of _ (by decide +kernel)) ggX1_readClose_X1_isKind
set_option maxRecDepth 20000 in
theorem gw_wsX1_ringIsUnlike : wsX1_ringIsUnlike.all goodWord = true := by decide +kernel
set_option maxRecDepth 20000 in
theorem ggX1_readClose_X1_ringIsUnlike : GoodIn wsX1_readClose wsX1_ringIsUnlike := goodIn_r _ [15, 1, 16, 17, 18, 24, 25, 26, 27, 28, 29, 30, 31, 32, 33, 34, 35, 36, 37, 38, 39, 40, 41, 42] rfl gw_wsX1_ringIsUnlike
set_option maxRecDepth 20000 in
theorem gX1_readClose_X1_ringIsUnlike : GoodIn wsX1_readClose (wsV RX1 139 RX1 yX1_ringIsUnlike wsX1_ringIsUnlike) := goodIn_app (goodIn_of _ (by decide +kernel)) ggX1_readClose_X1_ringIsUnlike
set_option maxRecDepth 20000 in
theorem ggX1_readClose_X1_step : GoodIn wsX1_readClose wsX1_step := goodIn_r _ [22, 11, 9, 23, 24, 25, 26, 27, 43, 44, 45, 46, 47] rfl gw_wsX1_step
set_option maxRecDepth 20000 in
theorem gX1_readClose_X1_step : GoodIn wsX1_readClose (wsV RX1 75 RX1 yX1_step wsX1_step) := goodIn_app (goodIn_of _ (by decide +kernel)) ggX1_readClose_X1_step
def dtX1_readClose_0_0 : List (Nat × Instr × Nat) := [(0, .aload_n 0, 1), (1, .bipush 59, 2), (3, .invokevirtual 67, 3), (6, .ifCond .ne 5, 3), (9, .iconst 1, 1), (10, .ireturn, 1), (11, .aload_n 0, 1), (12, .getfield 29, 3), (15, .getfield 136, 3), (18, .iconst 4, 1), (19, .if_icmp .le 5, 3), (22, .iconst 5, 1), (23, .ireturn, 1), (24, .aload_n 0, 1), (25, .getfield 29, 3), (28, .getfield 109, 3), (31, .bipush 8, 2), (33, .if_icmp .ne 12, 3), (36, .aload_n 0, 1), (37, .invokevirtual 139, 3), (40, .ifCond .eq 5, 3), (43, .iconst 5, 1), (44, .ireturn, 1), (45, .aload_n 0, 1), (46, .invokevirtual 75, 3), (49, .iconst 0, 1), (50, .ireturn, 1)]
theorem dtX1_readClose_0_0_ok : dcAll cX1_readClose dtX1_readClose_0_0 = true := by decide +kernel
theorem dX1_readClose_0 : decode cX1_readClose 0 = .ok (.aload_n 0, 1) := dc_of dtX1_readClose_0_0_ok (i := 0) rfl
theorem dX1_readClose_1 : decode cX1_readClose 1 = .ok (.bipush 59, 2) := dc_of dtX1_readClose_0_0_ok (i := 1) rfl
theorem dX1_readClose_3 : decode cX1_readClose 3 = .ok (.invokevirtual 67, 3) := dc_of dtX1_readClose_0_0_ok (i := 2) rfl
theorem dX1_readClose_6 : decode cX1_readClose 6 = .ok (.ifCond .ne 5, 3) := dc_of dtX1_readClose_0_0_ok (i := 3) rfl
theorem dX1_readClose_9 : decode cX1_readClose 9 = .ok (.iconst 1, 1) := dc_of dtX1_readClose_0_0_ok (i := 4) rfl
theorem dX1_readClose_10 : decode cX1_readClose 10 = .ok (.ireturn, 1) := dc_of dtX1_readClose_0_0_ok (i := 5) rfl
theorem dX1_readClose_11 : decode cX1_readClose 11 = .ok (.aload_n 0, 1) := dc_of dtX1_readClose_0_0_ok (i := 6) rfl
theorem dX1_readClose_12 : decode cX1_readClose 12 = .ok (.getfield 29, 3) := dc_of dtX1_readClose_0_0_ok (i := 7) rfl
theorem dX1_readClose_15 : decode cX1_readClose 15 = .ok (.getfield 136, 3) := dc_of dtX1_readClose_0_0_ok (i := 8) rfl
theorem dX1_readClose_18 : decode cX1_readClose 18 = .ok (.iconst 4, 1) := dc_of dtX1_readClose_0_0_ok (i := 9) rfl
theorem dX1_readClose_19 : decode cX1_readClose 19 = .ok (.if_icmp .le 5, 3) := dc_of dtX1_readClose_0_0_ok (i := 10) rfl
theorem dX1_readClose_22 : decode cX1_readClose 22 = .ok (.iconst 5, 1) := dc_of dtX1_readClose_0_0_ok (i := 11) rfl
theorem dX1_readClose_23 : decode cX1_readClose 23 = .ok (.ireturn, 1) := dc_of dtX1_readClose_0_0_ok (i := 12) rfl
theorem dX1_readClose_24 : decode cX1_readClose 24 = .ok (.aload_n 0, 1) := dc_of dtX1_readClose_0_0_ok (i := 13) rfl
theorem dX1_readClose_25 : decode cX1_readClose 25 = .ok (.getfield 29, 3) := dc_of dtX1_readClose_0_0_ok (i := 14) rfl
theorem dX1_readClose_28 : decode cX1_readClose 28 = .ok (.getfield 109, 3) := dc_of dtX1_readClose_0_0_ok (i := 15) rfl
theorem dX1_readClose_31 : decode cX1_readClose 31 = .ok (.bipush 8, 2) := dc_of dtX1_readClose_0_0_ok (i := 16) rfl
theorem dX1_readClose_33 : decode cX1_readClose 33 = .ok (.if_icmp .ne 12, 3) := dc_of dtX1_readClose_0_0_ok (i := 17) rfl
theorem dX1_readClose_36 : decode cX1_readClose 36 = .ok (.aload_n 0, 1) := dc_of dtX1_readClose_0_0_ok (i := 18) rfl
theorem dX1_readClose_37 : decode cX1_readClose 37 = .ok (.invokevirtual 139, 3) := dc_of dtX1_readClose_0_0_ok (i := 19) rfl
theorem dX1_readClose_40 : decode cX1_readClose 40 = .ok (.ifCond .eq 5, 3) := dc_of dtX1_readClose_0_0_ok (i := 20) rfl
theorem dX1_readClose_43 : decode cX1_readClose 43 = .ok (.iconst 5, 1) := dc_of dtX1_readClose_0_0_ok (i := 21) rfl
theorem dX1_readClose_44 : decode cX1_readClose 44 = .ok (.ireturn, 1) := dc_of dtX1_readClose_0_0_ok (i := 22) rfl
theorem dX1_readClose_45 : decode cX1_readClose 45 = .ok (.aload_n 0, 1) := dc_of dtX1_readClose_0_0_ok (i := 23) rfl
theorem dX1_readClose_46 : decode cX1_readClose 46 = .ok (.invokevirtual 75, 3) := dc_of dtX1_readClose_0_0_ok (i := 24) rfl
theorem dX1_readClose_49 : decode cX1_readClose 49 = .ok (.iconst 0, 1) := dc_of dtX1_readClose_0_0_ok (i := 25) rfl
theorem dX1_readClose_50 : decode cX1_readClose 50 = .ok (.ireturn, 1) := dc_of dtX1_readClose_0_0_ok (i := 26) rfl
def dtX1_ringIsUnlike_0_0 : List (Nat × Instr × Nat) := [(0, .aload_n 0, 1), (1, .getfield 29, 3), (4, .getfield 143, 3), (7, .aload_n 0, 1), (8, .getfield 29, 3), (11, .getfield 146, 3), (14, .iadd, 1), (15, .iconst 4, 1), (16, .if_icmp .gt 20, 3), (19, .aload_n 0, 1), (20, .getfield 29, 3), (23, .getfield 149, 3), (26, .aload_n 0, 1), (27, .getfield 29, 3), (30, .getfield 143, 3), (33, .if_icmp .eq 7, 3), (36, .iconst 1, 1), (37, .goto 4, 3), (40, .iconst 0, 1), (41, .ireturn, 1)]
theorem dtX1_ringIsUnlike_0_0_ok : dcAll cX1_ringIsUnlike dtX1_ringIsUnlike_0_0 = true := by decide +kernel
theorem dX1_ringIsUnlike_0 : decode cX1_ringIsUnlike 0 = .ok (.aload_n 0, 1) := dc_of dtX1_ringIsUnlike_0_0_ok (i := 0) rfl
theorem dX1_ringIsUnlike_1 : decode cX1_ringIsUnlike 1 = .ok (.getfield 29, 3) := dc_of dtX1_ringIsUnlike_0_0_ok (i := 1) rfl
theorem dX1_ringIsUnlike_4 : decode cX1_ringIsUnlike 4 = .ok (.getfield 143, 3) := dc_of dtX1_ringIsUnlike_0_0_ok (i := 2) rfl
theorem dX1_ringIsUnlike_7 : decode cX1_ringIsUnlike 7 = .ok (.aload_n 0, 1) := dc_of dtX1_ringIsUnlike_0_0_ok (i := 3) rfl
theorem dX1_ringIsUnlike_8 : decode cX1_ringIsUnlike 8 = .ok (.getfield 29, 3) := dc_of dtX1_ringIsUnlike_0_0_ok (i := 4) rfl
theorem dX1_ringIsUnlike_11 : decode cX1_ringIsUnlike 11 = .ok (.getfield 146, 3) := dc_of dtX1_ringIsUnlike_0_0_ok (i := 5) rfl
theorem dX1_ringIsUnlike_14 : decode cX1_ringIsUnlike 14 = .ok (.iadd, 1) := dc_of dtX1_ringIsUnlike_0_0_ok (i := 6) rfl
theorem dX1_ringIsUnlike_15 : decode cX1_ringIsUnlike 15 = .ok (.iconst 4, 1) := dc_of dtX1_ringIsUnlike_0_0_ok (i := 7) rfl
theorem dX1_ringIsUnlike_16 : decode cX1_ringIsUnlike 16 = .ok (.if_icmp .gt 20, 3) := dc_of dtX1_ringIsUnlike_0_0_ok (i := 8) rfl
theorem dX1_ringIsUnlike_19 : decode cX1_ringIsUnlike 19 = .ok (.aload_n 0, 1) := dc_of dtX1_ringIsUnlike_0_0_ok (i := 9) rfl
theorem dX1_ringIsUnlike_20 : decode cX1_ringIsUnlike 20 = .ok (.getfield 29, 3) := dc_of dtX1_ringIsUnlike_0_0_ok (i := 10) rfl
theorem dX1_ringIsUnlike_23 : decode cX1_ringIsUnlike 23 = .ok (.getfield 149, 3) := dc_of dtX1_ringIsUnlike_0_0_ok (i := 11) rfl
theorem dX1_ringIsUnlike_26 : decode cX1_ringIsUnlike 26 = .ok (.aload_n 0, 1) := dc_of dtX1_ringIsUnlike_0_0_ok (i := 12) rfl
theorem dX1_ringIsUnlike_27 : decode cX1_ringIsUnlike 27 = .ok (.getfield 29, 3) := dc_of dtX1_ringIsUnlike_0_0_ok (i := 13) rfl
theorem dX1_ringIsUnlike_30 : decode cX1_ringIsUnlike 30 = .ok (.getfield 143, 3) := dc_of dtX1_ringIsUnlike_0_0_ok (i := 14) rfl
theorem dX1_ringIsUnlike_33 : decode cX1_ringIsUnlike 33 = .ok (.if_icmp .eq 7, 3) := dc_of dtX1_ringIsUnlike_0_0_ok (i := 15) rfl
theorem dX1_ringIsUnlike_36 : decode cX1_ringIsUnlike 36 = .ok (.iconst 1, 1) := dc_of dtX1_ringIsUnlike_0_0_ok (i := 16) rfl
theorem dX1_ringIsUnlike_37 : decode cX1_ringIsUnlike 37 = .ok (.goto 4, 3) := dc_of dtX1_ringIsUnlike_0_0_ok (i := 17) rfl
theorem dX1_ringIsUnlike_40 : decode cX1_ringIsUnlike 40 = .ok (.iconst 0, 1) := dc_of dtX1_ringIsUnlike_0_0_ok (i := 18) rfl
theorem dX1_ringIsUnlike_41 : decode cX1_ringIsUnlike 41 = .ok (.ireturn, 1) := dc_of dtX1_ringIsUnlike_0_0_ok (i := 19) rfl
set_option maxRecDepth 20000 in
theorem ggX1_readTableColumns_X1_isKind : GoodIn wsX1_readTableColumns wsX1_isKind := goodIn_r _ [10, 1, 11, 3, 17, 18, 19, 20, 21, 22, 23, 24, 25] rfl gw_wsX1_isKind
set_option maxRecDepth 20000 in
theorem gX1_readTableColumns_X1_isKind : GoodIn wsX1_readTableColumns (wsV RX1 67 RX1 yX1_isKind wsX1_isKind) := goodIn_app (goodIn_of _ (by decide +kernel)) ggX1_readTableColumns_X1_isKind
set_option maxRecDepth 20000 in
theorem ggX1_readTableColumns_X1_step : GoodIn wsX1_readTableColumns wsX1_step := goodIn_r _ [15, 3, 1, 16, 17, 18, 19, 20, 21, 22, 23, 24, 25] rfl gw_wsX1_step
set_option maxRecDepth 20000 in
theorem gX1_readTableColumns_X1_step : GoodIn wsX1_readTableColumns (wsV RX1 75 RX1 yX1_step wsX1_step) := goodIn_app (goodIn_of _ (by decide +kernel)) ggX1_readTableColumns_X1_step
def dtX1_readTableColumns_0_0 : List (Nat × Instr × Nat) := [(0, .aload_n 0, 1), (1, .iconst 4, 1), (2, .invokevirtual 67, 3), (5, .ifCond .ne 5, 3), (8, .iconst 1, 1), (9, .ireturn, 1), (10, .aload_n 0, 1), (11, .getfield 12, 3), (14, .getfield 71, 3), (17, .aload_n 0, 1), (18, .getfield 44, 3), (21, .iaload, 1), (22, .istore_n 1, 1), (23, .iload_n 1, 1), (24, .iconst 1, 1), (25, .if_icmp .lt 8, 3), (28, .iload_n 1, 1), (29, .iconst 4, 1), (30, .if_icmp .le 5, 3), (33, .iconst 2, 1), (34, .ireturn, 1), (35, .aload_n 0, 1), (36, .getfield 29, 3), (39, .iload_n 1, 1), (40, .putfield 136, 3), (43, .aload_n 0, 1), (44, .invokevirtual 75, 3), (47, .iconst 0, 1), (48, .ireturn, 1)]
theorem dtX1_readTableColumns_0_0_ok : dcAll cX1_readTableColumns dtX1_readTableColumns_0_0 = true := by decide +kernel
theorem dX1_readTableColumns_0 : decode cX1_readTableColumns 0 = .ok (.aload_n 0, 1) := dc_of dtX1_readTableColumns_0_0_ok (i := 0) rfl
theorem dX1_readTableColumns_1 : decode cX1_readTableColumns 1 = .ok (.iconst 4, 1) := dc_of dtX1_readTableColumns_0_0_ok (i := 1) rfl
theorem dX1_readTableColumns_2 : decode cX1_readTableColumns 2 = .ok (.invokevirtual 67, 3) := dc_of dtX1_readTableColumns_0_0_ok (i := 2) rfl
theorem dX1_readTableColumns_5 : decode cX1_readTableColumns 5 = .ok (.ifCond .ne 5, 3) := dc_of dtX1_readTableColumns_0_0_ok (i := 3) rfl
theorem dX1_readTableColumns_8 : decode cX1_readTableColumns 8 = .ok (.iconst 1, 1) := dc_of dtX1_readTableColumns_0_0_ok (i := 4) rfl
theorem dX1_readTableColumns_9 : decode cX1_readTableColumns 9 = .ok (.ireturn, 1) := dc_of dtX1_readTableColumns_0_0_ok (i := 5) rfl
theorem dX1_readTableColumns_10 : decode cX1_readTableColumns 10 = .ok (.aload_n 0, 1) := dc_of dtX1_readTableColumns_0_0_ok (i := 6) rfl
theorem dX1_readTableColumns_11 : decode cX1_readTableColumns 11 = .ok (.getfield 12, 3) := dc_of dtX1_readTableColumns_0_0_ok (i := 7) rfl
theorem dX1_readTableColumns_14 : decode cX1_readTableColumns 14 = .ok (.getfield 71, 3) := dc_of dtX1_readTableColumns_0_0_ok (i := 8) rfl
theorem dX1_readTableColumns_17 : decode cX1_readTableColumns 17 = .ok (.aload_n 0, 1) := dc_of dtX1_readTableColumns_0_0_ok (i := 9) rfl
theorem dX1_readTableColumns_18 : decode cX1_readTableColumns 18 = .ok (.getfield 44, 3) := dc_of dtX1_readTableColumns_0_0_ok (i := 10) rfl
theorem dX1_readTableColumns_21 : decode cX1_readTableColumns 21 = .ok (.iaload, 1) := dc_of dtX1_readTableColumns_0_0_ok (i := 11) rfl
theorem dX1_readTableColumns_22 : decode cX1_readTableColumns 22 = .ok (.istore_n 1, 1) := dc_of dtX1_readTableColumns_0_0_ok (i := 12) rfl
theorem dX1_readTableColumns_23 : decode cX1_readTableColumns 23 = .ok (.iload_n 1, 1) := dc_of dtX1_readTableColumns_0_0_ok (i := 13) rfl
theorem dX1_readTableColumns_24 : decode cX1_readTableColumns 24 = .ok (.iconst 1, 1) := dc_of dtX1_readTableColumns_0_0_ok (i := 14) rfl
theorem dX1_readTableColumns_25 : decode cX1_readTableColumns 25 = .ok (.if_icmp .lt 8, 3) := dc_of dtX1_readTableColumns_0_0_ok (i := 15) rfl
theorem dX1_readTableColumns_28 : decode cX1_readTableColumns 28 = .ok (.iload_n 1, 1) := dc_of dtX1_readTableColumns_0_0_ok (i := 16) rfl
theorem dX1_readTableColumns_29 : decode cX1_readTableColumns 29 = .ok (.iconst 4, 1) := dc_of dtX1_readTableColumns_0_0_ok (i := 17) rfl
theorem dX1_readTableColumns_30 : decode cX1_readTableColumns 30 = .ok (.if_icmp .le 5, 3) := dc_of dtX1_readTableColumns_0_0_ok (i := 18) rfl
theorem dX1_readTableColumns_33 : decode cX1_readTableColumns 33 = .ok (.iconst 2, 1) := dc_of dtX1_readTableColumns_0_0_ok (i := 19) rfl
theorem dX1_readTableColumns_34 : decode cX1_readTableColumns 34 = .ok (.ireturn, 1) := dc_of dtX1_readTableColumns_0_0_ok (i := 20) rfl
theorem dX1_readTableColumns_35 : decode cX1_readTableColumns 35 = .ok (.aload_n 0, 1) := dc_of dtX1_readTableColumns_0_0_ok (i := 21) rfl
theorem dX1_readTableColumns_36 : decode cX1_readTableColumns 36 = .ok (.getfield 29, 3) := dc_of dtX1_readTableColumns_0_0_ok (i := 22) rfl
theorem dX1_readTableColumns_39 : decode cX1_readTableColumns 39 = .ok (.iload_n 1, 1) := dc_of dtX1_readTableColumns_0_0_ok (i := 23) rfl
theorem dX1_readTableColumns_40 : decode cX1_readTableColumns 40 = .ok (.putfield 136, 3) := dc_of dtX1_readTableColumns_0_0_ok (i := 24) rfl
theorem dX1_readTableColumns_43 : decode cX1_readTableColumns 43 = .ok (.aload_n 0, 1) := dc_of dtX1_readTableColumns_0_0_ok (i := 25) rfl
theorem dX1_readTableColumns_44 : decode cX1_readTableColumns 44 = .ok (.invokevirtual 75, 3) := dc_of dtX1_readTableColumns_0_0_ok (i := 26) rfl
theorem dX1_readTableColumns_47 : decode cX1_readTableColumns 47 = .ok (.iconst 0, 1) := dc_of dtX1_readTableColumns_0_0_ok (i := 27) rfl
theorem dX1_readTableColumns_48 : decode cX1_readTableColumns 48 = .ok (.ireturn, 1) := dc_of dtX1_readTableColumns_0_0_ok (i := 28) rfl
set_option maxRecDepth 20000 in
theorem gw_wsX1_seeRelation : wsX1_seeRelation.all goodWord = true := by decide +kernel
set_option maxRecDepth 20000 in
theorem ggX1_readFirst_X1_seeRelation : GoodIn wsX1_readFirst wsX1_seeRelation := goodIn_r _ [14, 2, 3, 4, 5, 15, 16, 17, 13, 18, 19, 20, 21, 22, 23, 24, 25, 26, 27, 28, 29, 30, 31, 32, 38, 39, 40, 41, 42, 43, 44, 45, 46, 62, 63, 64, 47, 48, 49, 50, 51, 52, 53, 54, 55, 56, 57, 58, 59, 60, 61] rfl gw_wsX1_seeRelation
set_option maxRecDepth 20000 in
theorem gX1_readFirst_X1_seeRelation : GoodIn wsX1_readFirst (wsV RX1 152 RX1 yX1_seeRelation wsX1_seeRelation) := goodIn_app (goodIn_of _ (by decide +kernel)) ggX1_readFirst_X1_seeRelation
set_option maxRecDepth 20000 in
theorem ggX1_readFirst_X2_relationOf : GoodIn wsX1_readFirst wsX2_relationOf := goodIn_r _ [29, 30, 31, 32, 62, 63, 64, 47, 48, 49, 50, 51, 52, 53, 54, 55, 56, 57, 58, 59, 60, 61] rfl gw_wsX2_relationOf
set_option maxRecDepth 20000 in
theorem gX1_readFirst_X2_relationOf : GoodIn wsX1_readFirst (wsV RX1 97 RX2 yX2_relationOf wsX2_relationOf) := goodIn_app (goodIn_of _ (by decide +kernel)) ggX1_readFirst_X2_relationOf
set_option maxRecDepth 20000 in
theorem ggX1_readFirst_X1_step : GoodIn wsX1_readFirst wsX1_step := goodIn_r _ [36, 5, 3, 37, 38, 39, 40, 41, 42, 43, 44, 45, 46] rfl gw_wsX1_step
set_option maxRecDepth 20000 in
theorem gX1_readFirst_X1_step : GoodIn wsX1_readFirst (wsV RX1 75 RX1 yX1_step wsX1_step) := goodIn_app (goodIn_of _ (by decide +kernel)) ggX1_readFirst_X1_step
def dtX1_readFirst_0_0 : List (Nat × Instr × Nat) := [(0, .aload_n 0, 1), (1, .invokevirtual 152, 3), (4, .istore_n 1, 1), (5, .iload_n 1, 1), (6, .ifCond .ne 58, 3), (9, .aload_n 0, 1), (10, .getfield 29, 3), (13, .aload_n 0, 1), (14, .getfield 21, 3), (17, .aload_n 0, 1), (18, .getfield 12, 3), (21, .getfield 93, 3), (24, .aload_n 0, 1), (25, .getfield 44, 3), (28, .laload, 1), (29, .invokevirtual 97, 3), (32, .putfield 155, 3), (35, .aload_n 0, 1), (36, .getfield 29, 3), (39, .aload_n 0, 1), (40, .getfield 21, 3), (43, .getfield 25, 3), (46, .aload_n 0, 1), (47, .getfield 29, 3), (50, .getfield 155, 3), (53, .aaload, 1), (54, .getfield 136, 3), (57, .putfield 143, 3), (60, .aload_n 0, 1), (61, .invokevirtual 75, 3), (64, .iload_n 1, 1), (65, .ireturn, 1)]
theorem dtX1_readFirst_0_0_ok : dcAll cX1_readFirst dtX1_readFirst_0_0 = true := by decide +kernel
theorem dX1_readFirst_0 : decode cX1_readFirst 0 = .ok (.aload_n 0, 1) := dc_of dtX1_readFirst_0_0_ok (i := 0) rfl
theorem dX1_readFirst_1 : decode cX1_readFirst 1 = .ok (.invokevirtual 152, 3) := dc_of dtX1_readFirst_0_0_ok (i := 1) rfl
theorem dX1_readFirst_4 : decode cX1_readFirst 4 = .ok (.istore_n 1, 1) := dc_of dtX1_readFirst_0_0_ok (i := 2) rfl
theorem dX1_readFirst_5 : decode cX1_readFirst 5 = .ok (.iload_n 1, 1) := dc_of dtX1_readFirst_0_0_ok (i := 3) rfl
theorem dX1_readFirst_6 : decode cX1_readFirst 6 = .ok (.ifCond .ne 58, 3) := dc_of dtX1_readFirst_0_0_ok (i := 4) rfl
theorem dX1_readFirst_9 : decode cX1_readFirst 9 = .ok (.aload_n 0, 1) := dc_of dtX1_readFirst_0_0_ok (i := 5) rfl
theorem dX1_readFirst_10 : decode cX1_readFirst 10 = .ok (.getfield 29, 3) := dc_of dtX1_readFirst_0_0_ok (i := 6) rfl
theorem dX1_readFirst_13 : decode cX1_readFirst 13 = .ok (.aload_n 0, 1) := dc_of dtX1_readFirst_0_0_ok (i := 7) rfl
theorem dX1_readFirst_14 : decode cX1_readFirst 14 = .ok (.getfield 21, 3) := dc_of dtX1_readFirst_0_0_ok (i := 8) rfl
theorem dX1_readFirst_17 : decode cX1_readFirst 17 = .ok (.aload_n 0, 1) := dc_of dtX1_readFirst_0_0_ok (i := 9) rfl
theorem dX1_readFirst_18 : decode cX1_readFirst 18 = .ok (.getfield 12, 3) := dc_of dtX1_readFirst_0_0_ok (i := 10) rfl
theorem dX1_readFirst_21 : decode cX1_readFirst 21 = .ok (.getfield 93, 3) := dc_of dtX1_readFirst_0_0_ok (i := 11) rfl
theorem dX1_readFirst_24 : decode cX1_readFirst 24 = .ok (.aload_n 0, 1) := dc_of dtX1_readFirst_0_0_ok (i := 12) rfl
theorem dX1_readFirst_25 : decode cX1_readFirst 25 = .ok (.getfield 44, 3) := dc_of dtX1_readFirst_0_0_ok (i := 13) rfl
theorem dX1_readFirst_28 : decode cX1_readFirst 28 = .ok (.laload, 1) := dc_of dtX1_readFirst_0_0_ok (i := 14) rfl
theorem dX1_readFirst_29 : decode cX1_readFirst 29 = .ok (.invokevirtual 97, 3) := dc_of dtX1_readFirst_0_0_ok (i := 15) rfl
theorem dX1_readFirst_32 : decode cX1_readFirst 32 = .ok (.putfield 155, 3) := dc_of dtX1_readFirst_0_0_ok (i := 16) rfl
theorem dX1_readFirst_35 : decode cX1_readFirst 35 = .ok (.aload_n 0, 1) := dc_of dtX1_readFirst_0_0_ok (i := 17) rfl
theorem dX1_readFirst_36 : decode cX1_readFirst 36 = .ok (.getfield 29, 3) := dc_of dtX1_readFirst_0_0_ok (i := 18) rfl
theorem dX1_readFirst_39 : decode cX1_readFirst 39 = .ok (.aload_n 0, 1) := dc_of dtX1_readFirst_0_0_ok (i := 19) rfl
theorem dX1_readFirst_40 : decode cX1_readFirst 40 = .ok (.getfield 21, 3) := dc_of dtX1_readFirst_0_0_ok (i := 20) rfl
theorem dX1_readFirst_43 : decode cX1_readFirst 43 = .ok (.getfield 25, 3) := dc_of dtX1_readFirst_0_0_ok (i := 21) rfl
theorem dX1_readFirst_46 : decode cX1_readFirst 46 = .ok (.aload_n 0, 1) := dc_of dtX1_readFirst_0_0_ok (i := 22) rfl
theorem dX1_readFirst_47 : decode cX1_readFirst 47 = .ok (.getfield 29, 3) := dc_of dtX1_readFirst_0_0_ok (i := 23) rfl
theorem dX1_readFirst_50 : decode cX1_readFirst 50 = .ok (.getfield 155, 3) := dc_of dtX1_readFirst_0_0_ok (i := 24) rfl
theorem dX1_readFirst_53 : decode cX1_readFirst 53 = .ok (.aaload, 1) := dc_of dtX1_readFirst_0_0_ok (i := 25) rfl
theorem dX1_readFirst_54 : decode cX1_readFirst 54 = .ok (.getfield 136, 3) := dc_of dtX1_readFirst_0_0_ok (i := 26) rfl
theorem dX1_readFirst_57 : decode cX1_readFirst 57 = .ok (.putfield 143, 3) := dc_of dtX1_readFirst_0_0_ok (i := 27) rfl
theorem dX1_readFirst_60 : decode cX1_readFirst 60 = .ok (.aload_n 0, 1) := dc_of dtX1_readFirst_0_0_ok (i := 28) rfl
theorem dX1_readFirst_61 : decode cX1_readFirst 61 = .ok (.invokevirtual 75, 3) := dc_of dtX1_readFirst_0_0_ok (i := 29) rfl
theorem dX1_readFirst_64 : decode cX1_readFirst 64 = .ok (.iload_n 1, 1) := dc_of dtX1_readFirst_0_0_ok (i := 30) rfl
theorem dX1_readFirst_65 : decode cX1_readFirst 65 = .ok (.ireturn, 1) := dc_of dtX1_readFirst_0_0_ok (i := 31) rfl
set_option maxRecDepth 20000 in
theorem ggX1_readSecond_X1_seeRelation : GoodIn wsX1_readSecond wsX1_seeRelation := goodIn_r _ [14, 2, 3, 4, 5, 15, 16, 17, 13, 18, 19, 20, 21, 22, 23, 24, 25, 26, 27, 28, 29, 30, 31, 32, 38, 39, 40, 41, 42, 43, 44, 45, 46, 62, 63, 64, 47, 48, 49, 50, 51, 52, 53, 54, 55, 56, 57, 58, 59, 60, 61] rfl gw_wsX1_seeRelation
set_option maxRecDepth 20000 in
theorem gX1_readSecond_X1_seeRelation : GoodIn wsX1_readSecond (wsV RX1 152 RX1 yX1_seeRelation wsX1_seeRelation) := goodIn_app (goodIn_of _ (by decide +kernel)) ggX1_readSecond_X1_seeRelation
set_option maxRecDepth 20000 in
theorem ggX1_readSecond_X2_relationOf : GoodIn wsX1_readSecond wsX2_relationOf := goodIn_r _ [29, 30, 31, 32, 62, 63, 64, 47, 48, 49, 50, 51, 52, 53, 54, 55, 56, 57, 58, 59, 60, 61] rfl gw_wsX2_relationOf
set_option maxRecDepth 20000 in
theorem gX1_readSecond_X2_relationOf : GoodIn wsX1_readSecond (wsV RX1 97 RX2 yX2_relationOf wsX2_relationOf) := goodIn_app (goodIn_of _ (by decide +kernel)) ggX1_readSecond_X2_relationOf
set_option maxRecDepth 20000 in
theorem ggX1_readSecond_X1_step : GoodIn wsX1_readSecond wsX1_step := goodIn_r _ [36, 5, 3, 37, 38, 39, 40, 41, 42, 43, 44, 45, 46] rfl gw_wsX1_step
set_option maxRecDepth 20000 in
theorem gX1_readSecond_X1_step : GoodIn wsX1_readSecond (wsV RX1 75 RX1 yX1_step wsX1_step) := goodIn_app (goodIn_of _ (by decide +kernel)) ggX1_readSecond_X1_step
def dtX1_readSecond_0_0 : List (Nat × Instr × Nat) := [(0, .aload_n 0, 1), (1, .invokevirtual 152, 3), (4, .istore_n 1, 1), (5, .iload_n 1, 1), (6, .ifCond .ne 58, 3), (9, .aload_n 0, 1), (10, .getfield 29, 3), (13, .aload_n 0, 1), (14, .getfield 21, 3), (17, .aload_n 0, 1), (18, .getfield 12, 3), (21, .getfield 93, 3), (24, .aload_n 0, 1), (25, .getfield 44, 3), (28, .laload, 1), (29, .invokevirtual 97, 3), (32, .putfield 158, 3), (35, .aload_n 0, 1), (36, .getfield 29, 3), (39, .aload_n 0, 1), (40, .getfield 21, 3), (43, .getfield 25, 3), (46, .aload_n 0, 1), (47, .getfield 29, 3), (50, .getfield 158, 3), (53, .aaload, 1), (54, .getfield 136, 3), (57, .putfield 146, 3), (60, .aload_n 0, 1), (61, .invokevirtual 75, 3), (64, .iload_n 1, 1), (65, .ireturn, 1)]
theorem dtX1_readSecond_0_0_ok : dcAll cX1_readSecond dtX1_readSecond_0_0 = true := by decide +kernel
theorem dX1_readSecond_0 : decode cX1_readSecond 0 = .ok (.aload_n 0, 1) := dc_of dtX1_readSecond_0_0_ok (i := 0) rfl
theorem dX1_readSecond_1 : decode cX1_readSecond 1 = .ok (.invokevirtual 152, 3) := dc_of dtX1_readSecond_0_0_ok (i := 1) rfl
theorem dX1_readSecond_4 : decode cX1_readSecond 4 = .ok (.istore_n 1, 1) := dc_of dtX1_readSecond_0_0_ok (i := 2) rfl
theorem dX1_readSecond_5 : decode cX1_readSecond 5 = .ok (.iload_n 1, 1) := dc_of dtX1_readSecond_0_0_ok (i := 3) rfl
theorem dX1_readSecond_6 : decode cX1_readSecond 6 = .ok (.ifCond .ne 58, 3) := dc_of dtX1_readSecond_0_0_ok (i := 4) rfl
theorem dX1_readSecond_9 : decode cX1_readSecond 9 = .ok (.aload_n 0, 1) := dc_of dtX1_readSecond_0_0_ok (i := 5) rfl
theorem dX1_readSecond_10 : decode cX1_readSecond 10 = .ok (.getfield 29, 3) := dc_of dtX1_readSecond_0_0_ok (i := 6) rfl
theorem dX1_readSecond_13 : decode cX1_readSecond 13 = .ok (.aload_n 0, 1) := dc_of dtX1_readSecond_0_0_ok (i := 7) rfl
theorem dX1_readSecond_14 : decode cX1_readSecond 14 = .ok (.getfield 21, 3) := dc_of dtX1_readSecond_0_0_ok (i := 8) rfl
theorem dX1_readSecond_17 : decode cX1_readSecond 17 = .ok (.aload_n 0, 1) := dc_of dtX1_readSecond_0_0_ok (i := 9) rfl
theorem dX1_readSecond_18 : decode cX1_readSecond 18 = .ok (.getfield 12, 3) := dc_of dtX1_readSecond_0_0_ok (i := 10) rfl
theorem dX1_readSecond_21 : decode cX1_readSecond 21 = .ok (.getfield 93, 3) := dc_of dtX1_readSecond_0_0_ok (i := 11) rfl
theorem dX1_readSecond_24 : decode cX1_readSecond 24 = .ok (.aload_n 0, 1) := dc_of dtX1_readSecond_0_0_ok (i := 12) rfl
theorem dX1_readSecond_25 : decode cX1_readSecond 25 = .ok (.getfield 44, 3) := dc_of dtX1_readSecond_0_0_ok (i := 13) rfl
theorem dX1_readSecond_28 : decode cX1_readSecond 28 = .ok (.laload, 1) := dc_of dtX1_readSecond_0_0_ok (i := 14) rfl
theorem dX1_readSecond_29 : decode cX1_readSecond 29 = .ok (.invokevirtual 97, 3) := dc_of dtX1_readSecond_0_0_ok (i := 15) rfl
theorem dX1_readSecond_32 : decode cX1_readSecond 32 = .ok (.putfield 158, 3) := dc_of dtX1_readSecond_0_0_ok (i := 16) rfl
theorem dX1_readSecond_35 : decode cX1_readSecond 35 = .ok (.aload_n 0, 1) := dc_of dtX1_readSecond_0_0_ok (i := 17) rfl
theorem dX1_readSecond_36 : decode cX1_readSecond 36 = .ok (.getfield 29, 3) := dc_of dtX1_readSecond_0_0_ok (i := 18) rfl
theorem dX1_readSecond_39 : decode cX1_readSecond 39 = .ok (.aload_n 0, 1) := dc_of dtX1_readSecond_0_0_ok (i := 19) rfl
theorem dX1_readSecond_40 : decode cX1_readSecond 40 = .ok (.getfield 21, 3) := dc_of dtX1_readSecond_0_0_ok (i := 20) rfl
theorem dX1_readSecond_43 : decode cX1_readSecond 43 = .ok (.getfield 25, 3) := dc_of dtX1_readSecond_0_0_ok (i := 21) rfl
theorem dX1_readSecond_46 : decode cX1_readSecond 46 = .ok (.aload_n 0, 1) := dc_of dtX1_readSecond_0_0_ok (i := 22) rfl
theorem dX1_readSecond_47 : decode cX1_readSecond 47 = .ok (.getfield 29, 3) := dc_of dtX1_readSecond_0_0_ok (i := 23) rfl
theorem dX1_readSecond_50 : decode cX1_readSecond 50 = .ok (.getfield 158, 3) := dc_of dtX1_readSecond_0_0_ok (i := 24) rfl
theorem dX1_readSecond_53 : decode cX1_readSecond 53 = .ok (.aaload, 1) := dc_of dtX1_readSecond_0_0_ok (i := 25) rfl
theorem dX1_readSecond_54 : decode cX1_readSecond 54 = .ok (.getfield 136, 3) := dc_of dtX1_readSecond_0_0_ok (i := 26) rfl
theorem dX1_readSecond_57 : decode cX1_readSecond 57 = .ok (.putfield 146, 3) := dc_of dtX1_readSecond_0_0_ok (i := 27) rfl
theorem dX1_readSecond_60 : decode cX1_readSecond 60 = .ok (.aload_n 0, 1) := dc_of dtX1_readSecond_0_0_ok (i := 28) rfl
theorem dX1_readSecond_61 : decode cX1_readSecond 61 = .ok (.invokevirtual 75, 3) := dc_of dtX1_readSecond_0_0_ok (i := 29) rfl
theorem dX1_readSecond_64 : decode cX1_readSecond 64 = .ok (.iload_n 1, 1) := dc_of dtX1_readSecond_0_0_ok (i := 30) rfl
theorem dX1_readSecond_65 : decode cX1_readSecond 65 = .ok (.ireturn, 1) := dc_of dtX1_readSecond_0_0_ok (i := 31) rfl
set_option maxRecDepth 20000 in
theorem ggX1_seeRelation_X1_isWord : GoodIn wsX1_seeRelation wsX1_isWord := goodIn_r _ [9, 2, 10, 4, 11, 12, 13, 8, 14, 15, 24, 25, 26, 27, 28, 29, 30, 31, 32] rfl gw_wsX1_isWord
set_option maxRecDepth 20000 in
theorem gX1_seeRelation_X1_isWord : GoodIn wsX1_seeRelation (wsV RX1 78 RX1 yX1_isWord wsX1_isWord) := goodIn_app (goodIn_of _ (by decide +kernel)) ggX1_seeRelation_X1_isWord
set_option maxRecDepth 20000 in
theorem ggX1_seeRelation_X2_relationOf : GoodIn wsX1_seeRelation wsX2_relationOf := goodIn_r _ [20, 21, 22, 23, 33, 34, 35, 36, 37, 38, 39, 40, 41, 42, 43, 44, 45, 46, 47, 48, 49, 50] rfl gw_wsX2_relationOf
set_option maxRecDepth 20000 in
theorem gX1_seeRelation_X2_relationOf : GoodIn wsX1_seeRelation (wsV RX1 97 RX2 yX2_relationOf wsX2_relationOf) := goodIn_app (goodIn_of _ (by decide +kernel)) ggX1_seeRelation_X2_relationOf
def dtX1_seeRelation_0_0 : List (Nat × Instr × Nat) := [(0, .aload_n 0, 1), (1, .iconst (-1), 1), (2, .invokevirtual 78, 3), (5, .ifCond .ne 5, 3), (8, .iconst 1, 1), (9, .ireturn, 1), (10, .aload_n 0, 1), (11, .getfield 21, 3), (14, .aload_n 0, 1), (15, .getfield 12, 3), (18, .getfield 93, 3), (21, .aload_n 0, 1), (22, .getfield 44, 3), (25, .laload, 1), (26, .invokevirtual 97, 3), (29, .iconst (-1), 1), (30, .if_icmp .ne 7, 3), (33, .iconst 3, 1), (34, .goto 4, 3), (37, .iconst 0, 1), (38, .ireturn, 1)]
theorem dtX1_seeRelation_0_0_ok : dcAll cX1_seeRelation dtX1_seeRelation_0_0 = true := by decide +kernel
theorem dX1_seeRelation_0 : decode cX1_seeRelation 0 = .ok (.aload_n 0, 1) := dc_of dtX1_seeRelation_0_0_ok (i := 0) rfl
theorem dX1_seeRelation_1 : decode cX1_seeRelation 1 = .ok (.iconst (-1), 1) := dc_of dtX1_seeRelation_0_0_ok (i := 1) rfl
theorem dX1_seeRelation_2 : decode cX1_seeRelation 2 = .ok (.invokevirtual 78, 3) := dc_of dtX1_seeRelation_0_0_ok (i := 2) rfl
theorem dX1_seeRelation_5 : decode cX1_seeRelation 5 = .ok (.ifCond .ne 5, 3) := dc_of dtX1_seeRelation_0_0_ok (i := 3) rfl
theorem dX1_seeRelation_8 : decode cX1_seeRelation 8 = .ok (.iconst 1, 1) := dc_of dtX1_seeRelation_0_0_ok (i := 4) rfl
theorem dX1_seeRelation_9 : decode cX1_seeRelation 9 = .ok (.ireturn, 1) := dc_of dtX1_seeRelation_0_0_ok (i := 5) rfl
theorem dX1_seeRelation_10 : decode cX1_seeRelation 10 = .ok (.aload_n 0, 1) := dc_of dtX1_seeRelation_0_0_ok (i := 6) rfl
theorem dX1_seeRelation_11 : decode cX1_seeRelation 11 = .ok (.getfield 21, 3) := dc_of dtX1_seeRelation_0_0_ok (i := 7) rfl
theorem dX1_seeRelation_14 : decode cX1_seeRelation 14 = .ok (.aload_n 0, 1) := dc_of dtX1_seeRelation_0_0_ok (i := 8) rfl
theorem dX1_seeRelation_15 : decode cX1_seeRelation 15 = .ok (.getfield 12, 3) := dc_of dtX1_seeRelation_0_0_ok (i := 9) rfl
theorem dX1_seeRelation_18 : decode cX1_seeRelation 18 = .ok (.getfield 93, 3) := dc_of dtX1_seeRelation_0_0_ok (i := 10) rfl
theorem dX1_seeRelation_21 : decode cX1_seeRelation 21 = .ok (.aload_n 0, 1) := dc_of dtX1_seeRelation_0_0_ok (i := 11) rfl
theorem dX1_seeRelation_22 : decode cX1_seeRelation 22 = .ok (.getfield 44, 3) := dc_of dtX1_seeRelation_0_0_ok (i := 12) rfl
theorem dX1_seeRelation_25 : decode cX1_seeRelation 25 = .ok (.laload, 1) := dc_of dtX1_seeRelation_0_0_ok (i := 13) rfl
theorem dX1_seeRelation_26 : decode cX1_seeRelation 26 = .ok (.invokevirtual 97, 3) := dc_of dtX1_seeRelation_0_0_ok (i := 14) rfl
theorem dX1_seeRelation_29 : decode cX1_seeRelation 29 = .ok (.iconst (-1), 1) := dc_of dtX1_seeRelation_0_0_ok (i := 15) rfl
theorem dX1_seeRelation_30 : decode cX1_seeRelation 30 = .ok (.if_icmp .ne 7, 3) := dc_of dtX1_seeRelation_0_0_ok (i := 16) rfl
theorem dX1_seeRelation_33 : decode cX1_seeRelation 33 = .ok (.iconst 3, 1) := dc_of dtX1_seeRelation_0_0_ok (i := 17) rfl
theorem dX1_seeRelation_34 : decode cX1_seeRelation 34 = .ok (.goto 4, 3) := dc_of dtX1_seeRelation_0_0_ok (i := 18) rfl
theorem dX1_seeRelation_37 : decode cX1_seeRelation 37 = .ok (.iconst 0, 1) := dc_of dtX1_seeRelation_0_0_ok (i := 19) rfl
theorem dX1_seeRelation_38 : decode cX1_seeRelation 38 = .ok (.ireturn, 1) := dc_of dtX1_seeRelation_0_0_ok (i := 20) rfl
set_option maxRecDepth 20000 in
theorem ggX1_seeColumn_X1_isKind : GoodIn wsX1_seeColumn wsX1_isKind := goodIn_r _ [8, 1, 9, 3, 10, 11, 12, 13, 14, 15, 16, 17, 18] rfl gw_wsX1_isKind
set_option maxRecDepth 20000 in
theorem gX1_seeColumn_X1_isKind : GoodIn wsX1_seeColumn (wsV RX1 67 RX1 yX1_isKind wsX1_isKind) := goodIn_app (goodIn_of _ (by decide +kernel)) ggX1_seeColumn_X1_isKind
def dtX1_seeColumn_0_0 : List (Nat × Instr × Nat) := [(0, .aload_n 0, 1), (1, .iconst 2, 1), (2, .invokevirtual 67, 3), (5, .ifCond .ne 5, 3), (8, .iconst 1, 1), (9, .ireturn, 1), (10, .aload_n 0, 1), (11, .getfield 12, 3), (14, .getfield 71, 3), (17, .aload_n 0, 1), (18, .getfield 44, 3), (21, .iaload, 1), (22, .iload_n 1, 1), (23, .if_icmp .lt 7, 3), (26, .iconst 2, 1), (27, .goto 4, 3), (30, .iconst 0, 1), (31, .ireturn, 1)]
theorem dtX1_seeColumn_0_0_ok : dcAll cX1_seeColumn dtX1_seeColumn_0_0 = true := by decide +kernel
theorem dX1_seeColumn_0 : decode cX1_seeColumn 0 = .ok (.aload_n 0, 1) := dc_of dtX1_seeColumn_0_0_ok (i := 0) rfl
theorem dX1_seeColumn_1 : decode cX1_seeColumn 1 = .ok (.iconst 2, 1) := dc_of dtX1_seeColumn_0_0_ok (i := 1) rfl
theorem dX1_seeColumn_2 : decode cX1_seeColumn 2 = .ok (.invokevirtual 67, 3) := dc_of dtX1_seeColumn_0_0_ok (i := 2) rfl
theorem dX1_seeColumn_5 : decode cX1_seeColumn 5 = .ok (.ifCond .ne 5, 3) := dc_of dtX1_seeColumn_0_0_ok (i := 3) rfl
theorem dX1_seeColumn_8 : decode cX1_seeColumn 8 = .ok (.iconst 1, 1) := dc_of dtX1_seeColumn_0_0_ok (i := 4) rfl
theorem dX1_seeColumn_9 : decode cX1_seeColumn 9 = .ok (.ireturn, 1) := dc_of dtX1_seeColumn_0_0_ok (i := 5) rfl
theorem dX1_seeColumn_10 : decode cX1_seeColumn 10 = .ok (.aload_n 0, 1) := dc_of dtX1_seeColumn_0_0_ok (i := 6) rfl
theorem dX1_seeColumn_11 : decode cX1_seeColumn 11 = .ok (.getfield 12, 3) := dc_of dtX1_seeColumn_0_0_ok (i := 7) rfl
theorem dX1_seeColumn_14 : decode cX1_seeColumn 14 = .ok (.getfield 71, 3) := dc_of dtX1_seeColumn_0_0_ok (i := 8) rfl
theorem dX1_seeColumn_17 : decode cX1_seeColumn 17 = .ok (.aload_n 0, 1) := dc_of dtX1_seeColumn_0_0_ok (i := 9) rfl
theorem dX1_seeColumn_18 : decode cX1_seeColumn 18 = .ok (.getfield 44, 3) := dc_of dtX1_seeColumn_0_0_ok (i := 10) rfl
theorem dX1_seeColumn_21 : decode cX1_seeColumn 21 = .ok (.iaload, 1) := dc_of dtX1_seeColumn_0_0_ok (i := 11) rfl
theorem dX1_seeColumn_22 : decode cX1_seeColumn 22 = .ok (.iload_n 1, 1) := dc_of dtX1_seeColumn_0_0_ok (i := 12) rfl
theorem dX1_seeColumn_23 : decode cX1_seeColumn 23 = .ok (.if_icmp .lt 7, 3) := dc_of dtX1_seeColumn_0_0_ok (i := 13) rfl
theorem dX1_seeColumn_26 : decode cX1_seeColumn 26 = .ok (.iconst 2, 1) := dc_of dtX1_seeColumn_0_0_ok (i := 14) rfl
theorem dX1_seeColumn_27 : decode cX1_seeColumn 27 = .ok (.goto 4, 3) := dc_of dtX1_seeColumn_0_0_ok (i := 15) rfl
theorem dX1_seeColumn_30 : decode cX1_seeColumn 30 = .ok (.iconst 0, 1) := dc_of dtX1_seeColumn_0_0_ok (i := 16) rfl
theorem dX1_seeColumn_31 : decode cX1_seeColumn 31 = .ok (.ireturn, 1) := dc_of dtX1_seeColumn_0_0_ok (i := 17) rfl
set_option maxRecDepth 20000 in
theorem gw_wsX1_readFirst : wsX1_readFirst.all goodWord = true := by decide +kernel
set_option maxRecDepth 20000 in
theorem ggX1_readSelect_X1_readFirst : GoodIn wsX1_readSelect wsX1_readFirst := goodIn_r _ [8, 1, 9, 10, 11, 12, 13, 14, 3, 2, 15, 16, 17, 7, 18, 19, 20, 21, 22, 23, 24, 25, 26, 27, 28, 29, 30, 31, 32, 33, 34, 35, 36, 37, 38, 39, 40, 41, 66, 67, 68, 69, 85, 86, 87, 88, 89, 70, 71, 72, 73, 74, 75, 76, 77, 78, 79, 80, 81, 82, 83, 84, 90, 91, 92] rfl gw_wsX1_readFirst
set_option maxRecDepth 20000 in
theorem gX1_readSelect_X1_readFirst : GoodIn wsX1_readSelect (wsV RX1 161 RX1 yX1_readFirst wsX1_readFirst) := goodIn_app (goodIn_of _ (by decide +kernel)) ggX1_readSelect_X1_readFirst
set_option maxRecDepth 20000 in
theorem gw_wsX1_takeWord : wsX1_takeWord.all goodWord = true := by decide +kernel
set_option maxRecDepth 20000 in
theorem ggX1_readSelect_X1_takeWord : GoodIn wsX1_readSelect wsX1_takeWord := goodIn_r _ [45, 19, 20, 21, 7, 22, 10, 23, 12, 24, 25, 26, 27, 28, 37, 38, 39, 40, 41, 66, 67, 68, 69, 85, 86, 87, 88, 89] rfl gw_wsX1_takeWord
set_option maxRecDepth 20000 in
theorem gX1_readSelect_X1_takeWord : GoodIn wsX1_readSelect (wsV RX1 164 RX1 yX1_takeWord wsX1_takeWord) := goodIn_app (goodIn_of _ (by decide +kernel)) ggX1_readSelect_X1_takeWord
set_option maxRecDepth 20000 in
theorem gw_wsX1_readTests : wsX1_readTests.all goodWord = true := by decide +kernel
set_option maxRecDepth 20000 in
theorem ggX1_readSelect_X1_readTests : GoodIn wsX1_readSelect wsX1_readTests := goodIn_r _ [49, 50, 51, 52, 7, 53, 1, 2, 54, 10, 23, 12, 28, 55, 56, 57, 58, 24, 25, 26, 27, 37, 38, 39, 40, 41, 59, 60, 61, 62, 63, 64, 65, 19, 20, 21, 22, 66, 67, 68, 69, 70, 71, 72, 73, 74, 75, 76, 77, 78, 79, 80, 81, 82, 83, 84, 85, 86, 87, 88, 89] rfl gw_wsX1_readTests
set_option maxRecDepth 20000 in
theorem gX1_readSelect_X1_readTests : GoodIn wsX1_readSelect (wsV RX1 167 RX1 yX1_readTests wsX1_readTests) := goodIn_app (goodIn_of _ (by decide +kernel)) ggX1_readSelect_X1_readTests
def dtX1_readSelect_0_0 : List (Nat × Instr × Nat) := [(0, .aload_n 0, 1), (1, .invokevirtual 161, 3), (4, .istore_n 1, 1), (5, .iload_n 1, 1), (6, .ifCond .ne 10, 3), (9, .aload_n 0, 1), (10, .bipush 10, 2), (12, .invokevirtual 164, 3), (15, .istore_n 1, 1), (16, .iload_n 1, 1), (17, .ifCond .ne 8, 3), (20, .aload_n 0, 1), (21, .invokevirtual 167, 3), (24, .istore_n 1, 1), (25, .aload_n 0, 1), (26, .getfield 29, 3), (29, .aload_n 0, 1), (30, .getfield 29, 3), (33, .getfield 143, 3), (36, .putfield 136, 3), (39, .iload_n 1, 1), (40, .ireturn, 1)]
theorem dtX1_readSelect_0_0_ok : dcAll cX1_readSelect dtX1_readSelect_0_0 = true := by decide +kernel
theorem dX1_readSelect_0 : decode cX1_readSelect 0 = .ok (.aload_n 0, 1) := dc_of dtX1_readSelect_0_0_ok (i := 0) rfl
theorem dX1_readSelect_1 : decode cX1_readSelect 1 = .ok (.invokevirtual 161, 3) := dc_of dtX1_readSelect_0_0_ok (i := 1) rfl
theorem dX1_readSelect_4 : decode cX1_readSelect 4 = .ok (.istore_n 1, 1) := dc_of dtX1_readSelect_0_0_ok (i := 2) rfl
theorem dX1_readSelect_5 : decode cX1_readSelect 5 = .ok (.iload_n 1, 1) := dc_of dtX1_readSelect_0_0_ok (i := 3) rfl
theorem dX1_readSelect_6 : decode cX1_readSelect 6 = .ok (.ifCond .ne 10, 3) := dc_of dtX1_readSelect_0_0_ok (i := 4) rfl
theorem dX1_readSelect_9 : decode cX1_readSelect 9 = .ok (.aload_n 0, 1) := dc_of dtX1_readSelect_0_0_ok (i := 5) rfl
theorem dX1_readSelect_10 : decode cX1_readSelect 10 = .ok (.bipush 10, 2) := dc_of dtX1_readSelect_0_0_ok (i := 6) rfl
theorem dX1_readSelect_12 : decode cX1_readSelect 12 = .ok (.invokevirtual 164, 3) := dc_of dtX1_readSelect_0_0_ok (i := 7) rfl
theorem dX1_readSelect_15 : decode cX1_readSelect 15 = .ok (.istore_n 1, 1) := dc_of dtX1_readSelect_0_0_ok (i := 8) rfl
theorem dX1_readSelect_16 : decode cX1_readSelect 16 = .ok (.iload_n 1, 1) := dc_of dtX1_readSelect_0_0_ok (i := 9) rfl
theorem dX1_readSelect_17 : decode cX1_readSelect 17 = .ok (.ifCond .ne 8, 3) := dc_of dtX1_readSelect_0_0_ok (i := 10) rfl
theorem dX1_readSelect_20 : decode cX1_readSelect 20 = .ok (.aload_n 0, 1) := dc_of dtX1_readSelect_0_0_ok (i := 11) rfl
theorem dX1_readSelect_21 : decode cX1_readSelect 21 = .ok (.invokevirtual 167, 3) := dc_of dtX1_readSelect_0_0_ok (i := 12) rfl
theorem dX1_readSelect_24 : decode cX1_readSelect 24 = .ok (.istore_n 1, 1) := dc_of dtX1_readSelect_0_0_ok (i := 13) rfl
theorem dX1_readSelect_25 : decode cX1_readSelect 25 = .ok (.aload_n 0, 1) := dc_of dtX1_readSelect_0_0_ok (i := 14) rfl
theorem dX1_readSelect_26 : decode cX1_readSelect 26 = .ok (.getfield 29, 3) := dc_of dtX1_readSelect_0_0_ok (i := 15) rfl
theorem dX1_readSelect_29 : decode cX1_readSelect 29 = .ok (.aload_n 0, 1) := dc_of dtX1_readSelect_0_0_ok (i := 16) rfl
theorem dX1_readSelect_30 : decode cX1_readSelect 30 = .ok (.getfield 29, 3) := dc_of dtX1_readSelect_0_0_ok (i := 17) rfl
theorem dX1_readSelect_33 : decode cX1_readSelect 33 = .ok (.getfield 143, 3) := dc_of dtX1_readSelect_0_0_ok (i := 18) rfl
theorem dX1_readSelect_36 : decode cX1_readSelect 36 = .ok (.putfield 136, 3) := dc_of dtX1_readSelect_0_0_ok (i := 19) rfl
theorem dX1_readSelect_39 : decode cX1_readSelect 39 = .ok (.iload_n 1, 1) := dc_of dtX1_readSelect_0_0_ok (i := 20) rfl
theorem dX1_readSelect_40 : decode cX1_readSelect 40 = .ok (.ireturn, 1) := dc_of dtX1_readSelect_0_0_ok (i := 21) rfl
set_option maxRecDepth 20000 in
theorem gw_wsX1_readTest : wsX1_readTest.all goodWord = true := by decide +kernel
set_option maxRecDepth 20000 in
theorem ggX1_readTests_X1_readTest : GoodIn wsX1_readTests wsX1_readTest := goodIn_r _ [5, 6, 7, 8, 9, 10, 11, 12, 13, 14, 15, 4, 16, 17, 18, 19, 20, 21, 22, 23, 24, 25, 26, 27, 28, 29, 30, 31, 32, 37, 38, 39, 40, 41, 42, 43, 44, 45, 46, 47, 48, 49, 50, 51, 52, 53, 54, 55, 56, 57, 58, 59, 60] rfl gw_wsX1_readTest
set_option maxRecDepth 20000 in
theorem gX1_readTests_X1_readTest : GoodIn wsX1_readTests (wsV RX1 170 RX1 yX1_readTest wsX1_readTest) := goodIn_app (goodIn_of _ (by decide +kernel)) ggX1_readTests_X1_readTest
set_option maxRecDepth 20000 in
theorem ggX1_readTests_X1_isWord : GoodIn wsX1_readTests wsX1_isWord := goodIn_r _ [36, 9, 10, 11, 17, 18, 19, 4, 20, 12, 37, 38, 39, 40, 56, 57, 58, 59, 60] rfl gw_wsX1_isWord
set_option maxRecDepth 20000 in
theorem gX1_readTests_X1_isWord : GoodIn wsX1_readTests (wsV RX1 78 RX1 yX1_isWord wsX1_isWord) := goodIn_app (goodIn_of _ (by decide +kernel)) ggX1_readTests_X1_isWord
set_option maxRecDepth 20000 in
theorem ggX1_readTests_X1_step : GoodIn wsX1_readTests wsX1_step := goodIn_r _ [24, 11, 9, 25, 37, 38, 39, 40, 56, 57, 58, 59, 60] rfl gw_wsX1_step
set_option maxRecDepth 20000 in
theorem gX1_readTests_X1_step : GoodIn wsX1_readTests (wsV RX1 75 RX1 yX1_step wsX1_step) := goodIn_app (goodIn_of _ (by decide +kernel)) ggX1_readTests_X1_step
def dtX1_readTests_0_0 : List (Nat × Instr × Nat) := [(0, .iconst 0, 1), (1, .istore_n 1, 1), (2, .iload_n 1, 1), (3, .bipush 8, 2), (5, .if_icmp .gt 33, 3), (8, .aload_n 0, 1), (9, .invokevirtual 170, 3), (12, .istore_n 2, 1), (13, .iload_n 2, 1), (14, .ifCond .ne 12, 3), (17, .aload_n 0, 1), (18, .bipush 11, 2), (20, .invokevirtual 78, 3), (23, .ifCond .ne 5, 3), (26, .iload_n 2, 1), (27, .ireturn, 1), (28, .aload_n 0, 1), (29, .invokevirtual 75, 3), (32, .iinc 1 1, 3), (35, .goto (-33), 3), (38, .iconst 4, 1), (39, .ireturn, 1)]
theorem dtX1_readTests_0_0_ok : dcAll cX1_readTests dtX1_readTests_0_0 = true := by decide +kernel
theorem dX1_readTests_0 : decode cX1_readTests 0 = .ok (.iconst 0, 1) := dc_of dtX1_readTests_0_0_ok (i := 0) rfl
theorem dX1_readTests_1 : decode cX1_readTests 1 = .ok (.istore_n 1, 1) := dc_of dtX1_readTests_0_0_ok (i := 1) rfl
theorem dX1_readTests_2 : decode cX1_readTests 2 = .ok (.iload_n 1, 1) := dc_of dtX1_readTests_0_0_ok (i := 2) rfl
theorem dX1_readTests_3 : decode cX1_readTests 3 = .ok (.bipush 8, 2) := dc_of dtX1_readTests_0_0_ok (i := 3) rfl
theorem dX1_readTests_5 : decode cX1_readTests 5 = .ok (.if_icmp .gt 33, 3) := dc_of dtX1_readTests_0_0_ok (i := 4) rfl
theorem dX1_readTests_8 : decode cX1_readTests 8 = .ok (.aload_n 0, 1) := dc_of dtX1_readTests_0_0_ok (i := 5) rfl
theorem dX1_readTests_9 : decode cX1_readTests 9 = .ok (.invokevirtual 170, 3) := dc_of dtX1_readTests_0_0_ok (i := 6) rfl
theorem dX1_readTests_12 : decode cX1_readTests 12 = .ok (.istore_n 2, 1) := dc_of dtX1_readTests_0_0_ok (i := 7) rfl
theorem dX1_readTests_13 : decode cX1_readTests 13 = .ok (.iload_n 2, 1) := dc_of dtX1_readTests_0_0_ok (i := 8) rfl
theorem dX1_readTests_14 : decode cX1_readTests 14 = .ok (.ifCond .ne 12, 3) := dc_of dtX1_readTests_0_0_ok (i := 9) rfl
theorem dX1_readTests_17 : decode cX1_readTests 17 = .ok (.aload_n 0, 1) := dc_of dtX1_readTests_0_0_ok (i := 10) rfl
theorem dX1_readTests_18 : decode cX1_readTests 18 = .ok (.bipush 11, 2) := dc_of dtX1_readTests_0_0_ok (i := 11) rfl
theorem dX1_readTests_20 : decode cX1_readTests 20 = .ok (.invokevirtual 78, 3) := dc_of dtX1_readTests_0_0_ok (i := 12) rfl
theorem dX1_readTests_23 : decode cX1_readTests 23 = .ok (.ifCond .ne 5, 3) := dc_of dtX1_readTests_0_0_ok (i := 13) rfl
theorem dX1_readTests_26 : decode cX1_readTests 26 = .ok (.iload_n 2, 1) := dc_of dtX1_readTests_0_0_ok (i := 14) rfl
theorem dX1_readTests_27 : decode cX1_readTests 27 = .ok (.ireturn, 1) := dc_of dtX1_readTests_0_0_ok (i := 15) rfl
theorem dX1_readTests_28 : decode cX1_readTests 28 = .ok (.aload_n 0, 1) := dc_of dtX1_readTests_0_0_ok (i := 16) rfl
theorem dX1_readTests_29 : decode cX1_readTests 29 = .ok (.invokevirtual 75, 3) := dc_of dtX1_readTests_0_0_ok (i := 17) rfl
theorem dX1_readTests_32 : decode cX1_readTests 32 = .ok (.iinc 1 1, 3) := dc_of dtX1_readTests_0_0_ok (i := 18) rfl
theorem dX1_readTests_35 : decode cX1_readTests 35 = .ok (.goto (-33), 3) := dc_of dtX1_readTests_0_0_ok (i := 19) rfl
theorem dX1_readTests_38 : decode cX1_readTests 38 = .ok (.iconst 4, 1) := dc_of dtX1_readTests_0_0_ok (i := 20) rfl
theorem dX1_readTests_39 : decode cX1_readTests 39 = .ok (.ireturn, 1) := dc_of dtX1_readTests_0_0_ok (i := 21) rfl
set_option maxRecDepth 20000 in
theorem gw_wsX1_seeColumn : wsX1_seeColumn.all goodWord = true := by decide +kernel
set_option maxRecDepth 20000 in
theorem ggX1_readTest_X1_seeColumn : GoodIn wsX1_readTest wsX1_seeColumn := goodIn_r _ [12, 4, 5, 6, 13, 14, 15, 11, 16, 7, 29, 30, 31, 32, 48, 49, 50, 51, 52] rfl gw_wsX1_seeColumn
set_option maxRecDepth 20000 in
theorem gX1_readTest_X1_seeColumn : GoodIn wsX1_readTest (wsV RX1 173 RX1 yX1_seeColumn wsX1_seeColumn) := goodIn_app (goodIn_of _ (by decide +kernel)) ggX1_readTest_X1_seeColumn
set_option maxRecDepth 20000 in
theorem ggX1_readTest_X1_step : GoodIn wsX1_readTest wsX1_step := goodIn_r _ [20, 6, 4, 21, 29, 30, 31, 32, 48, 49, 50, 51, 52] rfl gw_wsX1_step
set_option maxRecDepth 20000 in
theorem gX1_readTest_X1_step : GoodIn wsX1_readTest (wsV RX1 75 RX1 yX1_step wsX1_step) := goodIn_app (goodIn_of _ (by decide +kernel)) ggX1_readTest_X1_step
set_option maxRecDepth 20000 in
theorem ggX1_readTest_X1_isKind : GoodIn wsX1_readTest wsX1_isKind := goodIn_r _ [16, 4, 7, 6, 29, 30, 31, 32, 48, 49, 50, 51, 52] rfl gw_wsX1_isKind
set_option maxRecDepth 20000 in
theorem gX1_readTest_X1_isKind : GoodIn wsX1_readTest (wsV RX1 67 RX1 yX1_isKind wsX1_isKind) := goodIn_app (goodIn_of _ (by decide +kernel)) ggX1_readTest_X1_isKind
set_option maxRecDepth 20000 in
theorem gw_wsX0_addTest : wsX0_addTest.all goodWord = true := by decide +kernel
set_option maxRecDepth 20000 in
theorem ggX1_readTest_X0_addTest : GoodIn wsX1_readTest wsX0_addTest := goodIn_r _ [26, 27, 28, 33, 34, 35, 36, 37, 38, 39, 40, 41, 42, 43, 44, 45, 46, 47] rfl gw_wsX0_addTest
set_option maxRecDepth 20000 in
theorem gX1_readTest_X0_addTest : GoodIn wsX1_readTest (wsV RX1 176 RX0 yX0_addTest wsX0_addTest) := goodIn_app (goodIn_of _ (by decide +kernel)) ggX1_readTest_X0_addTest
def dtX1_readTest_0_0 : List (Nat × Instr × Nat) := [(0, .aload_n 0, 1), (1, .aload_n 0, 1), (2, .getfield 29, 3), (5, .getfield 143, 3), (8, .invokevirtual 173, 3), (11, .istore_n 1, 1), (12, .iload_n 1, 1), (13, .ifCond .eq 5, 3), (16, .iload_n 1, 1), (17, .ireturn, 1), (18, .aload_n 0, 1), (19, .getfield 29, 3), (22, .getfield 149, 3), (25, .bipush 8, 2), (27, .if_icmp .lt 5, 3), (30, .iconst 4, 1), (31, .ireturn, 1), (32, .aload_n 0, 1), (33, .getfield 12, 3), (36, .getfield 71, 3), (39, .aload_n 0, 1), (40, .getfield 44, 3), (43, .iaload, 1), (44, .istore_n 2, 1), (45, .aload_n 0, 1), (46, .invokevirtual 75, 3), (49, .aload_n 0, 1), (50, .getfield 12, 3), (53, .getfield 47, 3), (56, .aload_n 0, 1), (57, .getfield 44, 3), (60, .iaload, 1)]
theorem dtX1_readTest_0_0_ok : dcAll cX1_readTest dtX1_readTest_0_0 = true := by decide +kernel
theorem dX1_readTest_0 : decode cX1_readTest 0 = .ok (.aload_n 0, 1) := dc_of dtX1_readTest_0_0_ok (i := 0) rfl
theorem dX1_readTest_1 : decode cX1_readTest 1 = .ok (.aload_n 0, 1) := dc_of dtX1_readTest_0_0_ok (i := 1) rfl
theorem dX1_readTest_2 : decode cX1_readTest 2 = .ok (.getfield 29, 3) := dc_of dtX1_readTest_0_0_ok (i := 2) rfl
theorem dX1_readTest_5 : decode cX1_readTest 5 = .ok (.getfield 143, 3) := dc_of dtX1_readTest_0_0_ok (i := 3) rfl
theorem dX1_readTest_8 : decode cX1_readTest 8 = .ok (.invokevirtual 173, 3) := dc_of dtX1_readTest_0_0_ok (i := 4) rfl
theorem dX1_readTest_11 : decode cX1_readTest 11 = .ok (.istore_n 1, 1) := dc_of dtX1_readTest_0_0_ok (i := 5) rfl
theorem dX1_readTest_12 : decode cX1_readTest 12 = .ok (.iload_n 1, 1) := dc_of dtX1_readTest_0_0_ok (i := 6) rfl
theorem dX1_readTest_13 : decode cX1_readTest 13 = .ok (.ifCond .eq 5, 3) := dc_of dtX1_readTest_0_0_ok (i := 7) rfl
theorem dX1_readTest_16 : decode cX1_readTest 16 = .ok (.iload_n 1, 1) := dc_of dtX1_readTest_0_0_ok (i := 8) rfl
theorem dX1_readTest_17 : decode cX1_readTest 17 = .ok (.ireturn, 1) := dc_of dtX1_readTest_0_0_ok (i := 9) rfl
theorem dX1_readTest_18 : decode cX1_readTest 18 = .ok (.aload_n 0, 1) := dc_of dtX1_readTest_0_0_ok (i := 10) rfl
theorem dX1_readTest_19 : decode cX1_readTest 19 = .ok (.getfield 29, 3) := dc_of dtX1_readTest_0_0_ok (i := 11) rfl
theorem dX1_readTest_22 : decode cX1_readTest 22 = .ok (.getfield 149, 3) := dc_of dtX1_readTest_0_0_ok (i := 12) rfl
theorem dX1_readTest_25 : decode cX1_readTest 25 = .ok (.bipush 8, 2) := dc_of dtX1_readTest_0_0_ok (i := 13) rfl
theorem dX1_readTest_27 : decode cX1_readTest 27 = .ok (.if_icmp .lt 5, 3) := dc_of dtX1_readTest_0_0_ok (i := 14) rfl
theorem dX1_readTest_30 : decode cX1_readTest 30 = .ok (.iconst 4, 1) := dc_of dtX1_readTest_0_0_ok (i := 15) rfl
theorem dX1_readTest_31 : decode cX1_readTest 31 = .ok (.ireturn, 1) := dc_of dtX1_readTest_0_0_ok (i := 16) rfl
theorem dX1_readTest_32 : decode cX1_readTest 32 = .ok (.aload_n 0, 1) := dc_of dtX1_readTest_0_0_ok (i := 17) rfl
theorem dX1_readTest_33 : decode cX1_readTest 33 = .ok (.getfield 12, 3) := dc_of dtX1_readTest_0_0_ok (i := 18) rfl
theorem dX1_readTest_36 : decode cX1_readTest 36 = .ok (.getfield 71, 3) := dc_of dtX1_readTest_0_0_ok (i := 19) rfl
theorem dX1_readTest_39 : decode cX1_readTest 39 = .ok (.aload_n 0, 1) := dc_of dtX1_readTest_0_0_ok (i := 20) rfl
theorem dX1_readTest_40 : decode cX1_readTest 40 = .ok (.getfield 44, 3) := dc_of dtX1_readTest_0_0_ok (i := 21) rfl
theorem dX1_readTest_43 : decode cX1_readTest 43 = .ok (.iaload, 1) := dc_of dtX1_readTest_0_0_ok (i := 22) rfl
theorem dX1_readTest_44 : decode cX1_readTest 44 = .ok (.istore_n 2, 1) := dc_of dtX1_readTest_0_0_ok (i := 23) rfl
theorem dX1_readTest_45 : decode cX1_readTest 45 = .ok (.aload_n 0, 1) := dc_of dtX1_readTest_0_0_ok (i := 24) rfl
theorem dX1_readTest_46 : decode cX1_readTest 46 = .ok (.invokevirtual 75, 3) := dc_of dtX1_readTest_0_0_ok (i := 25) rfl
theorem dX1_readTest_49 : decode cX1_readTest 49 = .ok (.aload_n 0, 1) := dc_of dtX1_readTest_0_0_ok (i := 26) rfl
theorem dX1_readTest_50 : decode cX1_readTest 50 = .ok (.getfield 12, 3) := dc_of dtX1_readTest_0_0_ok (i := 27) rfl
theorem dX1_readTest_53 : decode cX1_readTest 53 = .ok (.getfield 47, 3) := dc_of dtX1_readTest_0_0_ok (i := 28) rfl
theorem dX1_readTest_56 : decode cX1_readTest 56 = .ok (.aload_n 0, 1) := dc_of dtX1_readTest_0_0_ok (i := 29) rfl
theorem dX1_readTest_57 : decode cX1_readTest 57 = .ok (.getfield 44, 3) := dc_of dtX1_readTest_0_0_ok (i := 30) rfl
theorem dX1_readTest_60 : decode cX1_readTest 60 = .ok (.iaload, 1) := dc_of dtX1_readTest_0_0_ok (i := 31) rfl
def dtX1_readTest_61_1 : List (Nat × Instr × Nat) := [(61, .istore_n 3, 1), (62, .iload_n 3, 1), (63, .bipush 61, 2), (65, .if_icmp .eq 17, 3), (68, .iload_n 3, 1), (69, .bipush 60, 2), (71, .if_icmp .eq 11, 3), (74, .iload_n 3, 1), (75, .bipush 62, 2), (77, .if_icmp .eq 5, 3), (80, .iconst 1, 1), (81, .ireturn, 1), (82, .aload_n 0, 1), (83, .invokevirtual 75, 3), (86, .aload_n 0, 1), (87, .iconst 4, 1), (88, .invokevirtual 67, 3), (91, .istore 4, 2), (93, .iload 4, 2), (95, .ifCond .eq 7, 3), (98, .iconst 0, 1), (99, .goto 14, 3), (102, .aload_n 0, 1), (103, .aload_n 0, 1), (104, .getfield 29, 3), (107, .getfield 143, 3), (110, .invokevirtual 173, 3), (113, .istore_n 1, 1), (114, .iload_n 1, 1), (115, .ifCond .eq 5, 3), (118, .iload_n 1, 1), (119, .ireturn, 1)]
theorem dtX1_readTest_61_1_ok : dcAll cX1_readTest dtX1_readTest_61_1 = true := by decide +kernel
theorem dX1_readTest_61 : decode cX1_readTest 61 = .ok (.istore_n 3, 1) := dc_of dtX1_readTest_61_1_ok (i := 0) rfl
theorem dX1_readTest_62 : decode cX1_readTest 62 = .ok (.iload_n 3, 1) := dc_of dtX1_readTest_61_1_ok (i := 1) rfl
theorem dX1_readTest_63 : decode cX1_readTest 63 = .ok (.bipush 61, 2) := dc_of dtX1_readTest_61_1_ok (i := 2) rfl
theorem dX1_readTest_65 : decode cX1_readTest 65 = .ok (.if_icmp .eq 17, 3) := dc_of dtX1_readTest_61_1_ok (i := 3) rfl
theorem dX1_readTest_68 : decode cX1_readTest 68 = .ok (.iload_n 3, 1) := dc_of dtX1_readTest_61_1_ok (i := 4) rfl
theorem dX1_readTest_69 : decode cX1_readTest 69 = .ok (.bipush 60, 2) := dc_of dtX1_readTest_61_1_ok (i := 5) rfl
theorem dX1_readTest_71 : decode cX1_readTest 71 = .ok (.if_icmp .eq 11, 3) := dc_of dtX1_readTest_61_1_ok (i := 6) rfl
theorem dX1_readTest_74 : decode cX1_readTest 74 = .ok (.iload_n 3, 1) := dc_of dtX1_readTest_61_1_ok (i := 7) rfl
theorem dX1_readTest_75 : decode cX1_readTest 75 = .ok (.bipush 62, 2) := dc_of dtX1_readTest_61_1_ok (i := 8) rfl
theorem dX1_readTest_77 : decode cX1_readTest 77 = .ok (.if_icmp .eq 5, 3) := dc_of dtX1_readTest_61_1_ok (i := 9) rfl
theorem dX1_readTest_80 : decode cX1_readTest 80 = .ok (.iconst 1, 1) := dc_of dtX1_readTest_61_1_ok (i := 10) rfl
theorem dX1_readTest_81 : decode cX1_readTest 81 = .ok (.ireturn, 1) := dc_of dtX1_readTest_61_1_ok (i := 11) rfl
theorem dX1_readTest_82 : decode cX1_readTest 82 = .ok (.aload_n 0, 1) := dc_of dtX1_readTest_61_1_ok (i := 12) rfl
theorem dX1_readTest_83 : decode cX1_readTest 83 = .ok (.invokevirtual 75, 3) := dc_of dtX1_readTest_61_1_ok (i := 13) rfl
theorem dX1_readTest_86 : decode cX1_readTest 86 = .ok (.aload_n 0, 1) := dc_of dtX1_readTest_61_1_ok (i := 14) rfl
theorem dX1_readTest_87 : decode cX1_readTest 87 = .ok (.iconst 4, 1) := dc_of dtX1_readTest_61_1_ok (i := 15) rfl
theorem dX1_readTest_88 : decode cX1_readTest 88 = .ok (.invokevirtual 67, 3) := dc_of dtX1_readTest_61_1_ok (i := 16) rfl
theorem dX1_readTest_91 : decode cX1_readTest 91 = .ok (.istore 4, 2) := dc_of dtX1_readTest_61_1_ok (i := 17) rfl
theorem dX1_readTest_93 : decode cX1_readTest 93 = .ok (.iload 4, 2) := dc_of dtX1_readTest_61_1_ok (i := 18) rfl
theorem dX1_readTest_95 : decode cX1_readTest 95 = .ok (.ifCond .eq 7, 3) := dc_of dtX1_readTest_61_1_ok (i := 19) rfl
theorem dX1_readTest_98 : decode cX1_readTest 98 = .ok (.iconst 0, 1) := dc_of dtX1_readTest_61_1_ok (i := 20) rfl
theorem dX1_readTest_99 : decode cX1_readTest 99 = .ok (.goto 14, 3) := dc_of dtX1_readTest_61_1_ok (i := 21) rfl
theorem dX1_readTest_102 : decode cX1_readTest 102 = .ok (.aload_n 0, 1) := dc_of dtX1_readTest_61_1_ok (i := 22) rfl
theorem dX1_readTest_103 : decode cX1_readTest 103 = .ok (.aload_n 0, 1) := dc_of dtX1_readTest_61_1_ok (i := 23) rfl
theorem dX1_readTest_104 : decode cX1_readTest 104 = .ok (.getfield 29, 3) := dc_of dtX1_readTest_61_1_ok (i := 24) rfl
theorem dX1_readTest_107 : decode cX1_readTest 107 = .ok (.getfield 143, 3) := dc_of dtX1_readTest_61_1_ok (i := 25) rfl
theorem dX1_readTest_110 : decode cX1_readTest 110 = .ok (.invokevirtual 173, 3) := dc_of dtX1_readTest_61_1_ok (i := 26) rfl
theorem dX1_readTest_113 : decode cX1_readTest 113 = .ok (.istore_n 1, 1) := dc_of dtX1_readTest_61_1_ok (i := 27) rfl
theorem dX1_readTest_114 : decode cX1_readTest 114 = .ok (.iload_n 1, 1) := dc_of dtX1_readTest_61_1_ok (i := 28) rfl
theorem dX1_readTest_115 : decode cX1_readTest 115 = .ok (.ifCond .eq 5, 3) := dc_of dtX1_readTest_61_1_ok (i := 29) rfl
theorem dX1_readTest_118 : decode cX1_readTest 118 = .ok (.iload_n 1, 1) := dc_of dtX1_readTest_61_1_ok (i := 30) rfl
theorem dX1_readTest_119 : decode cX1_readTest 119 = .ok (.ireturn, 1) := dc_of dtX1_readTest_61_1_ok (i := 31) rfl
def dtX1_readTest_120_2 : List (Nat × Instr × Nat) := [(120, .aload_n 0, 1), (121, .getfield 12, 3), (124, .getfield 71, 3), (127, .aload_n 0, 1), (128, .getfield 44, 3), (131, .iaload, 1), (132, .istore 5, 2), (134, .aload_n 0, 1), (135, .getfield 29, 3), (138, .iload_n 2, 1), (139, .iload_n 3, 1), (140, .iload 4, 2), (142, .ifCond .eq 7, 3), (145, .iconst (-1), 1), (146, .goto 5, 3), (149, .iload 5, 2), (151, .iload 5, 2), (153, .invokevirtual 176, 3), (156, .aload_n 0, 1), (157, .invokevirtual 75, 3), (160, .iconst 0, 1), (161, .ireturn, 1)]
theorem dtX1_readTest_120_2_ok : dcAll cX1_readTest dtX1_readTest_120_2 = true := by decide +kernel
theorem dX1_readTest_120 : decode cX1_readTest 120 = .ok (.aload_n 0, 1) := dc_of dtX1_readTest_120_2_ok (i := 0) rfl
theorem dX1_readTest_121 : decode cX1_readTest 121 = .ok (.getfield 12, 3) := dc_of dtX1_readTest_120_2_ok (i := 1) rfl
theorem dX1_readTest_124 : decode cX1_readTest 124 = .ok (.getfield 71, 3) := dc_of dtX1_readTest_120_2_ok (i := 2) rfl
theorem dX1_readTest_127 : decode cX1_readTest 127 = .ok (.aload_n 0, 1) := dc_of dtX1_readTest_120_2_ok (i := 3) rfl
theorem dX1_readTest_128 : decode cX1_readTest 128 = .ok (.getfield 44, 3) := dc_of dtX1_readTest_120_2_ok (i := 4) rfl
theorem dX1_readTest_131 : decode cX1_readTest 131 = .ok (.iaload, 1) := dc_of dtX1_readTest_120_2_ok (i := 5) rfl
theorem dX1_readTest_132 : decode cX1_readTest 132 = .ok (.istore 5, 2) := dc_of dtX1_readTest_120_2_ok (i := 6) rfl
theorem dX1_readTest_134 : decode cX1_readTest 134 = .ok (.aload_n 0, 1) := dc_of dtX1_readTest_120_2_ok (i := 7) rfl
theorem dX1_readTest_135 : decode cX1_readTest 135 = .ok (.getfield 29, 3) := dc_of dtX1_readTest_120_2_ok (i := 8) rfl
theorem dX1_readTest_138 : decode cX1_readTest 138 = .ok (.iload_n 2, 1) := dc_of dtX1_readTest_120_2_ok (i := 9) rfl
theorem dX1_readTest_139 : decode cX1_readTest 139 = .ok (.iload_n 3, 1) := dc_of dtX1_readTest_120_2_ok (i := 10) rfl
theorem dX1_readTest_140 : decode cX1_readTest 140 = .ok (.iload 4, 2) := dc_of dtX1_readTest_120_2_ok (i := 11) rfl
theorem dX1_readTest_142 : decode cX1_readTest 142 = .ok (.ifCond .eq 7, 3) := dc_of dtX1_readTest_120_2_ok (i := 12) rfl
theorem dX1_readTest_145 : decode cX1_readTest 145 = .ok (.iconst (-1), 1) := dc_of dtX1_readTest_120_2_ok (i := 13) rfl
theorem dX1_readTest_146 : decode cX1_readTest 146 = .ok (.goto 5, 3) := dc_of dtX1_readTest_120_2_ok (i := 14) rfl
theorem dX1_readTest_149 : decode cX1_readTest 149 = .ok (.iload 5, 2) := dc_of dtX1_readTest_120_2_ok (i := 15) rfl
theorem dX1_readTest_151 : decode cX1_readTest 151 = .ok (.iload 5, 2) := dc_of dtX1_readTest_120_2_ok (i := 16) rfl
theorem dX1_readTest_153 : decode cX1_readTest 153 = .ok (.invokevirtual 176, 3) := dc_of dtX1_readTest_120_2_ok (i := 17) rfl
theorem dX1_readTest_156 : decode cX1_readTest 156 = .ok (.aload_n 0, 1) := dc_of dtX1_readTest_120_2_ok (i := 18) rfl
theorem dX1_readTest_157 : decode cX1_readTest 157 = .ok (.invokevirtual 75, 3) := dc_of dtX1_readTest_120_2_ok (i := 19) rfl
theorem dX1_readTest_160 : decode cX1_readTest 160 = .ok (.iconst 0, 1) := dc_of dtX1_readTest_120_2_ok (i := 20) rfl
theorem dX1_readTest_161 : decode cX1_readTest 161 = .ok (.ireturn, 1) := dc_of dtX1_readTest_120_2_ok (i := 21) rfl
set_option maxRecDepth 20000 in
theorem ggX1_readProject_X1_readFirst : GoodIn wsX1_readProject wsX1_readFirst := goodIn_r _ [9, 1, 10, 11, 12, 13, 14, 15, 4, 2, 16, 17, 18, 8, 19, 20, 21, 22, 23, 24, 25, 26, 27, 28, 29, 30, 31, 32, 33, 34, 35, 36, 37, 38, 39, 40, 41, 42, 62, 63, 64, 65, 81, 82, 83, 84, 85, 66, 67, 68, 69, 70, 71, 72, 73, 74, 75, 76, 77, 78, 79, 80, 86, 87, 88] rfl gw_wsX1_readFirst
set_option maxRecDepth 20000 in
theorem gX1_readProject_X1_readFirst : GoodIn wsX1_readProject (wsV RX1 161 RX1 yX1_readFirst wsX1_readFirst) := goodIn_app (goodIn_of _ (by decide +kernel)) ggX1_readProject_X1_readFirst
set_option maxRecDepth 20000 in
theorem gw_wsX1_readTerms : wsX1_readTerms.all goodWord = true := by decide +kernel
set_option maxRecDepth 20000 in
theorem ggX1_readProject_X1_readTerms : GoodIn wsX1_readProject wsX1_readTerms := goodIn_r _ [46, 47, 48, 49, 8, 50, 1, 3, 11, 24, 13, 29, 25, 26, 27, 28, 51, 52, 53, 54, 38, 39, 40, 41, 42, 55, 56, 57, 58, 59, 60, 61, 62, 63, 64, 65, 66, 67, 68, 69, 70, 71, 72, 73, 74, 75, 76, 77, 78, 79, 80, 81, 82, 83, 84, 85] rfl gw_wsX1_readTerms
set_option maxRecDepth 20000 in
theorem gX1_readProject_X1_readTerms : GoodIn wsX1_readProject (wsV RX1 180 RX1 yX1_readTerms wsX1_readTerms) := goodIn_app (goodIn_of _ (by decide +kernel)) ggX1_readProject_X1_readTerms
def dtX1_readProject_0_0 : List (Nat × Instr × Nat) := [(0, .aload_n 0, 1), (1, .invokevirtual 161, 3), (4, .istore_n 1, 1), (5, .iload_n 1, 1), (6, .ifCond .ne 15, 3), (9, .aload_n 0, 1), (10, .aload_n 0, 1), (11, .getfield 29, 3), (14, .getfield 143, 3), (17, .invokevirtual 180, 3), (20, .istore_n 1, 1), (21, .aload_n 0, 1), (22, .getfield 29, 3), (25, .aload_n 0, 1), (26, .getfield 29, 3), (29, .getfield 149, 3), (32, .putfield 136, 3), (35, .iload_n 1, 1), (36, .ireturn, 1)]
theorem dtX1_readProject_0_0_ok : dcAll cX1_readProject dtX1_readProject_0_0 = true := by decide +kernel
theorem dX1_readProject_0 : decode cX1_readProject 0 = .ok (.aload_n 0, 1) := dc_of dtX1_readProject_0_0_ok (i := 0) rfl
theorem dX1_readProject_1 : decode cX1_readProject 1 = .ok (.invokevirtual 161, 3) := dc_of dtX1_readProject_0_0_ok (i := 1) rfl
theorem dX1_readProject_4 : decode cX1_readProject 4 = .ok (.istore_n 1, 1) := dc_of dtX1_readProject_0_0_ok (i := 2) rfl
theorem dX1_readProject_5 : decode cX1_readProject 5 = .ok (.iload_n 1, 1) := dc_of dtX1_readProject_0_0_ok (i := 3) rfl
theorem dX1_readProject_6 : decode cX1_readProject 6 = .ok (.ifCond .ne 15, 3) := dc_of dtX1_readProject_0_0_ok (i := 4) rfl
theorem dX1_readProject_9 : decode cX1_readProject 9 = .ok (.aload_n 0, 1) := dc_of dtX1_readProject_0_0_ok (i := 5) rfl
theorem dX1_readProject_10 : decode cX1_readProject 10 = .ok (.aload_n 0, 1) := dc_of dtX1_readProject_0_0_ok (i := 6) rfl
theorem dX1_readProject_11 : decode cX1_readProject 11 = .ok (.getfield 29, 3) := dc_of dtX1_readProject_0_0_ok (i := 7) rfl
theorem dX1_readProject_14 : decode cX1_readProject 14 = .ok (.getfield 143, 3) := dc_of dtX1_readProject_0_0_ok (i := 8) rfl
theorem dX1_readProject_17 : decode cX1_readProject 17 = .ok (.invokevirtual 180, 3) := dc_of dtX1_readProject_0_0_ok (i := 9) rfl
theorem dX1_readProject_20 : decode cX1_readProject 20 = .ok (.istore_n 1, 1) := dc_of dtX1_readProject_0_0_ok (i := 10) rfl
theorem dX1_readProject_21 : decode cX1_readProject 21 = .ok (.aload_n 0, 1) := dc_of dtX1_readProject_0_0_ok (i := 11) rfl
theorem dX1_readProject_22 : decode cX1_readProject 22 = .ok (.getfield 29, 3) := dc_of dtX1_readProject_0_0_ok (i := 12) rfl
theorem dX1_readProject_25 : decode cX1_readProject 25 = .ok (.aload_n 0, 1) := dc_of dtX1_readProject_0_0_ok (i := 13) rfl
theorem dX1_readProject_26 : decode cX1_readProject 26 = .ok (.getfield 29, 3) := dc_of dtX1_readProject_0_0_ok (i := 14) rfl
theorem dX1_readProject_29 : decode cX1_readProject 29 = .ok (.getfield 149, 3) := dc_of dtX1_readProject_0_0_ok (i := 15) rfl
theorem dX1_readProject_32 : decode cX1_readProject 32 = .ok (.putfield 136, 3) := dc_of dtX1_readProject_0_0_ok (i := 16) rfl
theorem dX1_readProject_35 : decode cX1_readProject 35 = .ok (.iload_n 1, 1) := dc_of dtX1_readProject_0_0_ok (i := 17) rfl
theorem dX1_readProject_36 : decode cX1_readProject 36 = .ok (.ireturn, 1) := dc_of dtX1_readProject_0_0_ok (i := 18) rfl
set_option maxRecDepth 20000 in
theorem gw_wsX1_readTerm : wsX1_readTerm.all goodWord = true := by decide +kernel
set_option maxRecDepth 20000 in
theorem ggX1_readTerms_X1_readTerm : GoodIn wsX1_readTerms wsX1_readTerm := goodIn_r _ [5, 6, 7, 8, 9, 10, 11, 12, 13, 14, 4, 15, 16, 17, 18, 19, 20, 21, 22, 23, 24, 25, 26, 27, 28, 29, 30, 31, 32, 33, 34, 35, 36, 37, 38, 39, 40, 41, 42, 43, 44, 45, 46, 47, 48, 49, 50, 51, 52, 53, 54, 55] rfl gw_wsX1_readTerm
set_option maxRecDepth 20000 in
theorem gX1_readTerms_X1_readTerm : GoodIn wsX1_readTerms (wsV RX1 183 RX1 yX1_readTerm wsX1_readTerm) := goodIn_app (goodIn_of _ (by decide +kernel)) ggX1_readTerms_X1_readTerm
set_option maxRecDepth 20000 in
theorem ggX1_readTerms_X1_isKind : GoodIn wsX1_readTerms wsX1_isKind := goodIn_r _ [15, 8, 11, 10, 32, 33, 34, 35, 51, 52, 53, 54, 55] rfl gw_wsX1_isKind
set_option maxRecDepth 20000 in
theorem gX1_readTerms_X1_isKind : GoodIn wsX1_readTerms (wsV RX1 67 RX1 yX1_isKind wsX1_isKind) := goodIn_app (goodIn_of _ (by decide +kernel)) ggX1_readTerms_X1_isKind
set_option maxRecDepth 20000 in
theorem ggX1_readTerms_X1_step : GoodIn wsX1_readTerms wsX1_step := goodIn_r _ [23, 10, 8, 24, 32, 33, 34, 35, 51, 52, 53, 54, 55] rfl gw_wsX1_step
set_option maxRecDepth 20000 in
theorem gX1_readTerms_X1_step : GoodIn wsX1_readTerms (wsV RX1 75 RX1 yX1_step wsX1_step) := goodIn_app (goodIn_of _ (by decide +kernel)) ggX1_readTerms_X1_step
def dtX1_readTerms_0_0 : List (Nat × Instr × Nat) := [(0, .iconst 0, 1), (1, .istore_n 2, 1), (2, .iload_n 2, 1), (3, .iconst 4, 1), (4, .if_icmp .gt 34, 3), (7, .aload_n 0, 1), (8, .iload_n 1, 1), (9, .invokevirtual 183, 3), (12, .istore_n 3, 1), (13, .iload_n 3, 1), (14, .ifCond .ne 12, 3), (17, .aload_n 0, 1), (18, .bipush 44, 2), (20, .invokevirtual 67, 3), (23, .ifCond .ne 5, 3), (26, .iload_n 3, 1), (27, .ireturn, 1), (28, .aload_n 0, 1), (29, .invokevirtual 75, 3), (32, .iinc 2 1, 3), (35, .goto (-33), 3), (38, .iconst 4, 1), (39, .ireturn, 1)]
theorem dtX1_readTerms_0_0_ok : dcAll cX1_readTerms dtX1_readTerms_0_0 = true := by decide +kernel
theorem dX1_readTerms_0 : decode cX1_readTerms 0 = .ok (.iconst 0, 1) := dc_of dtX1_readTerms_0_0_ok (i := 0) rfl
theorem dX1_readTerms_1 : decode cX1_readTerms 1 = .ok (.istore_n 2, 1) := dc_of dtX1_readTerms_0_0_ok (i := 1) rfl
theorem dX1_readTerms_2 : decode cX1_readTerms 2 = .ok (.iload_n 2, 1) := dc_of dtX1_readTerms_0_0_ok (i := 2) rfl
theorem dX1_readTerms_3 : decode cX1_readTerms 3 = .ok (.iconst 4, 1) := dc_of dtX1_readTerms_0_0_ok (i := 3) rfl
theorem dX1_readTerms_4 : decode cX1_readTerms 4 = .ok (.if_icmp .gt 34, 3) := dc_of dtX1_readTerms_0_0_ok (i := 4) rfl
theorem dX1_readTerms_7 : decode cX1_readTerms 7 = .ok (.aload_n 0, 1) := dc_of dtX1_readTerms_0_0_ok (i := 5) rfl
theorem dX1_readTerms_8 : decode cX1_readTerms 8 = .ok (.iload_n 1, 1) := dc_of dtX1_readTerms_0_0_ok (i := 6) rfl
theorem dX1_readTerms_9 : decode cX1_readTerms 9 = .ok (.invokevirtual 183, 3) := dc_of dtX1_readTerms_0_0_ok (i := 7) rfl
theorem dX1_readTerms_12 : decode cX1_readTerms 12 = .ok (.istore_n 3, 1) := dc_of dtX1_readTerms_0_0_ok (i := 8) rfl
theorem dX1_readTerms_13 : decode cX1_readTerms 13 = .ok (.iload_n 3, 1) := dc_of dtX1_readTerms_0_0_ok (i := 9) rfl
theorem dX1_readTerms_14 : decode cX1_readTerms 14 = .ok (.ifCond .ne 12, 3) := dc_of dtX1_readTerms_0_0_ok (i := 10) rfl
theorem dX1_readTerms_17 : decode cX1_readTerms 17 = .ok (.aload_n 0, 1) := dc_of dtX1_readTerms_0_0_ok (i := 11) rfl
theorem dX1_readTerms_18 : decode cX1_readTerms 18 = .ok (.bipush 44, 2) := dc_of dtX1_readTerms_0_0_ok (i := 12) rfl
theorem dX1_readTerms_20 : decode cX1_readTerms 20 = .ok (.invokevirtual 67, 3) := dc_of dtX1_readTerms_0_0_ok (i := 13) rfl
theorem dX1_readTerms_23 : decode cX1_readTerms 23 = .ok (.ifCond .ne 5, 3) := dc_of dtX1_readTerms_0_0_ok (i := 14) rfl
theorem dX1_readTerms_26 : decode cX1_readTerms 26 = .ok (.iload_n 3, 1) := dc_of dtX1_readTerms_0_0_ok (i := 15) rfl
theorem dX1_readTerms_27 : decode cX1_readTerms 27 = .ok (.ireturn, 1) := dc_of dtX1_readTerms_0_0_ok (i := 16) rfl
theorem dX1_readTerms_28 : decode cX1_readTerms 28 = .ok (.aload_n 0, 1) := dc_of dtX1_readTerms_0_0_ok (i := 17) rfl
theorem dX1_readTerms_29 : decode cX1_readTerms 29 = .ok (.invokevirtual 75, 3) := dc_of dtX1_readTerms_0_0_ok (i := 18) rfl
theorem dX1_readTerms_32 : decode cX1_readTerms 32 = .ok (.iinc 2 1, 3) := dc_of dtX1_readTerms_0_0_ok (i := 19) rfl
theorem dX1_readTerms_35 : decode cX1_readTerms 35 = .ok (.goto (-33), 3) := dc_of dtX1_readTerms_0_0_ok (i := 20) rfl
theorem dX1_readTerms_38 : decode cX1_readTerms 38 = .ok (.iconst 4, 1) := dc_of dtX1_readTerms_0_0_ok (i := 21) rfl
theorem dX1_readTerms_39 : decode cX1_readTerms 39 = .ok (.ireturn, 1) := dc_of dtX1_readTerms_0_0_ok (i := 22) rfl
set_option maxRecDepth 20000 in
theorem ggX1_readTerm_X1_isKind : GoodIn wsX1_readTerm wsX1_isKind := goodIn_r _ [11, 3, 6, 5, 28, 29, 30, 31, 47, 48, 49, 50, 51] rfl gw_wsX1_isKind
set_option maxRecDepth 20000 in
theorem gX1_readTerm_X1_isKind : GoodIn wsX1_readTerm (wsV RX1 67 RX1 yX1_isKind wsX1_isKind) := goodIn_app (goodIn_of _ (by decide +kernel)) ggX1_readTerm_X1_isKind
set_option maxRecDepth 20000 in
theorem ggX1_readTerm_X1_seeColumn : GoodIn wsX1_readTerm wsX1_seeColumn := goodIn_r _ [15, 3, 4, 5, 7, 8, 9, 10, 11, 6, 28, 29, 30, 31, 47, 48, 49, 50, 51] rfl gw_wsX1_seeColumn
set_option maxRecDepth 20000 in
theorem gX1_readTerm_X1_seeColumn : GoodIn wsX1_readTerm (wsV RX1 173 RX1 yX1_seeColumn wsX1_seeColumn) := goodIn_app (goodIn_of _ (by decide +kernel)) ggX1_readTerm_X1_seeColumn
set_option maxRecDepth 20000 in
theorem ggX1_readTerm_X1_step : GoodIn wsX1_readTerm wsX1_step := goodIn_r _ [19, 5, 3, 20, 28, 29, 30, 31, 47, 48, 49, 50, 51] rfl gw_wsX1_step
set_option maxRecDepth 20000 in
theorem gX1_readTerm_X1_step : GoodIn wsX1_readTerm (wsV RX1 75 RX1 yX1_step wsX1_step) := goodIn_app (goodIn_of _ (by decide +kernel)) ggX1_readTerm_X1_step
set_option maxRecDepth 20000 in
theorem gw_wsX0_addTwo : wsX0_addTwo.all goodWord = true := by decide +kernel
set_option maxRecDepth 20000 in
theorem ggX1_readTerm_X0_addTwo : GoodIn wsX1_readTerm wsX0_addTwo := goodIn_r _ [25, 26, 27, 32, 33, 34, 35, 36, 37, 38, 39, 40, 41, 42, 43, 44, 45, 46] rfl gw_wsX0_addTwo
set_option maxRecDepth 20000 in
theorem gX1_readTerm_X0_addTwo : GoodIn wsX1_readTerm (wsV RX1 186 RX0 yX0_addTwo wsX0_addTwo) := goodIn_app (goodIn_of _ (by decide +kernel)) ggX1_readTerm_X0_addTwo
def dtX1_readTerm_0_0 : List (Nat × Instr × Nat) := [(0, .aload_n 0, 1), (1, .iconst 4, 1), (2, .invokevirtual 67, 3), (5, .istore_n 2, 1), (6, .iload_n 2, 1), (7, .ifCond .eq 7, 3), (10, .iconst 0, 1), (11, .goto 8, 3), (14, .aload_n 0, 1), (15, .iload_n 1, 1), (16, .invokevirtual 173, 3), (19, .istore_n 3, 1), (20, .iload_n 3, 1), (21, .ifCond .eq 5, 3), (24, .iload_n 3, 1), (25, .ireturn, 1), (26, .aload_n 0, 1), (27, .getfield 29, 3), (30, .getfield 149, 3), (33, .iconst 4, 1), (34, .if_icmp .lt 5, 3), (37, .iconst 4, 1), (38, .ireturn, 1), (39, .aload_n 0, 1), (40, .getfield 12, 3), (43, .getfield 71, 3), (46, .aload_n 0, 1), (47, .getfield 44, 3), (50, .iaload, 1), (51, .istore 4, 2), (53, .aload_n 0, 1), (54, .invokevirtual 75, 3)]
theorem dtX1_readTerm_0_0_ok : dcAll cX1_readTerm dtX1_readTerm_0_0 = true := by decide +kernel
theorem dX1_readTerm_0 : decode cX1_readTerm 0 = .ok (.aload_n 0, 1) := dc_of dtX1_readTerm_0_0_ok (i := 0) rfl
theorem dX1_readTerm_1 : decode cX1_readTerm 1 = .ok (.iconst 4, 1) := dc_of dtX1_readTerm_0_0_ok (i := 1) rfl
theorem dX1_readTerm_2 : decode cX1_readTerm 2 = .ok (.invokevirtual 67, 3) := dc_of dtX1_readTerm_0_0_ok (i := 2) rfl
theorem dX1_readTerm_5 : decode cX1_readTerm 5 = .ok (.istore_n 2, 1) := dc_of dtX1_readTerm_0_0_ok (i := 3) rfl
theorem dX1_readTerm_6 : decode cX1_readTerm 6 = .ok (.iload_n 2, 1) := dc_of dtX1_readTerm_0_0_ok (i := 4) rfl
theorem dX1_readTerm_7 : decode cX1_readTerm 7 = .ok (.ifCond .eq 7, 3) := dc_of dtX1_readTerm_0_0_ok (i := 5) rfl
theorem dX1_readTerm_10 : decode cX1_readTerm 10 = .ok (.iconst 0, 1) := dc_of dtX1_readTerm_0_0_ok (i := 6) rfl
theorem dX1_readTerm_11 : decode cX1_readTerm 11 = .ok (.goto 8, 3) := dc_of dtX1_readTerm_0_0_ok (i := 7) rfl
theorem dX1_readTerm_14 : decode cX1_readTerm 14 = .ok (.aload_n 0, 1) := dc_of dtX1_readTerm_0_0_ok (i := 8) rfl
theorem dX1_readTerm_15 : decode cX1_readTerm 15 = .ok (.iload_n 1, 1) := dc_of dtX1_readTerm_0_0_ok (i := 9) rfl
theorem dX1_readTerm_16 : decode cX1_readTerm 16 = .ok (.invokevirtual 173, 3) := dc_of dtX1_readTerm_0_0_ok (i := 10) rfl
theorem dX1_readTerm_19 : decode cX1_readTerm 19 = .ok (.istore_n 3, 1) := dc_of dtX1_readTerm_0_0_ok (i := 11) rfl
theorem dX1_readTerm_20 : decode cX1_readTerm 20 = .ok (.iload_n 3, 1) := dc_of dtX1_readTerm_0_0_ok (i := 12) rfl
theorem dX1_readTerm_21 : decode cX1_readTerm 21 = .ok (.ifCond .eq 5, 3) := dc_of dtX1_readTerm_0_0_ok (i := 13) rfl
theorem dX1_readTerm_24 : decode cX1_readTerm 24 = .ok (.iload_n 3, 1) := dc_of dtX1_readTerm_0_0_ok (i := 14) rfl
theorem dX1_readTerm_25 : decode cX1_readTerm 25 = .ok (.ireturn, 1) := dc_of dtX1_readTerm_0_0_ok (i := 15) rfl
theorem dX1_readTerm_26 : decode cX1_readTerm 26 = .ok (.aload_n 0, 1) := dc_of dtX1_readTerm_0_0_ok (i := 16) rfl
theorem dX1_readTerm_27 : decode cX1_readTerm 27 = .ok (.getfield 29, 3) := dc_of dtX1_readTerm_0_0_ok (i := 17) rfl
theorem dX1_readTerm_30 : decode cX1_readTerm 30 = .ok (.getfield 149, 3) := dc_of dtX1_readTerm_0_0_ok (i := 18) rfl
theorem dX1_readTerm_33 : decode cX1_readTerm 33 = .ok (.iconst 4, 1) := dc_of dtX1_readTerm_0_0_ok (i := 19) rfl
theorem dX1_readTerm_34 : decode cX1_readTerm 34 = .ok (.if_icmp .lt 5, 3) := dc_of dtX1_readTerm_0_0_ok (i := 20) rfl
theorem dX1_readTerm_37 : decode cX1_readTerm 37 = .ok (.iconst 4, 1) := dc_of dtX1_readTerm_0_0_ok (i := 21) rfl
theorem dX1_readTerm_38 : decode cX1_readTerm 38 = .ok (.ireturn, 1) := dc_of dtX1_readTerm_0_0_ok (i := 22) rfl
theorem dX1_readTerm_39 : decode cX1_readTerm 39 = .ok (.aload_n 0, 1) := dc_of dtX1_readTerm_0_0_ok (i := 23) rfl
theorem dX1_readTerm_40 : decode cX1_readTerm 40 = .ok (.getfield 12, 3) := dc_of dtX1_readTerm_0_0_ok (i := 24) rfl
theorem dX1_readTerm_43 : decode cX1_readTerm 43 = .ok (.getfield 71, 3) := dc_of dtX1_readTerm_0_0_ok (i := 25) rfl
theorem dX1_readTerm_46 : decode cX1_readTerm 46 = .ok (.aload_n 0, 1) := dc_of dtX1_readTerm_0_0_ok (i := 26) rfl
theorem dX1_readTerm_47 : decode cX1_readTerm 47 = .ok (.getfield 44, 3) := dc_of dtX1_readTerm_0_0_ok (i := 27) rfl
theorem dX1_readTerm_50 : decode cX1_readTerm 50 = .ok (.iaload, 1) := dc_of dtX1_readTerm_0_0_ok (i := 28) rfl
theorem dX1_readTerm_51 : decode cX1_readTerm 51 = .ok (.istore 4, 2) := dc_of dtX1_readTerm_0_0_ok (i := 29) rfl
theorem dX1_readTerm_53 : decode cX1_readTerm 53 = .ok (.aload_n 0, 1) := dc_of dtX1_readTerm_0_0_ok (i := 30) rfl
theorem dX1_readTerm_54 : decode cX1_readTerm 54 = .ok (.invokevirtual 75, 3) := dc_of dtX1_readTerm_0_0_ok (i := 31) rfl
def dtX1_readTerm_57_1 : List (Nat × Instr × Nat) := [(57, .iload_n 2, 1), (58, .ifCond .eq 15, 3), (61, .aload_n 0, 1), (62, .getfield 29, 3), (65, .iconst (-1), 1), (66, .iload 4, 2), (68, .invokevirtual 186, 3), (71, .iconst 0, 1), (72, .ireturn, 1), (73, .aload_n 0, 1), (74, .getfield 12, 3), (77, .getfield 47, 3), (80, .aload_n 0, 1), (81, .getfield 44, 3), (84, .iaload, 1), (85, .istore 5, 2), (87, .iload 5, 2), (89, .bipush 43, 2), (91, .if_icmp .eq 22, 3), (94, .iload 5, 2), (96, .bipush 45, 2), (98, .if_icmp .eq 15, 3), (101, .aload_n 0, 1), (102, .getfield 29, 3), (105, .iload 4, 2), (107, .iconst 0, 1), (108, .invokevirtual 186, 3), (111, .iconst 0, 1), (112, .ireturn, 1), (113, .aload_n 0, 1), (114, .invokevirtual 75, 3), (117, .aload_n 0, 1)]
theorem dtX1_readTerm_57_1_ok : dcAll cX1_readTerm dtX1_readTerm_57_1 = true := by decide +kernel
theorem dX1_readTerm_57 : decode cX1_readTerm 57 = .ok (.iload_n 2, 1) := dc_of dtX1_readTerm_57_1_ok (i := 0) rfl
theorem dX1_readTerm_58 : decode cX1_readTerm 58 = .ok (.ifCond .eq 15, 3) := dc_of dtX1_readTerm_57_1_ok (i := 1) rfl
theorem dX1_readTerm_61 : decode cX1_readTerm 61 = .ok (.aload_n 0, 1) := dc_of dtX1_readTerm_57_1_ok (i := 2) rfl
theorem dX1_readTerm_62 : decode cX1_readTerm 62 = .ok (.getfield 29, 3) := dc_of dtX1_readTerm_57_1_ok (i := 3) rfl
theorem dX1_readTerm_65 : decode cX1_readTerm 65 = .ok (.iconst (-1), 1) := dc_of dtX1_readTerm_57_1_ok (i := 4) rfl
theorem dX1_readTerm_66 : decode cX1_readTerm 66 = .ok (.iload 4, 2) := dc_of dtX1_readTerm_57_1_ok (i := 5) rfl
theorem dX1_readTerm_68 : decode cX1_readTerm 68 = .ok (.invokevirtual 186, 3) := dc_of dtX1_readTerm_57_1_ok (i := 6) rfl
theorem dX1_readTerm_71 : decode cX1_readTerm 71 = .ok (.iconst 0, 1) := dc_of dtX1_readTerm_57_1_ok (i := 7) rfl
theorem dX1_readTerm_72 : decode cX1_readTerm 72 = .ok (.ireturn, 1) := dc_of dtX1_readTerm_57_1_ok (i := 8) rfl
theorem dX1_readTerm_73 : decode cX1_readTerm 73 = .ok (.aload_n 0, 1) := dc_of dtX1_readTerm_57_1_ok (i := 9) rfl
theorem dX1_readTerm_74 : decode cX1_readTerm 74 = .ok (.getfield 12, 3) := dc_of dtX1_readTerm_57_1_ok (i := 10) rfl
theorem dX1_readTerm_77 : decode cX1_readTerm 77 = .ok (.getfield 47, 3) := dc_of dtX1_readTerm_57_1_ok (i := 11) rfl
theorem dX1_readTerm_80 : decode cX1_readTerm 80 = .ok (.aload_n 0, 1) := dc_of dtX1_readTerm_57_1_ok (i := 12) rfl
theorem dX1_readTerm_81 : decode cX1_readTerm 81 = .ok (.getfield 44, 3) := dc_of dtX1_readTerm_57_1_ok (i := 13) rfl
theorem dX1_readTerm_84 : decode cX1_readTerm 84 = .ok (.iaload, 1) := dc_of dtX1_readTerm_57_1_ok (i := 14) rfl
theorem dX1_readTerm_85 : decode cX1_readTerm 85 = .ok (.istore 5, 2) := dc_of dtX1_readTerm_57_1_ok (i := 15) rfl
theorem dX1_readTerm_87 : decode cX1_readTerm 87 = .ok (.iload 5, 2) := dc_of dtX1_readTerm_57_1_ok (i := 16) rfl
theorem dX1_readTerm_89 : decode cX1_readTerm 89 = .ok (.bipush 43, 2) := dc_of dtX1_readTerm_57_1_ok (i := 17) rfl
theorem dX1_readTerm_91 : decode cX1_readTerm 91 = .ok (.if_icmp .eq 22, 3) := dc_of dtX1_readTerm_57_1_ok (i := 18) rfl
theorem dX1_readTerm_94 : decode cX1_readTerm 94 = .ok (.iload 5, 2) := dc_of dtX1_readTerm_57_1_ok (i := 19) rfl
theorem dX1_readTerm_96 : decode cX1_readTerm 96 = .ok (.bipush 45, 2) := dc_of dtX1_readTerm_57_1_ok (i := 20) rfl
theorem dX1_readTerm_98 : decode cX1_readTerm 98 = .ok (.if_icmp .eq 15, 3) := dc_of dtX1_readTerm_57_1_ok (i := 21) rfl
theorem dX1_readTerm_101 : decode cX1_readTerm 101 = .ok (.aload_n 0, 1) := dc_of dtX1_readTerm_57_1_ok (i := 22) rfl
theorem dX1_readTerm_102 : decode cX1_readTerm 102 = .ok (.getfield 29, 3) := dc_of dtX1_readTerm_57_1_ok (i := 23) rfl
theorem dX1_readTerm_105 : decode cX1_readTerm 105 = .ok (.iload 4, 2) := dc_of dtX1_readTerm_57_1_ok (i := 24) rfl
theorem dX1_readTerm_107 : decode cX1_readTerm 107 = .ok (.iconst 0, 1) := dc_of dtX1_readTerm_57_1_ok (i := 25) rfl
theorem dX1_readTerm_108 : decode cX1_readTerm 108 = .ok (.invokevirtual 186, 3) := dc_of dtX1_readTerm_57_1_ok (i := 26) rfl
theorem dX1_readTerm_111 : decode cX1_readTerm 111 = .ok (.iconst 0, 1) := dc_of dtX1_readTerm_57_1_ok (i := 27) rfl
theorem dX1_readTerm_112 : decode cX1_readTerm 112 = .ok (.ireturn, 1) := dc_of dtX1_readTerm_57_1_ok (i := 28) rfl
theorem dX1_readTerm_113 : decode cX1_readTerm 113 = .ok (.aload_n 0, 1) := dc_of dtX1_readTerm_57_1_ok (i := 29) rfl
theorem dX1_readTerm_114 : decode cX1_readTerm 114 = .ok (.invokevirtual 75, 3) := dc_of dtX1_readTerm_57_1_ok (i := 30) rfl
theorem dX1_readTerm_117 : decode cX1_readTerm 117 = .ok (.aload_n 0, 1) := dc_of dtX1_readTerm_57_1_ok (i := 31) rfl
def dtX1_readTerm_118_2 : List (Nat × Instr × Nat) := [(118, .iconst 4, 1), (119, .invokevirtual 67, 3), (122, .ifCond .ne 5, 3), (125, .iconst 1, 1), (126, .ireturn, 1), (127, .aload_n 0, 1), (128, .getfield 29, 3), (131, .iload 4, 2), (133, .iload 5, 2), (135, .bipush 43, 2), (137, .if_icmp .ne 18, 3), (140, .aload_n 0, 1), (141, .getfield 12, 3), (144, .getfield 71, 3), (147, .aload_n 0, 1), (148, .getfield 44, 3), (151, .iaload, 1), (152, .goto 16, 3), (155, .aload_n 0, 1), (156, .getfield 12, 3), (159, .getfield 71, 3), (162, .aload_n 0, 1), (163, .getfield 44, 3), (166, .iaload, 1), (167, .ineg, 1), (168, .invokevirtual 186, 3), (171, .aload_n 0, 1), (172, .invokevirtual 75, 3), (175, .iconst 0, 1), (176, .ireturn, 1)]
theorem dtX1_readTerm_118_2_ok : dcAll cX1_readTerm dtX1_readTerm_118_2 = true := by decide +kernel
theorem dX1_readTerm_118 : decode cX1_readTerm 118 = .ok (.iconst 4, 1) := dc_of dtX1_readTerm_118_2_ok (i := 0) rfl
theorem dX1_readTerm_119 : decode cX1_readTerm 119 = .ok (.invokevirtual 67, 3) := dc_of dtX1_readTerm_118_2_ok (i := 1) rfl
theorem dX1_readTerm_122 : decode cX1_readTerm 122 = .ok (.ifCond .ne 5, 3) := dc_of dtX1_readTerm_118_2_ok (i := 2) rfl
theorem dX1_readTerm_125 : decode cX1_readTerm 125 = .ok (.iconst 1, 1) := dc_of dtX1_readTerm_118_2_ok (i := 3) rfl
theorem dX1_readTerm_126 : decode cX1_readTerm 126 = .ok (.ireturn, 1) := dc_of dtX1_readTerm_118_2_ok (i := 4) rfl
theorem dX1_readTerm_127 : decode cX1_readTerm 127 = .ok (.aload_n 0, 1) := dc_of dtX1_readTerm_118_2_ok (i := 5) rfl
theorem dX1_readTerm_128 : decode cX1_readTerm 128 = .ok (.getfield 29, 3) := dc_of dtX1_readTerm_118_2_ok (i := 6) rfl
theorem dX1_readTerm_131 : decode cX1_readTerm 131 = .ok (.iload 4, 2) := dc_of dtX1_readTerm_118_2_ok (i := 7) rfl
theorem dX1_readTerm_133 : decode cX1_readTerm 133 = .ok (.iload 5, 2) := dc_of dtX1_readTerm_118_2_ok (i := 8) rfl
theorem dX1_readTerm_135 : decode cX1_readTerm 135 = .ok (.bipush 43, 2) := dc_of dtX1_readTerm_118_2_ok (i := 9) rfl
theorem dX1_readTerm_137 : decode cX1_readTerm 137 = .ok (.if_icmp .ne 18, 3) := dc_of dtX1_readTerm_118_2_ok (i := 10) rfl
theorem dX1_readTerm_140 : decode cX1_readTerm 140 = .ok (.aload_n 0, 1) := dc_of dtX1_readTerm_118_2_ok (i := 11) rfl
theorem dX1_readTerm_141 : decode cX1_readTerm 141 = .ok (.getfield 12, 3) := dc_of dtX1_readTerm_118_2_ok (i := 12) rfl
theorem dX1_readTerm_144 : decode cX1_readTerm 144 = .ok (.getfield 71, 3) := dc_of dtX1_readTerm_118_2_ok (i := 13) rfl
theorem dX1_readTerm_147 : decode cX1_readTerm 147 = .ok (.aload_n 0, 1) := dc_of dtX1_readTerm_118_2_ok (i := 14) rfl
theorem dX1_readTerm_148 : decode cX1_readTerm 148 = .ok (.getfield 44, 3) := dc_of dtX1_readTerm_118_2_ok (i := 15) rfl
theorem dX1_readTerm_151 : decode cX1_readTerm 151 = .ok (.iaload, 1) := dc_of dtX1_readTerm_118_2_ok (i := 16) rfl
theorem dX1_readTerm_152 : decode cX1_readTerm 152 = .ok (.goto 16, 3) := dc_of dtX1_readTerm_118_2_ok (i := 17) rfl
theorem dX1_readTerm_155 : decode cX1_readTerm 155 = .ok (.aload_n 0, 1) := dc_of dtX1_readTerm_118_2_ok (i := 18) rfl
theorem dX1_readTerm_156 : decode cX1_readTerm 156 = .ok (.getfield 12, 3) := dc_of dtX1_readTerm_118_2_ok (i := 19) rfl
theorem dX1_readTerm_159 : decode cX1_readTerm 159 = .ok (.getfield 71, 3) := dc_of dtX1_readTerm_118_2_ok (i := 20) rfl
theorem dX1_readTerm_162 : decode cX1_readTerm 162 = .ok (.aload_n 0, 1) := dc_of dtX1_readTerm_118_2_ok (i := 21) rfl
theorem dX1_readTerm_163 : decode cX1_readTerm 163 = .ok (.getfield 44, 3) := dc_of dtX1_readTerm_118_2_ok (i := 22) rfl
theorem dX1_readTerm_166 : decode cX1_readTerm 166 = .ok (.iaload, 1) := dc_of dtX1_readTerm_118_2_ok (i := 23) rfl
theorem dX1_readTerm_167 : decode cX1_readTerm 167 = .ok (.ineg, 1) := dc_of dtX1_readTerm_118_2_ok (i := 24) rfl
theorem dX1_readTerm_168 : decode cX1_readTerm 168 = .ok (.invokevirtual 186, 3) := dc_of dtX1_readTerm_118_2_ok (i := 25) rfl
theorem dX1_readTerm_171 : decode cX1_readTerm 171 = .ok (.aload_n 0, 1) := dc_of dtX1_readTerm_118_2_ok (i := 26) rfl
theorem dX1_readTerm_172 : decode cX1_readTerm 172 = .ok (.invokevirtual 75, 3) := dc_of dtX1_readTerm_118_2_ok (i := 27) rfl
theorem dX1_readTerm_175 : decode cX1_readTerm 175 = .ok (.iconst 0, 1) := dc_of dtX1_readTerm_118_2_ok (i := 28) rfl
theorem dX1_readTerm_176 : decode cX1_readTerm 176 = .ok (.ireturn, 1) := dc_of dtX1_readTerm_118_2_ok (i := 29) rfl
set_option maxRecDepth 20000 in
theorem ggX1_readJoin_X1_readFirst : GoodIn wsX1_readJoin wsX1_readFirst := goodIn_r _ [7, 1, 8, 9, 10, 11, 12, 13, 2, 14, 15, 16, 17, 6, 18, 19, 20, 21, 22, 23, 24, 25, 26, 27, 28, 29, 30, 31, 32, 33, 34, 35, 36, 37, 38, 39, 40, 41, 88, 89, 90, 91, 107, 108, 109, 110, 111, 92, 93, 94, 95, 96, 97, 98, 99, 100, 101, 102, 103, 104, 105, 106, 112, 113, 114] rfl gw_wsX1_readFirst
set_option maxRecDepth 20000 in
theorem gX1_readJoin_X1_readFirst : GoodIn wsX1_readJoin (wsV RX1 161 RX1 yX1_readFirst wsX1_readFirst) := goodIn_app (goodIn_of _ (by decide +kernel)) ggX1_readJoin_X1_readFirst
set_option maxRecDepth 20000 in
theorem gw_wsX1_readSecond : wsX1_readSecond.all goodWord = true := by decide +kernel
set_option maxRecDepth 20000 in
theorem ggX1_readJoin_X1_readSecond : GoodIn wsX1_readJoin wsX1_readSecond := goodIn_r _ [45, 1, 8, 9, 10, 11, 46, 13, 2, 47, 15, 16, 17, 6, 18, 19, 20, 21, 22, 23, 24, 25, 26, 27, 28, 29, 30, 31, 32, 33, 34, 35, 36, 37, 38, 39, 40, 41, 88, 89, 90, 91, 107, 108, 109, 110, 111, 92, 93, 94, 95, 96, 97, 98, 99, 100, 101, 102, 103, 104, 105, 106, 112, 113, 114] rfl gw_wsX1_readSecond
set_option maxRecDepth 20000 in
theorem gX1_readJoin_X1_readSecond : GoodIn wsX1_readJoin (wsV RX1 190 RX1 yX1_readSecond wsX1_readSecond) := goodIn_app (goodIn_of _ (by decide +kernel)) ggX1_readJoin_X1_readSecond
set_option maxRecDepth 20000 in
theorem ggX1_readJoin_X1_takeWord : GoodIn wsX1_readJoin wsX1_takeWord := goodIn_r _ [51, 19, 20, 21, 6, 22, 9, 23, 11, 24, 25, 26, 27, 28, 37, 38, 39, 40, 41, 88, 89, 90, 91, 107, 108, 109, 110, 111] rfl gw_wsX1_takeWord
set_option maxRecDepth 20000 in
theorem gX1_readJoin_X1_takeWord : GoodIn wsX1_readJoin (wsV RX1 164 RX1 yX1_takeWord wsX1_takeWord) := goodIn_app (goodIn_of _ (by decide +kernel)) ggX1_readJoin_X1_takeWord
set_option maxRecDepth 20000 in
theorem gw_wsX1_readPairs : wsX1_readPairs.all goodWord = true := by decide +kernel
set_option maxRecDepth 20000 in
theorem ggX1_readJoin_X1_readPairs : GoodIn wsX1_readJoin wsX1_readPairs := goodIn_r _ [55, 1, 56, 57, 58, 59, 60, 6, 61, 14, 62, 9, 23, 11, 47, 63, 64, 65, 66, 24, 25, 26, 27, 28, 37, 38, 39, 40, 41, 67, 68, 69, 70, 71, 72, 73, 74, 75, 76, 77, 88, 89, 90, 91, 92, 93, 94, 95, 96, 97, 98, 99, 100, 101, 102, 103, 104, 105, 106, 107, 108, 109, 110, 111] rfl gw_wsX1_readPairs
set_option maxRecDepth 20000 in
theorem gX1_readJoin_X1_readPairs : GoodIn wsX1_readJoin (wsV RX1 193 RX1 yX1_readPairs wsX1_readPairs) := goodIn_app (goodIn_of _ (by decide +kernel)) ggX1_readJoin_X1_readPairs
set_option maxRecDepth 20000 in
theorem gw_wsX0_columnsOfJoin : wsX0_columnsOfJoin.all goodWord = true := by decide +kernel
set_option maxRecDepth 20000 in
theorem ggX1_readJoin_X0_columnsOfJoin : GoodIn wsX1_readJoin wsX0_columnsOfJoin := goodIn_r _ [81, 82, 83, 84, 85, 86, 74, 87, 77, 76, 92, 93, 94, 95, 96, 97, 98, 99, 100, 101, 102, 103, 104, 105, 106] rfl gw_wsX0_columnsOfJoin
set_option maxRecDepth 20000 in
theorem gX1_readJoin_X0_columnsOfJoin : GoodIn wsX1_readJoin (wsV RX1 196 RX0 yX0_columnsOfJoin wsX0_columnsOfJoin) := goodIn_app (goodIn_of _ (by decide +kernel)) ggX1_readJoin_X0_columnsOfJoin
def dtX1_readJoin_0_0 : List (Nat × Instr × Nat) := [(0, .aload_n 0, 1), (1, .invokevirtual 161, 3), (4, .istore_n 1, 1), (5, .iload_n 1, 1), (6, .ifCond .ne 8, 3), (9, .aload_n 0, 1), (10, .invokevirtual 190, 3), (13, .istore_n 1, 1), (14, .iload_n 1, 1), (15, .ifCond .ne 10, 3), (18, .aload_n 0, 1), (19, .bipush 12, 2), (21, .invokevirtual 164, 3), (24, .istore_n 1, 1), (25, .iload_n 1, 1), (26, .ifCond .ne 8, 3), (29, .aload_n 0, 1), (30, .invokevirtual 193, 3), (33, .istore_n 1, 1), (34, .aload_n 0, 1), (35, .getfield 29, 3), (38, .aload_n 0, 1), (39, .getfield 29, 3), (42, .invokevirtual 196, 3), (45, .putfield 136, 3), (48, .iload_n 1, 1), (49, .ireturn, 1)]
theorem dtX1_readJoin_0_0_ok : dcAll cX1_readJoin dtX1_readJoin_0_0 = true := by decide +kernel
theorem dX1_readJoin_0 : decode cX1_readJoin 0 = .ok (.aload_n 0, 1) := dc_of dtX1_readJoin_0_0_ok (i := 0) rfl
theorem dX1_readJoin_1 : decode cX1_readJoin 1 = .ok (.invokevirtual 161, 3) := dc_of dtX1_readJoin_0_0_ok (i := 1) rfl
theorem dX1_readJoin_4 : decode cX1_readJoin 4 = .ok (.istore_n 1, 1) := dc_of dtX1_readJoin_0_0_ok (i := 2) rfl
theorem dX1_readJoin_5 : decode cX1_readJoin 5 = .ok (.iload_n 1, 1) := dc_of dtX1_readJoin_0_0_ok (i := 3) rfl
theorem dX1_readJoin_6 : decode cX1_readJoin 6 = .ok (.ifCond .ne 8, 3) := dc_of dtX1_readJoin_0_0_ok (i := 4) rfl
theorem dX1_readJoin_9 : decode cX1_readJoin 9 = .ok (.aload_n 0, 1) := dc_of dtX1_readJoin_0_0_ok (i := 5) rfl
theorem dX1_readJoin_10 : decode cX1_readJoin 10 = .ok (.invokevirtual 190, 3) := dc_of dtX1_readJoin_0_0_ok (i := 6) rfl
theorem dX1_readJoin_13 : decode cX1_readJoin 13 = .ok (.istore_n 1, 1) := dc_of dtX1_readJoin_0_0_ok (i := 7) rfl
theorem dX1_readJoin_14 : decode cX1_readJoin 14 = .ok (.iload_n 1, 1) := dc_of dtX1_readJoin_0_0_ok (i := 8) rfl
theorem dX1_readJoin_15 : decode cX1_readJoin 15 = .ok (.ifCond .ne 10, 3) := dc_of dtX1_readJoin_0_0_ok (i := 9) rfl
theorem dX1_readJoin_18 : decode cX1_readJoin 18 = .ok (.aload_n 0, 1) := dc_of dtX1_readJoin_0_0_ok (i := 10) rfl
theorem dX1_readJoin_19 : decode cX1_readJoin 19 = .ok (.bipush 12, 2) := dc_of dtX1_readJoin_0_0_ok (i := 11) rfl
theorem dX1_readJoin_21 : decode cX1_readJoin 21 = .ok (.invokevirtual 164, 3) := dc_of dtX1_readJoin_0_0_ok (i := 12) rfl
theorem dX1_readJoin_24 : decode cX1_readJoin 24 = .ok (.istore_n 1, 1) := dc_of dtX1_readJoin_0_0_ok (i := 13) rfl
theorem dX1_readJoin_25 : decode cX1_readJoin 25 = .ok (.iload_n 1, 1) := dc_of dtX1_readJoin_0_0_ok (i := 14) rfl
theorem dX1_readJoin_26 : decode cX1_readJoin 26 = .ok (.ifCond .ne 8, 3) := dc_of dtX1_readJoin_0_0_ok (i := 15) rfl
theorem dX1_readJoin_29 : decode cX1_readJoin 29 = .ok (.aload_n 0, 1) := dc_of dtX1_readJoin_0_0_ok (i := 16) rfl
theorem dX1_readJoin_30 : decode cX1_readJoin 30 = .ok (.invokevirtual 193, 3) := dc_of dtX1_readJoin_0_0_ok (i := 17) rfl
theorem dX1_readJoin_33 : decode cX1_readJoin 33 = .ok (.istore_n 1, 1) := dc_of dtX1_readJoin_0_0_ok (i := 18) rfl
theorem dX1_readJoin_34 : decode cX1_readJoin 34 = .ok (.aload_n 0, 1) := dc_of dtX1_readJoin_0_0_ok (i := 19) rfl
theorem dX1_readJoin_35 : decode cX1_readJoin 35 = .ok (.getfield 29, 3) := dc_of dtX1_readJoin_0_0_ok (i := 20) rfl
theorem dX1_readJoin_38 : decode cX1_readJoin 38 = .ok (.aload_n 0, 1) := dc_of dtX1_readJoin_0_0_ok (i := 21) rfl
theorem dX1_readJoin_39 : decode cX1_readJoin 39 = .ok (.getfield 29, 3) := dc_of dtX1_readJoin_0_0_ok (i := 22) rfl
theorem dX1_readJoin_42 : decode cX1_readJoin 42 = .ok (.invokevirtual 196, 3) := dc_of dtX1_readJoin_0_0_ok (i := 23) rfl
theorem dX1_readJoin_45 : decode cX1_readJoin 45 = .ok (.putfield 136, 3) := dc_of dtX1_readJoin_0_0_ok (i := 24) rfl
theorem dX1_readJoin_48 : decode cX1_readJoin 48 = .ok (.iload_n 1, 1) := dc_of dtX1_readJoin_0_0_ok (i := 25) rfl
theorem dX1_readJoin_49 : decode cX1_readJoin 49 = .ok (.ireturn, 1) := dc_of dtX1_readJoin_0_0_ok (i := 26) rfl
set_option maxRecDepth 20000 in
theorem gw_wsX1_readPair : wsX1_readPair.all goodWord = true := by decide +kernel
set_option maxRecDepth 20000 in
theorem ggX1_readPairs_X1_readPair : GoodIn wsX1_readPairs wsX1_readPair := goodIn_r _ [8, 1, 9, 10, 11, 12, 13, 2, 14, 3, 15, 16, 17, 7, 18, 19, 20, 21, 22, 23, 24, 25, 26, 27, 28, 29, 30, 31, 32, 40, 41, 42, 43, 44, 45, 46, 47, 48, 49, 50, 51, 52, 53, 54, 55, 56, 57, 58, 59, 60, 61, 62, 63] rfl gw_wsX1_readPair
set_option maxRecDepth 20000 in
theorem gX1_readPairs_X1_readPair : GoodIn wsX1_readPairs (wsV RX1 199 RX1 yX1_readPair wsX1_readPair) := goodIn_app (goodIn_of _ (by decide +kernel)) ggX1_readPairs_X1_readPair
set_option maxRecDepth 20000 in
theorem ggX1_readPairs_X0_addTwo : GoodIn wsX1_readPairs wsX0_addTwo := goodIn_r _ [37, 38, 39, 44, 45, 46, 47, 48, 49, 50, 51, 52, 53, 54, 55, 56, 57, 58] rfl gw_wsX0_addTwo
set_option maxRecDepth 20000 in
theorem gX1_readPairs_X0_addTwo : GoodIn wsX1_readPairs (wsV RX1 186 RX0 yX0_addTwo wsX0_addTwo) := goodIn_app (goodIn_of _ (by decide +kernel)) ggX1_readPairs_X0_addTwo
set_option maxRecDepth 20000 in
theorem ggX1_readPairs_X1_isKind : GoodIn wsX1_readPairs wsX1_isKind := goodIn_r _ [22, 11, 23, 13, 40, 41, 42, 43, 59, 60, 61, 62, 63] rfl gw_wsX1_isKind
set_option maxRecDepth 20000 in
theorem gX1_readPairs_X1_isKind : GoodIn wsX1_readPairs (wsV RX1 67 RX1 yX1_isKind wsX1_isKind) := goodIn_app (goodIn_of _ (by decide +kernel)) ggX1_readPairs_X1_isKind
set_option maxRecDepth 20000 in
theorem ggX1_readPairs_X1_step : GoodIn wsX1_readPairs wsX1_step := goodIn_r _ [27, 13, 11, 28, 40, 41, 42, 43, 59, 60, 61, 62, 63] rfl gw_wsX1_step
set_option maxRecDepth 20000 in
theorem gX1_readPairs_X1_step : GoodIn wsX1_readPairs (wsV RX1 75 RX1 yX1_step wsX1_step) := goodIn_app (goodIn_of _ (by decide +kernel)) ggX1_readPairs_X1_step
def dtX1_readPairs_0_0 : List (Nat × Instr × Nat) := [(0, .iconst 0, 1), (1, .istore_n 1, 1), (2, .iload_n 1, 1), (3, .iconst 4, 1), (4, .if_icmp .gt 57, 3), (7, .aload_n 0, 1), (8, .iconst 4, 1), (9, .invokevirtual 199, 3), (12, .istore_n 2, 1), (13, .iload_n 2, 1), (14, .ifCond .eq 5, 3), (17, .iload_n 2, 1), (18, .ireturn, 1), (19, .aload_n 0, 1), (20, .getfield 29, 3), (23, .aload_n 0, 1), (24, .getfield 29, 3), (27, .getfield 202, 3), (30, .aload_n 0, 1), (31, .getfield 29, 3), (34, .getfield 205, 3), (37, .invokevirtual 186, 3), (40, .aload_n 0, 1), (41, .bipush 44, 2), (43, .invokevirtual 67, 3), (46, .ifCond .ne 5, 3), (49, .iconst 0, 1), (50, .ireturn, 1), (51, .aload_n 0, 1), (52, .invokevirtual 75, 3), (55, .iinc 1 1, 3), (58, .goto (-56), 3)]
theorem dtX1_readPairs_0_0_ok : dcAll cX1_readPairs dtX1_readPairs_0_0 = true := by decide +kernel
theorem dX1_readPairs_0 : decode cX1_readPairs 0 = .ok (.iconst 0, 1) := dc_of dtX1_readPairs_0_0_ok (i := 0) rfl
theorem dX1_readPairs_1 : decode cX1_readPairs 1 = .ok (.istore_n 1, 1) := dc_of dtX1_readPairs_0_0_ok (i := 1) rfl
theorem dX1_readPairs_2 : decode cX1_readPairs 2 = .ok (.iload_n 1, 1) := dc_of dtX1_readPairs_0_0_ok (i := 2) rfl
theorem dX1_readPairs_3 : decode cX1_readPairs 3 = .ok (.iconst 4, 1) := dc_of dtX1_readPairs_0_0_ok (i := 3) rfl
theorem dX1_readPairs_4 : decode cX1_readPairs 4 = .ok (.if_icmp .gt 57, 3) := dc_of dtX1_readPairs_0_0_ok (i := 4) rfl
theorem dX1_readPairs_7 : decode cX1_readPairs 7 = .ok (.aload_n 0, 1) := dc_of dtX1_readPairs_0_0_ok (i := 5) rfl
theorem dX1_readPairs_8 : decode cX1_readPairs 8 = .ok (.iconst 4, 1) := dc_of dtX1_readPairs_0_0_ok (i := 6) rfl
theorem dX1_readPairs_9 : decode cX1_readPairs 9 = .ok (.invokevirtual 199, 3) := dc_of dtX1_readPairs_0_0_ok (i := 7) rfl
theorem dX1_readPairs_12 : decode cX1_readPairs 12 = .ok (.istore_n 2, 1) := dc_of dtX1_readPairs_0_0_ok (i := 8) rfl
theorem dX1_readPairs_13 : decode cX1_readPairs 13 = .ok (.iload_n 2, 1) := dc_of dtX1_readPairs_0_0_ok (i := 9) rfl
theorem dX1_readPairs_14 : decode cX1_readPairs 14 = .ok (.ifCond .eq 5, 3) := dc_of dtX1_readPairs_0_0_ok (i := 10) rfl
theorem dX1_readPairs_17 : decode cX1_readPairs 17 = .ok (.iload_n 2, 1) := dc_of dtX1_readPairs_0_0_ok (i := 11) rfl
theorem dX1_readPairs_18 : decode cX1_readPairs 18 = .ok (.ireturn, 1) := dc_of dtX1_readPairs_0_0_ok (i := 12) rfl
theorem dX1_readPairs_19 : decode cX1_readPairs 19 = .ok (.aload_n 0, 1) := dc_of dtX1_readPairs_0_0_ok (i := 13) rfl
theorem dX1_readPairs_20 : decode cX1_readPairs 20 = .ok (.getfield 29, 3) := dc_of dtX1_readPairs_0_0_ok (i := 14) rfl
theorem dX1_readPairs_23 : decode cX1_readPairs 23 = .ok (.aload_n 0, 1) := dc_of dtX1_readPairs_0_0_ok (i := 15) rfl
theorem dX1_readPairs_24 : decode cX1_readPairs 24 = .ok (.getfield 29, 3) := dc_of dtX1_readPairs_0_0_ok (i := 16) rfl
theorem dX1_readPairs_27 : decode cX1_readPairs 27 = .ok (.getfield 202, 3) := dc_of dtX1_readPairs_0_0_ok (i := 17) rfl
theorem dX1_readPairs_30 : decode cX1_readPairs 30 = .ok (.aload_n 0, 1) := dc_of dtX1_readPairs_0_0_ok (i := 18) rfl
theorem dX1_readPairs_31 : decode cX1_readPairs 31 = .ok (.getfield 29, 3) := dc_of dtX1_readPairs_0_0_ok (i := 19) rfl
theorem dX1_readPairs_34 : decode cX1_readPairs 34 = .ok (.getfield 205, 3) := dc_of dtX1_readPairs_0_0_ok (i := 20) rfl
theorem dX1_readPairs_37 : decode cX1_readPairs 37 = .ok (.invokevirtual 186, 3) := dc_of dtX1_readPairs_0_0_ok (i := 21) rfl
theorem dX1_readPairs_40 : decode cX1_readPairs 40 = .ok (.aload_n 0, 1) := dc_of dtX1_readPairs_0_0_ok (i := 22) rfl
theorem dX1_readPairs_41 : decode cX1_readPairs 41 = .ok (.bipush 44, 2) := dc_of dtX1_readPairs_0_0_ok (i := 23) rfl
theorem dX1_readPairs_43 : decode cX1_readPairs 43 = .ok (.invokevirtual 67, 3) := dc_of dtX1_readPairs_0_0_ok (i := 24) rfl
theorem dX1_readPairs_46 : decode cX1_readPairs 46 = .ok (.ifCond .ne 5, 3) := dc_of dtX1_readPairs_0_0_ok (i := 25) rfl
theorem dX1_readPairs_49 : decode cX1_readPairs 49 = .ok (.iconst 0, 1) := dc_of dtX1_readPairs_0_0_ok (i := 26) rfl
theorem dX1_readPairs_50 : decode cX1_readPairs 50 = .ok (.ireturn, 1) := dc_of dtX1_readPairs_0_0_ok (i := 27) rfl
theorem dX1_readPairs_51 : decode cX1_readPairs 51 = .ok (.aload_n 0, 1) := dc_of dtX1_readPairs_0_0_ok (i := 28) rfl
theorem dX1_readPairs_52 : decode cX1_readPairs 52 = .ok (.invokevirtual 75, 3) := dc_of dtX1_readPairs_0_0_ok (i := 29) rfl
theorem dX1_readPairs_55 : decode cX1_readPairs 55 = .ok (.iinc 1 1, 3) := dc_of dtX1_readPairs_0_0_ok (i := 30) rfl
theorem dX1_readPairs_58 : decode cX1_readPairs 58 = .ok (.goto (-56), 3) := dc_of dtX1_readPairs_0_0_ok (i := 31) rfl
def dtX1_readPairs_61_1 : List (Nat × Instr × Nat) := [(61, .iconst 4, 1), (62, .ireturn, 1)]
theorem dtX1_readPairs_61_1_ok : dcAll cX1_readPairs dtX1_readPairs_61_1 = true := by decide +kernel
theorem dX1_readPairs_61 : decode cX1_readPairs 61 = .ok (.iconst 4, 1) := dc_of dtX1_readPairs_61_1_ok (i := 0) rfl
theorem dX1_readPairs_62 : decode cX1_readPairs 62 = .ok (.ireturn, 1) := dc_of dtX1_readPairs_61_1_ok (i := 1) rfl
set_option maxRecDepth 20000 in
theorem ggX1_readPair_X1_seeColumn : GoodIn wsX1_readPair wsX1_seeColumn := goodIn_r _ [14, 4, 5, 6, 15, 16, 17, 13, 18, 19, 29, 30, 31, 32, 48, 49, 50, 51, 52] rfl gw_wsX1_seeColumn
set_option maxRecDepth 20000 in
theorem gX1_readPair_X1_seeColumn : GoodIn wsX1_readPair (wsV RX1 173 RX1 yX1_seeColumn wsX1_seeColumn) := goodIn_app (goodIn_of _ (by decide +kernel)) ggX1_readPair_X1_seeColumn
set_option maxRecDepth 20000 in
theorem ggX1_readPair_X1_step : GoodIn wsX1_readPair wsX1_step := goodIn_r _ [23, 6, 4, 24, 29, 30, 31, 32, 48, 49, 50, 51, 52] rfl gw_wsX1_step
set_option maxRecDepth 20000 in
theorem gX1_readPair_X1_step : GoodIn wsX1_readPair (wsV RX1 75 RX1 yX1_step wsX1_step) := goodIn_app (goodIn_of _ (by decide +kernel)) ggX1_readPair_X1_step
set_option maxRecDepth 20000 in
theorem ggX1_readPair_X1_takeKind : GoodIn wsX1_readPair wsX1_takeKind := goodIn_r _ [28, 15, 16, 17, 13, 18, 4, 19, 6, 20, 21, 22, 23, 24, 29, 30, 31, 32, 48, 49, 50, 51, 52] rfl gw_wsX1_takeKind
set_option maxRecDepth 20000 in
theorem gX1_readPair_X1_takeKind : GoodIn wsX1_readPair (wsV RX1 105 RX1 yX1_takeKind wsX1_takeKind) := goodIn_app (goodIn_of _ (by decide +kernel)) ggX1_readPair_X1_takeKind
def dtX1_readPair_0_0 : List (Nat × Instr × Nat) := [(0, .aload_n 0, 1), (1, .aload_n 0, 1), (2, .getfield 29, 3), (5, .getfield 143, 3), (8, .invokevirtual 173, 3), (11, .istore_n 2, 1), (12, .iload_n 2, 1), (13, .ifCond .eq 5, 3), (16, .iload_n 2, 1), (17, .ireturn, 1), (18, .aload_n 0, 1), (19, .getfield 29, 3), (22, .getfield 149, 3), (25, .iload_n 1, 1), (26, .if_icmp .lt 5, 3), (29, .iconst 4, 1), (30, .ireturn, 1), (31, .aload_n 0, 1), (32, .getfield 29, 3), (35, .aload_n 0, 1), (36, .getfield 12, 3), (39, .getfield 71, 3), (42, .aload_n 0, 1), (43, .getfield 44, 3), (46, .iaload, 1), (47, .putfield 202, 3), (50, .aload_n 0, 1), (51, .invokevirtual 75, 3), (54, .aload_n 0, 1), (55, .bipush 61, 2), (57, .invokevirtual 105, 3), (60, .istore_n 2, 1)]
theorem dtX1_readPair_0_0_ok : dcAll cX1_readPair dtX1_readPair_0_0 = true := by decide +kernel
theorem dX1_readPair_0 : decode cX1_readPair 0 = .ok (.aload_n 0, 1) := dc_of dtX1_readPair_0_0_ok (i := 0) rfl
theorem dX1_readPair_1 : decode cX1_readPair 1 = .ok (.aload_n 0, 1) := dc_of dtX1_readPair_0_0_ok (i := 1) rfl
theorem dX1_readPair_2 : decode cX1_readPair 2 = .ok (.getfield 29, 3) := dc_of dtX1_readPair_0_0_ok (i := 2) rfl
theorem dX1_readPair_5 : decode cX1_readPair 5 = .ok (.getfield 143, 3) := dc_of dtX1_readPair_0_0_ok (i := 3) rfl
theorem dX1_readPair_8 : decode cX1_readPair 8 = .ok (.invokevirtual 173, 3) := dc_of dtX1_readPair_0_0_ok (i := 4) rfl
theorem dX1_readPair_11 : decode cX1_readPair 11 = .ok (.istore_n 2, 1) := dc_of dtX1_readPair_0_0_ok (i := 5) rfl
theorem dX1_readPair_12 : decode cX1_readPair 12 = .ok (.iload_n 2, 1) := dc_of dtX1_readPair_0_0_ok (i := 6) rfl
theorem dX1_readPair_13 : decode cX1_readPair 13 = .ok (.ifCond .eq 5, 3) := dc_of dtX1_readPair_0_0_ok (i := 7) rfl
theorem dX1_readPair_16 : decode cX1_readPair 16 = .ok (.iload_n 2, 1) := dc_of dtX1_readPair_0_0_ok (i := 8) rfl
theorem dX1_readPair_17 : decode cX1_readPair 17 = .ok (.ireturn, 1) := dc_of dtX1_readPair_0_0_ok (i := 9) rfl
theorem dX1_readPair_18 : decode cX1_readPair 18 = .ok (.aload_n 0, 1) := dc_of dtX1_readPair_0_0_ok (i := 10) rfl
theorem dX1_readPair_19 : decode cX1_readPair 19 = .ok (.getfield 29, 3) := dc_of dtX1_readPair_0_0_ok (i := 11) rfl
theorem dX1_readPair_22 : decode cX1_readPair 22 = .ok (.getfield 149, 3) := dc_of dtX1_readPair_0_0_ok (i := 12) rfl
theorem dX1_readPair_25 : decode cX1_readPair 25 = .ok (.iload_n 1, 1) := dc_of dtX1_readPair_0_0_ok (i := 13) rfl
theorem dX1_readPair_26 : decode cX1_readPair 26 = .ok (.if_icmp .lt 5, 3) := dc_of dtX1_readPair_0_0_ok (i := 14) rfl
theorem dX1_readPair_29 : decode cX1_readPair 29 = .ok (.iconst 4, 1) := dc_of dtX1_readPair_0_0_ok (i := 15) rfl
theorem dX1_readPair_30 : decode cX1_readPair 30 = .ok (.ireturn, 1) := dc_of dtX1_readPair_0_0_ok (i := 16) rfl
theorem dX1_readPair_31 : decode cX1_readPair 31 = .ok (.aload_n 0, 1) := dc_of dtX1_readPair_0_0_ok (i := 17) rfl
theorem dX1_readPair_32 : decode cX1_readPair 32 = .ok (.getfield 29, 3) := dc_of dtX1_readPair_0_0_ok (i := 18) rfl
theorem dX1_readPair_35 : decode cX1_readPair 35 = .ok (.aload_n 0, 1) := dc_of dtX1_readPair_0_0_ok (i := 19) rfl
theorem dX1_readPair_36 : decode cX1_readPair 36 = .ok (.getfield 12, 3) := dc_of dtX1_readPair_0_0_ok (i := 20) rfl
theorem dX1_readPair_39 : decode cX1_readPair 39 = .ok (.getfield 71, 3) := dc_of dtX1_readPair_0_0_ok (i := 21) rfl
theorem dX1_readPair_42 : decode cX1_readPair 42 = .ok (.aload_n 0, 1) := dc_of dtX1_readPair_0_0_ok (i := 22) rfl
theorem dX1_readPair_43 : decode cX1_readPair 43 = .ok (.getfield 44, 3) := dc_of dtX1_readPair_0_0_ok (i := 23) rfl
theorem dX1_readPair_46 : decode cX1_readPair 46 = .ok (.iaload, 1) := dc_of dtX1_readPair_0_0_ok (i := 24) rfl
theorem dX1_readPair_47 : decode cX1_readPair 47 = .ok (.putfield 202, 3) := dc_of dtX1_readPair_0_0_ok (i := 25) rfl
theorem dX1_readPair_50 : decode cX1_readPair 50 = .ok (.aload_n 0, 1) := dc_of dtX1_readPair_0_0_ok (i := 26) rfl
theorem dX1_readPair_51 : decode cX1_readPair 51 = .ok (.invokevirtual 75, 3) := dc_of dtX1_readPair_0_0_ok (i := 27) rfl
theorem dX1_readPair_54 : decode cX1_readPair 54 = .ok (.aload_n 0, 1) := dc_of dtX1_readPair_0_0_ok (i := 28) rfl
theorem dX1_readPair_55 : decode cX1_readPair 55 = .ok (.bipush 61, 2) := dc_of dtX1_readPair_0_0_ok (i := 29) rfl
theorem dX1_readPair_57 : decode cX1_readPair 57 = .ok (.invokevirtual 105, 3) := dc_of dtX1_readPair_0_0_ok (i := 30) rfl
theorem dX1_readPair_60 : decode cX1_readPair 60 = .ok (.istore_n 2, 1) := dc_of dtX1_readPair_0_0_ok (i := 31) rfl
def dtX1_readPair_61_1 : List (Nat × Instr × Nat) := [(61, .iload_n 2, 1), (62, .ifCond .ne 15, 3), (65, .aload_n 0, 1), (66, .aload_n 0, 1), (67, .getfield 29, 3), (70, .getfield 146, 3), (73, .invokevirtual 173, 3), (76, .istore_n 2, 1), (77, .iload_n 2, 1), (78, .ifCond .ne 26, 3), (81, .aload_n 0, 1), (82, .getfield 29, 3), (85, .aload_n 0, 1), (86, .getfield 12, 3), (89, .getfield 71, 3), (92, .aload_n 0, 1), (93, .getfield 44, 3), (96, .iaload, 1), (97, .putfield 205, 3), (100, .aload_n 0, 1), (101, .invokevirtual 75, 3), (104, .iload_n 2, 1), (105, .ireturn, 1)]
theorem dtX1_readPair_61_1_ok : dcAll cX1_readPair dtX1_readPair_61_1 = true := by decide +kernel
theorem dX1_readPair_61 : decode cX1_readPair 61 = .ok (.iload_n 2, 1) := dc_of dtX1_readPair_61_1_ok (i := 0) rfl
theorem dX1_readPair_62 : decode cX1_readPair 62 = .ok (.ifCond .ne 15, 3) := dc_of dtX1_readPair_61_1_ok (i := 1) rfl
theorem dX1_readPair_65 : decode cX1_readPair 65 = .ok (.aload_n 0, 1) := dc_of dtX1_readPair_61_1_ok (i := 2) rfl
theorem dX1_readPair_66 : decode cX1_readPair 66 = .ok (.aload_n 0, 1) := dc_of dtX1_readPair_61_1_ok (i := 3) rfl
theorem dX1_readPair_67 : decode cX1_readPair 67 = .ok (.getfield 29, 3) := dc_of dtX1_readPair_61_1_ok (i := 4) rfl
theorem dX1_readPair_70 : decode cX1_readPair 70 = .ok (.getfield 146, 3) := dc_of dtX1_readPair_61_1_ok (i := 5) rfl
theorem dX1_readPair_73 : decode cX1_readPair 73 = .ok (.invokevirtual 173, 3) := dc_of dtX1_readPair_61_1_ok (i := 6) rfl
theorem dX1_readPair_76 : decode cX1_readPair 76 = .ok (.istore_n 2, 1) := dc_of dtX1_readPair_61_1_ok (i := 7) rfl
theorem dX1_readPair_77 : decode cX1_readPair 77 = .ok (.iload_n 2, 1) := dc_of dtX1_readPair_61_1_ok (i := 8) rfl
theorem dX1_readPair_78 : decode cX1_readPair 78 = .ok (.ifCond .ne 26, 3) := dc_of dtX1_readPair_61_1_ok (i := 9) rfl
theorem dX1_readPair_81 : decode cX1_readPair 81 = .ok (.aload_n 0, 1) := dc_of dtX1_readPair_61_1_ok (i := 10) rfl
theorem dX1_readPair_82 : decode cX1_readPair 82 = .ok (.getfield 29, 3) := dc_of dtX1_readPair_61_1_ok (i := 11) rfl
theorem dX1_readPair_85 : decode cX1_readPair 85 = .ok (.aload_n 0, 1) := dc_of dtX1_readPair_61_1_ok (i := 12) rfl
theorem dX1_readPair_86 : decode cX1_readPair 86 = .ok (.getfield 12, 3) := dc_of dtX1_readPair_61_1_ok (i := 13) rfl
theorem dX1_readPair_89 : decode cX1_readPair 89 = .ok (.getfield 71, 3) := dc_of dtX1_readPair_61_1_ok (i := 14) rfl
theorem dX1_readPair_92 : decode cX1_readPair 92 = .ok (.aload_n 0, 1) := dc_of dtX1_readPair_61_1_ok (i := 15) rfl
theorem dX1_readPair_93 : decode cX1_readPair 93 = .ok (.getfield 44, 3) := dc_of dtX1_readPair_61_1_ok (i := 16) rfl
theorem dX1_readPair_96 : decode cX1_readPair 96 = .ok (.iaload, 1) := dc_of dtX1_readPair_61_1_ok (i := 17) rfl
theorem dX1_readPair_97 : decode cX1_readPair 97 = .ok (.putfield 205, 3) := dc_of dtX1_readPair_61_1_ok (i := 18) rfl
theorem dX1_readPair_100 : decode cX1_readPair 100 = .ok (.aload_n 0, 1) := dc_of dtX1_readPair_61_1_ok (i := 19) rfl
theorem dX1_readPair_101 : decode cX1_readPair 101 = .ok (.invokevirtual 75, 3) := dc_of dtX1_readPair_61_1_ok (i := 20) rfl
theorem dX1_readPair_104 : decode cX1_readPair 104 = .ok (.iload_n 2, 1) := dc_of dtX1_readPair_61_1_ok (i := 21) rfl
theorem dX1_readPair_105 : decode cX1_readPair 105 = .ok (.ireturn, 1) := dc_of dtX1_readPair_61_1_ok (i := 22) rfl
set_option maxRecDepth 20000 in
theorem ggX1_readTwoAlike_X1_readFirst : GoodIn wsX1_readTwoAlike wsX1_readFirst := goodIn_r _ [13, 7, 1, 2, 3, 4, 14, 5, 6, 8, 15, 16, 17, 12, 18, 19, 20, 21, 22, 23, 24, 25, 26, 27, 28, 29, 30, 31, 32, 33, 34, 35, 36, 37, 38, 39, 40, 41, 48, 49, 50, 51, 52, 53, 54, 55, 56, 60, 61, 62, 63, 64, 65, 66, 67, 68, 69, 70, 71, 72, 73, 74, 57, 58, 59] rfl gw_wsX1_readFirst
set_option maxRecDepth 20000 in
theorem gX1_readTwoAlike_X1_readFirst : GoodIn wsX1_readTwoAlike (wsV RX1 161 RX1 yX1_readFirst wsX1_readFirst) := goodIn_app (goodIn_of _ (by decide +kernel)) ggX1_readTwoAlike_X1_readFirst
set_option maxRecDepth 20000 in
theorem ggX1_readTwoAlike_X1_seeRelation : GoodIn wsX1_readTwoAlike wsX1_seeRelation := goodIn_r _ [18, 1, 2, 3, 4, 19, 20, 21, 12, 22, 23, 24, 25, 26, 27, 28, 29, 30, 31, 32, 33, 34, 35, 36, 48, 49, 50, 51, 52, 53, 54, 55, 56, 57, 58, 59, 60, 61, 62, 63, 64, 65, 66, 67, 68, 69, 70, 71, 72, 73, 74] rfl gw_wsX1_seeRelation
set_option maxRecDepth 20000 in
theorem gX1_readTwoAlike_X1_seeRelation : GoodIn wsX1_readTwoAlike (wsV RX1 152 RX1 yX1_seeRelation wsX1_seeRelation) := goodIn_app (goodIn_of _ (by decide +kernel)) ggX1_readTwoAlike_X1_seeRelation
set_option maxRecDepth 20000 in
theorem ggX1_readTwoAlike_X2_relationOf : GoodIn wsX1_readTwoAlike wsX2_relationOf := goodIn_r _ [33, 34, 35, 36, 57, 58, 59, 60, 61, 62, 63, 64, 65, 66, 67, 68, 69, 70, 71, 72, 73, 74] rfl gw_wsX2_relationOf
set_option maxRecDepth 20000 in
theorem gX1_readTwoAlike_X2_relationOf : GoodIn wsX1_readTwoAlike (wsV RX1 97 RX2 yX2_relationOf wsX2_relationOf) := goodIn_app (goodIn_of _ (by decide +kernel)) ggX1_readTwoAlike_X2_relationOf
set_option maxRecDepth 20000 in
theorem ggX1_readTwoAlike_X1_readSecond : GoodIn wsX1_readTwoAlike wsX1_readSecond := goodIn_r _ [45, 7, 1, 2, 3, 4, 46, 5, 6, 47, 15, 16, 17, 12, 18, 19, 20, 21, 22, 23, 24, 25, 26, 27, 28, 29, 30, 31, 32, 33, 34, 35, 36, 37, 38, 39, 40, 41, 48, 49, 50, 51, 52, 53, 54, 55, 56, 60, 61, 62, 63, 64, 65, 66, 67, 68, 69, 70, 71, 72, 73, 74, 57, 58, 59] rfl gw_wsX1_readSecond
set_option maxRecDepth 20000 in
theorem gX1_readTwoAlike_X1_readSecond : GoodIn wsX1_readTwoAlike (wsV RX1 190 RX1 yX1_readSecond wsX1_readSecond) := goodIn_app (goodIn_of _ (by decide +kernel)) ggX1_readTwoAlike_X1_readSecond
def dtX1_readTwoAlike_0_0 : List (Nat × Instr × Nat) := [(0, .aload_n 0, 1), (1, .invokevirtual 161, 3), (4, .istore_n 1, 1), (5, .iload_n 1, 1), (6, .ifCond .ne 8, 3), (9, .aload_n 0, 1), (10, .invokevirtual 152, 3), (13, .istore_n 1, 1), (14, .iload_n 1, 1), (15, .ifCond .eq 5, 3), (18, .iload_n 1, 1), (19, .ireturn, 1), (20, .aload_n 0, 1), (21, .getfield 21, 3), (24, .aload_n 0, 1), (25, .getfield 12, 3), (28, .getfield 93, 3), (31, .aload_n 0, 1), (32, .getfield 44, 3), (35, .laload, 1), (36, .invokevirtual 97, 3), (39, .istore_n 2, 1), (40, .aload_n 0, 1), (41, .getfield 21, 3), (44, .getfield 25, 3), (47, .iload_n 2, 1), (48, .aaload, 1), (49, .getfield 136, 3), (52, .aload_n 0, 1), (53, .getfield 29, 3), (56, .getfield 143, 3), (59, .if_icmp .eq 5, 3)]
theorem dtX1_readTwoAlike_0_0_ok : dcAll cX1_readTwoAlike dtX1_readTwoAlike_0_0 = true := by decide +kernel
theorem dX1_readTwoAlike_0 : decode cX1_readTwoAlike 0 = .ok (.aload_n 0, 1) := dc_of dtX1_readTwoAlike_0_0_ok (i := 0) rfl
theorem dX1_readTwoAlike_1 : decode cX1_readTwoAlike 1 = .ok (.invokevirtual 161, 3) := dc_of dtX1_readTwoAlike_0_0_ok (i := 1) rfl
theorem dX1_readTwoAlike_4 : decode cX1_readTwoAlike 4 = .ok (.istore_n 1, 1) := dc_of dtX1_readTwoAlike_0_0_ok (i := 2) rfl
theorem dX1_readTwoAlike_5 : decode cX1_readTwoAlike 5 = .ok (.iload_n 1, 1) := dc_of dtX1_readTwoAlike_0_0_ok (i := 3) rfl
theorem dX1_readTwoAlike_6 : decode cX1_readTwoAlike 6 = .ok (.ifCond .ne 8, 3) := dc_of dtX1_readTwoAlike_0_0_ok (i := 4) rfl
theorem dX1_readTwoAlike_9 : decode cX1_readTwoAlike 9 = .ok (.aload_n 0, 1) := dc_of dtX1_readTwoAlike_0_0_ok (i := 5) rfl
theorem dX1_readTwoAlike_10 : decode cX1_readTwoAlike 10 = .ok (.invokevirtual 152, 3) := dc_of dtX1_readTwoAlike_0_0_ok (i := 6) rfl
theorem dX1_readTwoAlike_13 : decode cX1_readTwoAlike 13 = .ok (.istore_n 1, 1) := dc_of dtX1_readTwoAlike_0_0_ok (i := 7) rfl
theorem dX1_readTwoAlike_14 : decode cX1_readTwoAlike 14 = .ok (.iload_n 1, 1) := dc_of dtX1_readTwoAlike_0_0_ok (i := 8) rfl
theorem dX1_readTwoAlike_15 : decode cX1_readTwoAlike 15 = .ok (.ifCond .eq 5, 3) := dc_of dtX1_readTwoAlike_0_0_ok (i := 9) rfl
theorem dX1_readTwoAlike_18 : decode cX1_readTwoAlike 18 = .ok (.iload_n 1, 1) := dc_of dtX1_readTwoAlike_0_0_ok (i := 10) rfl
theorem dX1_readTwoAlike_19 : decode cX1_readTwoAlike 19 = .ok (.ireturn, 1) := dc_of dtX1_readTwoAlike_0_0_ok (i := 11) rfl
theorem dX1_readTwoAlike_20 : decode cX1_readTwoAlike 20 = .ok (.aload_n 0, 1) := dc_of dtX1_readTwoAlike_0_0_ok (i := 12) rfl
theorem dX1_readTwoAlike_21 : decode cX1_readTwoAlike 21 = .ok (.getfield 21, 3) := dc_of dtX1_readTwoAlike_0_0_ok (i := 13) rfl
theorem dX1_readTwoAlike_24 : decode cX1_readTwoAlike 24 = .ok (.aload_n 0, 1) := dc_of dtX1_readTwoAlike_0_0_ok (i := 14) rfl
theorem dX1_readTwoAlike_25 : decode cX1_readTwoAlike 25 = .ok (.getfield 12, 3) := dc_of dtX1_readTwoAlike_0_0_ok (i := 15) rfl
theorem dX1_readTwoAlike_28 : decode cX1_readTwoAlike 28 = .ok (.getfield 93, 3) := dc_of dtX1_readTwoAlike_0_0_ok (i := 16) rfl
theorem dX1_readTwoAlike_31 : decode cX1_readTwoAlike 31 = .ok (.aload_n 0, 1) := dc_of dtX1_readTwoAlike_0_0_ok (i := 17) rfl
theorem dX1_readTwoAlike_32 : decode cX1_readTwoAlike 32 = .ok (.getfield 44, 3) := dc_of dtX1_readTwoAlike_0_0_ok (i := 18) rfl
theorem dX1_readTwoAlike_35 : decode cX1_readTwoAlike 35 = .ok (.laload, 1) := dc_of dtX1_readTwoAlike_0_0_ok (i := 19) rfl
theorem dX1_readTwoAlike_36 : decode cX1_readTwoAlike 36 = .ok (.invokevirtual 97, 3) := dc_of dtX1_readTwoAlike_0_0_ok (i := 20) rfl
theorem dX1_readTwoAlike_39 : decode cX1_readTwoAlike 39 = .ok (.istore_n 2, 1) := dc_of dtX1_readTwoAlike_0_0_ok (i := 21) rfl
theorem dX1_readTwoAlike_40 : decode cX1_readTwoAlike 40 = .ok (.aload_n 0, 1) := dc_of dtX1_readTwoAlike_0_0_ok (i := 22) rfl
theorem dX1_readTwoAlike_41 : decode cX1_readTwoAlike 41 = .ok (.getfield 21, 3) := dc_of dtX1_readTwoAlike_0_0_ok (i := 23) rfl
theorem dX1_readTwoAlike_44 : decode cX1_readTwoAlike 44 = .ok (.getfield 25, 3) := dc_of dtX1_readTwoAlike_0_0_ok (i := 24) rfl
theorem dX1_readTwoAlike_47 : decode cX1_readTwoAlike 47 = .ok (.iload_n 2, 1) := dc_of dtX1_readTwoAlike_0_0_ok (i := 25) rfl
theorem dX1_readTwoAlike_48 : decode cX1_readTwoAlike 48 = .ok (.aaload, 1) := dc_of dtX1_readTwoAlike_0_0_ok (i := 26) rfl
theorem dX1_readTwoAlike_49 : decode cX1_readTwoAlike 49 = .ok (.getfield 136, 3) := dc_of dtX1_readTwoAlike_0_0_ok (i := 27) rfl
theorem dX1_readTwoAlike_52 : decode cX1_readTwoAlike 52 = .ok (.aload_n 0, 1) := dc_of dtX1_readTwoAlike_0_0_ok (i := 28) rfl
theorem dX1_readTwoAlike_53 : decode cX1_readTwoAlike 53 = .ok (.getfield 29, 3) := dc_of dtX1_readTwoAlike_0_0_ok (i := 29) rfl
theorem dX1_readTwoAlike_56 : decode cX1_readTwoAlike 56 = .ok (.getfield 143, 3) := dc_of dtX1_readTwoAlike_0_0_ok (i := 30) rfl
theorem dX1_readTwoAlike_59 : decode cX1_readTwoAlike 59 = .ok (.if_icmp .eq 5, 3) := dc_of dtX1_readTwoAlike_0_0_ok (i := 31) rfl
def dtX1_readTwoAlike_62_1 : List (Nat × Instr × Nat) := [(62, .iconst 5, 1), (63, .ireturn, 1), (64, .aload_n 0, 1), (65, .getfield 29, 3), (68, .aload_n 0, 1), (69, .getfield 29, 3), (72, .getfield 143, 3), (75, .putfield 136, 3), (78, .aload_n 0, 1), (79, .invokevirtual 190, 3), (82, .ireturn, 1)]
theorem dtX1_readTwoAlike_62_1_ok : dcAll cX1_readTwoAlike dtX1_readTwoAlike_62_1 = true := by decide +kernel
theorem dX1_readTwoAlike_62 : decode cX1_readTwoAlike 62 = .ok (.iconst 5, 1) := dc_of dtX1_readTwoAlike_62_1_ok (i := 0) rfl
theorem dX1_readTwoAlike_63 : decode cX1_readTwoAlike 63 = .ok (.ireturn, 1) := dc_of dtX1_readTwoAlike_62_1_ok (i := 1) rfl
theorem dX1_readTwoAlike_64 : decode cX1_readTwoAlike 64 = .ok (.aload_n 0, 1) := dc_of dtX1_readTwoAlike_62_1_ok (i := 2) rfl
theorem dX1_readTwoAlike_65 : decode cX1_readTwoAlike 65 = .ok (.getfield 29, 3) := dc_of dtX1_readTwoAlike_62_1_ok (i := 3) rfl
theorem dX1_readTwoAlike_68 : decode cX1_readTwoAlike 68 = .ok (.aload_n 0, 1) := dc_of dtX1_readTwoAlike_62_1_ok (i := 4) rfl
theorem dX1_readTwoAlike_69 : decode cX1_readTwoAlike 69 = .ok (.getfield 29, 3) := dc_of dtX1_readTwoAlike_62_1_ok (i := 5) rfl
theorem dX1_readTwoAlike_72 : decode cX1_readTwoAlike 72 = .ok (.getfield 143, 3) := dc_of dtX1_readTwoAlike_62_1_ok (i := 6) rfl
theorem dX1_readTwoAlike_75 : decode cX1_readTwoAlike 75 = .ok (.putfield 136, 3) := dc_of dtX1_readTwoAlike_62_1_ok (i := 7) rfl
theorem dX1_readTwoAlike_78 : decode cX1_readTwoAlike 78 = .ok (.aload_n 0, 1) := dc_of dtX1_readTwoAlike_62_1_ok (i := 8) rfl
theorem dX1_readTwoAlike_79 : decode cX1_readTwoAlike 79 = .ok (.invokevirtual 190, 3) := dc_of dtX1_readTwoAlike_62_1_ok (i := 9) rfl
theorem dX1_readTwoAlike_82 : decode cX1_readTwoAlike 82 = .ok (.ireturn, 1) := dc_of dtX1_readTwoAlike_62_1_ok (i := 10) rfl
set_option maxRecDepth 20000 in
theorem ggX1_readDistinct_X1_readFirst : GoodIn wsX1_readDistinct wsX1_readFirst := goodIn_r _ [8, 1, 9, 10, 11, 12, 13, 14, 3, 2, 15, 16, 17, 7, 18, 19, 20, 21, 22, 23, 24, 25, 26, 27, 28, 29, 30, 31, 32, 33, 34, 35, 36, 37, 38, 39, 40, 41, 42, 43, 44, 45, 61, 62, 63, 64, 65, 46, 47, 48, 49, 50, 51, 52, 53, 54, 55, 56, 57, 58, 59, 60, 66, 67, 68] rfl gw_wsX1_readFirst
set_option maxRecDepth 20000 in
theorem gX1_readDistinct_X1_readFirst : GoodIn wsX1_readDistinct (wsV RX1 161 RX1 yX1_readFirst wsX1_readFirst) := goodIn_app (goodIn_of _ (by decide +kernel)) ggX1_readDistinct_X1_readFirst
def dtX1_readDistinct_0_0 : List (Nat × Instr × Nat) := [(0, .aload_n 0, 1), (1, .invokevirtual 161, 3), (4, .istore_n 1, 1), (5, .aload_n 0, 1), (6, .getfield 29, 3), (9, .aload_n 0, 1), (10, .getfield 29, 3), (13, .getfield 143, 3), (16, .putfield 136, 3), (19, .iload_n 1, 1), (20, .ireturn, 1)]
theorem dtX1_readDistinct_0_0_ok : dcAll cX1_readDistinct dtX1_readDistinct_0_0 = true := by decide +kernel
theorem dX1_readDistinct_0 : decode cX1_readDistinct 0 = .ok (.aload_n 0, 1) := dc_of dtX1_readDistinct_0_0_ok (i := 0) rfl
theorem dX1_readDistinct_1 : decode cX1_readDistinct 1 = .ok (.invokevirtual 161, 3) := dc_of dtX1_readDistinct_0_0_ok (i := 1) rfl
theorem dX1_readDistinct_4 : decode cX1_readDistinct 4 = .ok (.istore_n 1, 1) := dc_of dtX1_readDistinct_0_0_ok (i := 2) rfl
theorem dX1_readDistinct_5 : decode cX1_readDistinct 5 = .ok (.aload_n 0, 1) := dc_of dtX1_readDistinct_0_0_ok (i := 3) rfl
theorem dX1_readDistinct_6 : decode cX1_readDistinct 6 = .ok (.getfield 29, 3) := dc_of dtX1_readDistinct_0_0_ok (i := 4) rfl
theorem dX1_readDistinct_9 : decode cX1_readDistinct 9 = .ok (.aload_n 0, 1) := dc_of dtX1_readDistinct_0_0_ok (i := 5) rfl
theorem dX1_readDistinct_10 : decode cX1_readDistinct 10 = .ok (.getfield 29, 3) := dc_of dtX1_readDistinct_0_0_ok (i := 6) rfl
theorem dX1_readDistinct_13 : decode cX1_readDistinct 13 = .ok (.getfield 143, 3) := dc_of dtX1_readDistinct_0_0_ok (i := 7) rfl
theorem dX1_readDistinct_16 : decode cX1_readDistinct 16 = .ok (.putfield 136, 3) := dc_of dtX1_readDistinct_0_0_ok (i := 8) rfl
theorem dX1_readDistinct_19 : decode cX1_readDistinct 19 = .ok (.iload_n 1, 1) := dc_of dtX1_readDistinct_0_0_ok (i := 9) rfl
theorem dX1_readDistinct_20 : decode cX1_readDistinct 20 = .ok (.ireturn, 1) := dc_of dtX1_readDistinct_0_0_ok (i := 10) rfl
set_option maxRecDepth 20000 in
theorem ggX1_readGroup_X1_readFirst : GoodIn wsX1_readGroup wsX1_readFirst := goodIn_r _ [8, 1, 9, 10, 11, 12, 13, 14, 3, 15, 16, 17, 18, 7, 19, 20, 21, 22, 23, 24, 25, 26, 27, 28, 29, 30, 31, 32, 33, 34, 35, 36, 37, 38, 39, 40, 41, 42, 76, 77, 78, 79, 95, 96, 97, 98, 99, 80, 81, 82, 83, 84, 85, 86, 87, 88, 89, 90, 91, 92, 93, 94, 100, 101, 102] rfl gw_wsX1_readFirst
set_option maxRecDepth 20000 in
theorem gX1_readGroup_X1_readFirst : GoodIn wsX1_readGroup (wsV RX1 161 RX1 yX1_readFirst wsX1_readFirst) := goodIn_app (goodIn_of _ (by decide +kernel)) ggX1_readGroup_X1_readFirst
set_option maxRecDepth 20000 in
theorem ggX1_readGroup_X1_takeWord : GoodIn wsX1_readGroup wsX1_takeWord := goodIn_r _ [46, 20, 21, 22, 7, 23, 10, 24, 12, 25, 26, 27, 28, 29, 38, 39, 40, 41, 42, 76, 77, 78, 79, 95, 96, 97, 98, 99] rfl gw_wsX1_takeWord
set_option maxRecDepth 20000 in
theorem gX1_readGroup_X1_takeWord : GoodIn wsX1_readGroup (wsV RX1 164 RX1 yX1_takeWord wsX1_takeWord) := goodIn_app (goodIn_of _ (by decide +kernel)) ggX1_readGroup_X1_takeWord
set_option maxRecDepth 20000 in
theorem gw_wsX1_readByColumns : wsX1_readByColumns.all goodWord = true := by decide +kernel
set_option maxRecDepth 20000 in
theorem ggX1_readGroup_X1_readByColumns : GoodIn wsX1_readGroup wsX1_readByColumns := goodIn_r _ [50, 51, 52, 53, 7, 54, 1, 15, 10, 24, 12, 2, 55, 56, 57, 58, 25, 26, 27, 28, 29, 59, 60, 61, 62, 63, 64, 65, 66, 67, 68, 69, 38, 39, 40, 41, 42, 76, 77, 78, 79, 80, 81, 82, 83, 84, 85, 86, 87, 88, 89, 90, 91, 92, 93, 94, 95, 96, 97, 98, 99] rfl gw_wsX1_readByColumns
set_option maxRecDepth 20000 in
theorem gX1_readGroup_X1_readByColumns : GoodIn wsX1_readGroup (wsV RX1 208 RX1 yX1_readByColumns wsX1_readByColumns) := goodIn_app (goodIn_of _ (by decide +kernel)) ggX1_readGroup_X1_readByColumns
set_option maxRecDepth 20000 in
theorem gw_wsX1_readFold : wsX1_readFold.all goodWord = true := by decide +kernel
set_option maxRecDepth 20000 in
theorem ggX1_readGroup_X1_readFold : GoodIn wsX1_readGroup wsX1_readFold := goodIn_r _ [73, 10, 24, 12, 1, 74, 75, 15, 25, 26, 27, 7, 28, 29, 38, 39, 40, 41, 42, 55, 56, 57, 58, 76, 77, 78, 79, 95, 96, 97, 98, 99, 80, 81, 82, 83, 84, 85, 86, 87, 88, 89, 90, 91, 92, 93, 94] rfl gw_wsX1_readFold
set_option maxRecDepth 20000 in
theorem gX1_readGroup_X1_readFold : GoodIn wsX1_readGroup (wsV RX1 211 RX1 yX1_readFold wsX1_readFold) := goodIn_app (goodIn_of _ (by decide +kernel)) ggX1_readGroup_X1_readFold
def dtX1_readGroup_0_0 : List (Nat × Instr × Nat) := [(0, .aload_n 0, 1), (1, .invokevirtual 161, 3), (4, .istore_n 1, 1), (5, .iload_n 1, 1), (6, .ifCond .ne 10, 3), (9, .aload_n 0, 1), (10, .bipush 13, 2), (12, .invokevirtual 164, 3), (15, .istore_n 1, 1), (16, .iload_n 1, 1), (17, .ifCond .ne 8, 3), (20, .aload_n 0, 1), (21, .invokevirtual 208, 3), (24, .istore_n 1, 1), (25, .iload_n 1, 1), (26, .ifCond .ne 8, 3), (29, .aload_n 0, 1), (30, .invokevirtual 211, 3), (33, .istore_n 1, 1), (34, .aload_n 0, 1), (35, .getfield 29, 3), (38, .aload_n 0, 1), (39, .getfield 29, 3), (42, .getfield 149, 3), (45, .iconst 1, 1), (46, .iadd, 1), (47, .putfield 136, 3), (50, .iload_n 1, 1), (51, .ireturn, 1)]
theorem dtX1_readGroup_0_0_ok : dcAll cX1_readGroup dtX1_readGroup_0_0 = true := by decide +kernel
theorem dX1_readGroup_0 : decode cX1_readGroup 0 = .ok (.aload_n 0, 1) := dc_of dtX1_readGroup_0_0_ok (i := 0) rfl
theorem dX1_readGroup_1 : decode cX1_readGroup 1 = .ok (.invokevirtual 161, 3) := dc_of dtX1_readGroup_0_0_ok (i := 1) rfl
theorem dX1_readGroup_4 : decode cX1_readGroup 4 = .ok (.istore_n 1, 1) := dc_of dtX1_readGroup_0_0_ok (i := 2) rfl
theorem dX1_readGroup_5 : decode cX1_readGroup 5 = .ok (.iload_n 1, 1) := dc_of dtX1_readGroup_0_0_ok (i := 3) rfl
theorem dX1_readGroup_6 : decode cX1_readGroup 6 = .ok (.ifCond .ne 10, 3) := dc_of dtX1_readGroup_0_0_ok (i := 4) rfl
theorem dX1_readGroup_9 : decode cX1_readGroup 9 = .ok (.aload_n 0, 1) := dc_of dtX1_readGroup_0_0_ok (i := 5) rfl
theorem dX1_readGroup_10 : decode cX1_readGroup 10 = .ok (.bipush 13, 2) := dc_of dtX1_readGroup_0_0_ok (i := 6) rfl
theorem dX1_readGroup_12 : decode cX1_readGroup 12 = .ok (.invokevirtual 164, 3) := dc_of dtX1_readGroup_0_0_ok (i := 7) rfl
theorem dX1_readGroup_15 : decode cX1_readGroup 15 = .ok (.istore_n 1, 1) := dc_of dtX1_readGroup_0_0_ok (i := 8) rfl
theorem dX1_readGroup_16 : decode cX1_readGroup 16 = .ok (.iload_n 1, 1) := dc_of dtX1_readGroup_0_0_ok (i := 9) rfl
theorem dX1_readGroup_17 : decode cX1_readGroup 17 = .ok (.ifCond .ne 8, 3) := dc_of dtX1_readGroup_0_0_ok (i := 10) rfl
theorem dX1_readGroup_20 : decode cX1_readGroup 20 = .ok (.aload_n 0, 1) := dc_of dtX1_readGroup_0_0_ok (i := 11) rfl
theorem dX1_readGroup_21 : decode cX1_readGroup 21 = .ok (.invokevirtual 208, 3) := dc_of dtX1_readGroup_0_0_ok (i := 12) rfl
theorem dX1_readGroup_24 : decode cX1_readGroup 24 = .ok (.istore_n 1, 1) := dc_of dtX1_readGroup_0_0_ok (i := 13) rfl
theorem dX1_readGroup_25 : decode cX1_readGroup 25 = .ok (.iload_n 1, 1) := dc_of dtX1_readGroup_0_0_ok (i := 14) rfl
theorem dX1_readGroup_26 : decode cX1_readGroup 26 = .ok (.ifCond .ne 8, 3) := dc_of dtX1_readGroup_0_0_ok (i := 15) rfl
theorem dX1_readGroup_29 : decode cX1_readGroup 29 = .ok (.aload_n 0, 1) := dc_of dtX1_readGroup_0_0_ok (i := 16) rfl
theorem dX1_readGroup_30 : decode cX1_readGroup 30 = .ok (.invokevirtual 211, 3) := dc_of dtX1_readGroup_0_0_ok (i := 17) rfl
theorem dX1_readGroup_33 : decode cX1_readGroup 33 = .ok (.istore_n 1, 1) := dc_of dtX1_readGroup_0_0_ok (i := 18) rfl
theorem dX1_readGroup_34 : decode cX1_readGroup 34 = .ok (.aload_n 0, 1) := dc_of dtX1_readGroup_0_0_ok (i := 19) rfl
theorem dX1_readGroup_35 : decode cX1_readGroup 35 = .ok (.getfield 29, 3) := dc_of dtX1_readGroup_0_0_ok (i := 20) rfl
theorem dX1_readGroup_38 : decode cX1_readGroup 38 = .ok (.aload_n 0, 1) := dc_of dtX1_readGroup_0_0_ok (i := 21) rfl
theorem dX1_readGroup_39 : decode cX1_readGroup 39 = .ok (.getfield 29, 3) := dc_of dtX1_readGroup_0_0_ok (i := 22) rfl
theorem dX1_readGroup_42 : decode cX1_readGroup 42 = .ok (.getfield 149, 3) := dc_of dtX1_readGroup_0_0_ok (i := 23) rfl
theorem dX1_readGroup_45 : decode cX1_readGroup 45 = .ok (.iconst 1, 1) := dc_of dtX1_readGroup_0_0_ok (i := 24) rfl
theorem dX1_readGroup_46 : decode cX1_readGroup 46 = .ok (.iadd, 1) := dc_of dtX1_readGroup_0_0_ok (i := 25) rfl
theorem dX1_readGroup_47 : decode cX1_readGroup 47 = .ok (.putfield 136, 3) := dc_of dtX1_readGroup_0_0_ok (i := 26) rfl
theorem dX1_readGroup_50 : decode cX1_readGroup 50 = .ok (.iload_n 1, 1) := dc_of dtX1_readGroup_0_0_ok (i := 27) rfl
theorem dX1_readGroup_51 : decode cX1_readGroup 51 = .ok (.ireturn, 1) := dc_of dtX1_readGroup_0_0_ok (i := 28) rfl
set_option maxRecDepth 20000 in
theorem gw_wsX1_readByColumn : wsX1_readByColumn.all goodWord = true := by decide +kernel
set_option maxRecDepth 20000 in
theorem ggX1_readByColumns_X1_readByColumn : GoodIn wsX1_readByColumns wsX1_readByColumn := goodIn_r _ [5, 6, 7, 8, 9, 10, 11, 12, 13, 14, 4, 15, 16, 17, 18, 19, 20, 21, 22, 23, 24, 25, 26, 27, 28, 29, 30, 31, 32, 33, 34, 35, 36, 37, 38, 39, 40, 41, 42, 43, 44, 45, 46, 47, 48, 49, 50, 51, 52, 53, 54, 55, 56, 57, 58, 59, 60] rfl gw_wsX1_readByColumn
set_option maxRecDepth 20000 in
theorem gX1_readByColumns_X1_readByColumn : GoodIn wsX1_readByColumns (wsV RX1 214 RX1 yX1_readByColumn wsX1_readByColumn) := goodIn_app (goodIn_of _ (by decide +kernel)) ggX1_readByColumns_X1_readByColumn
set_option maxRecDepth 20000 in
theorem ggX1_readByColumns_X1_isKind : GoodIn wsX1_readByColumns wsX1_isKind := goodIn_r _ [19, 8, 20, 10, 37, 38, 39, 40, 56, 57, 58, 59, 60] rfl gw_wsX1_isKind
set_option maxRecDepth 20000 in
theorem gX1_readByColumns_X1_isKind : GoodIn wsX1_readByColumns (wsV RX1 67 RX1 yX1_isKind wsX1_isKind) := goodIn_app (goodIn_of _ (by decide +kernel)) ggX1_readByColumns_X1_isKind
set_option maxRecDepth 20000 in
theorem ggX1_readByColumns_X1_step : GoodIn wsX1_readByColumns wsX1_step := goodIn_r _ [35, 10, 8, 36, 37, 38, 39, 40, 56, 57, 58, 59, 60] rfl gw_wsX1_step
set_option maxRecDepth 20000 in
theorem gX1_readByColumns_X1_step : GoodIn wsX1_readByColumns (wsV RX1 75 RX1 yX1_step wsX1_step) := goodIn_app (goodIn_of _ (by decide +kernel)) ggX1_readByColumns_X1_step
def dtX1_readByColumns_0_0 : List (Nat × Instr × Nat) := [(0, .iconst 0, 1), (1, .istore_n 1, 1), (2, .iload_n 1, 1), (3, .iconst 3, 1), (4, .if_icmp .gt 33, 3), (7, .aload_n 0, 1), (8, .invokevirtual 214, 3), (11, .istore_n 2, 1), (12, .iload_n 2, 1), (13, .ifCond .ne 12, 3), (16, .aload_n 0, 1), (17, .bipush 44, 2), (19, .invokevirtual 67, 3), (22, .ifCond .ne 5, 3), (25, .iload_n 2, 1), (26, .ireturn, 1), (27, .aload_n 0, 1), (28, .invokevirtual 75, 3), (31, .iinc 1 1, 3), (34, .goto (-32), 3), (37, .iconst 4, 1), (38, .ireturn, 1)]
theorem dtX1_readByColumns_0_0_ok : dcAll cX1_readByColumns dtX1_readByColumns_0_0 = true := by decide +kernel
theorem dX1_readByColumns_0 : decode cX1_readByColumns 0 = .ok (.iconst 0, 1) := dc_of dtX1_readByColumns_0_0_ok (i := 0) rfl
theorem dX1_readByColumns_1 : decode cX1_readByColumns 1 = .ok (.istore_n 1, 1) := dc_of dtX1_readByColumns_0_0_ok (i := 1) rfl
theorem dX1_readByColumns_2 : decode cX1_readByColumns 2 = .ok (.iload_n 1, 1) := dc_of dtX1_readByColumns_0_0_ok (i := 2) rfl
theorem dX1_readByColumns_3 : decode cX1_readByColumns 3 = .ok (.iconst 3, 1) := dc_of dtX1_readByColumns_0_0_ok (i := 3) rfl
theorem dX1_readByColumns_4 : decode cX1_readByColumns 4 = .ok (.if_icmp .gt 33, 3) := dc_of dtX1_readByColumns_0_0_ok (i := 4) rfl
theorem dX1_readByColumns_7 : decode cX1_readByColumns 7 = .ok (.aload_n 0, 1) := dc_of dtX1_readByColumns_0_0_ok (i := 5) rfl
theorem dX1_readByColumns_8 : decode cX1_readByColumns 8 = .ok (.invokevirtual 214, 3) := dc_of dtX1_readByColumns_0_0_ok (i := 6) rfl
theorem dX1_readByColumns_11 : decode cX1_readByColumns 11 = .ok (.istore_n 2, 1) := dc_of dtX1_readByColumns_0_0_ok (i := 7) rfl
theorem dX1_readByColumns_12 : decode cX1_readByColumns 12 = .ok (.iload_n 2, 1) := dc_of dtX1_readByColumns_0_0_ok (i := 8) rfl
theorem dX1_readByColumns_13 : decode cX1_readByColumns 13 = .ok (.ifCond .ne 12, 3) := dc_of dtX1_readByColumns_0_0_ok (i := 9) rfl
theorem dX1_readByColumns_16 : decode cX1_readByColumns 16 = .ok (.aload_n 0, 1) := dc_of dtX1_readByColumns_0_0_ok (i := 10) rfl
theorem dX1_readByColumns_17 : decode cX1_readByColumns 17 = .ok (.bipush 44, 2) := dc_of dtX1_readByColumns_0_0_ok (i := 11) rfl
theorem dX1_readByColumns_19 : decode cX1_readByColumns 19 = .ok (.invokevirtual 67, 3) := dc_of dtX1_readByColumns_0_0_ok (i := 12) rfl
theorem dX1_readByColumns_22 : decode cX1_readByColumns 22 = .ok (.ifCond .ne 5, 3) := dc_of dtX1_readByColumns_0_0_ok (i := 13) rfl
theorem dX1_readByColumns_25 : decode cX1_readByColumns 25 = .ok (.iload_n 2, 1) := dc_of dtX1_readByColumns_0_0_ok (i := 14) rfl
theorem dX1_readByColumns_26 : decode cX1_readByColumns 26 = .ok (.ireturn, 1) := dc_of dtX1_readByColumns_0_0_ok (i := 15) rfl
theorem dX1_readByColumns_27 : decode cX1_readByColumns 27 = .ok (.aload_n 0, 1) := dc_of dtX1_readByColumns_0_0_ok (i := 16) rfl
theorem dX1_readByColumns_28 : decode cX1_readByColumns 28 = .ok (.invokevirtual 75, 3) := dc_of dtX1_readByColumns_0_0_ok (i := 17) rfl
theorem dX1_readByColumns_31 : decode cX1_readByColumns 31 = .ok (.iinc 1 1, 3) := dc_of dtX1_readByColumns_0_0_ok (i := 18) rfl
theorem dX1_readByColumns_34 : decode cX1_readByColumns 34 = .ok (.goto (-32), 3) := dc_of dtX1_readByColumns_0_0_ok (i := 19) rfl
theorem dX1_readByColumns_37 : decode cX1_readByColumns 37 = .ok (.iconst 4, 1) := dc_of dtX1_readByColumns_0_0_ok (i := 20) rfl
theorem dX1_readByColumns_38 : decode cX1_readByColumns 38 = .ok (.ireturn, 1) := dc_of dtX1_readByColumns_0_0_ok (i := 21) rfl
set_option maxRecDepth 20000 in
theorem ggX1_readByColumn_X1_seeColumn : GoodIn wsX1_readByColumn wsX1_seeColumn := goodIn_r _ [11, 3, 4, 5, 12, 13, 14, 10, 15, 16, 33, 34, 35, 36, 52, 53, 54, 55, 56] rfl gw_wsX1_seeColumn
set_option maxRecDepth 20000 in
theorem gX1_readByColumn_X1_seeColumn : GoodIn wsX1_readByColumn (wsV RX1 173 RX1 yX1_seeColumn wsX1_seeColumn) := goodIn_app (goodIn_of _ (by decide +kernel)) ggX1_readByColumn_X1_seeColumn
set_option maxRecDepth 20000 in
theorem gw_wsX0_hasColumn : wsX0_hasColumn.all goodWord = true := by decide +kernel
set_option maxRecDepth 20000 in
theorem ggX1_readByColumn_X0_hasColumn : GoodIn wsX1_readByColumn wsX0_hasColumn := goodIn_r _ [21, 22, 23, 37, 38, 39, 40, 41, 42, 43, 44, 45, 46, 47, 48, 49, 50, 51] rfl gw_wsX0_hasColumn
set_option maxRecDepth 20000 in
theorem gX1_readByColumn_X0_hasColumn : GoodIn wsX1_readByColumn (wsV RX1 217 RX0 yX0_hasColumn wsX0_hasColumn) := goodIn_app (goodIn_of _ (by decide +kernel)) ggX1_readByColumn_X0_hasColumn
set_option maxRecDepth 20000 in
theorem gw_wsX0_addColumn : wsX0_addColumn.all goodWord = true := by decide +kernel
set_option maxRecDepth 20000 in
theorem ggX1_readByColumn_X0_addColumn : GoodIn wsX1_readByColumn wsX0_addColumn := goodIn_r _ [27, 23, 22, 37, 38, 39, 40, 41, 42, 43, 44, 45, 46, 47, 48, 49, 50, 51] rfl gw_wsX0_addColumn
set_option maxRecDepth 20000 in
theorem gX1_readByColumn_X0_addColumn : GoodIn wsX1_readByColumn (wsV RX1 220 RX0 yX0_addColumn wsX0_addColumn) := goodIn_app (goodIn_of _ (by decide +kernel)) ggX1_readByColumn_X0_addColumn
set_option maxRecDepth 20000 in
theorem ggX1_readByColumn_X1_step : GoodIn wsX1_readByColumn wsX1_step := goodIn_r _ [31, 5, 3, 32, 33, 34, 35, 36, 52, 53, 54, 55, 56] rfl gw_wsX1_step
set_option maxRecDepth 20000 in
theorem gX1_readByColumn_X1_step : GoodIn wsX1_readByColumn (wsV RX1 75 RX1 yX1_step wsX1_step) := goodIn_app (goodIn_of _ (by decide +kernel)) ggX1_readByColumn_X1_step
def dtX1_readByColumn_0_0 : List (Nat × Instr × Nat) := [(0, .aload_n 0, 1), (1, .aload_n 0, 1), (2, .getfield 29, 3), (5, .getfield 143, 3), (8, .invokevirtual 173, 3), (11, .istore_n 1, 1), (12, .iload_n 1, 1), (13, .ifCond .eq 5, 3), (16, .iload_n 1, 1), (17, .ireturn, 1), (18, .aload_n 0, 1), (19, .getfield 12, 3), (22, .getfield 71, 3), (25, .aload_n 0, 1), (26, .getfield 44, 3), (29, .iaload, 1), (30, .istore_n 2, 1), (31, .aload_n 0, 1), (32, .getfield 29, 3), (35, .iload_n 2, 1), (36, .invokevirtual 217, 3), (39, .ifCond .eq 5, 3), (42, .iconst 2, 1), (43, .ireturn, 1), (44, .aload_n 0, 1), (45, .getfield 29, 3), (48, .getfield 149, 3), (51, .iconst 3, 1), (52, .if_icmp .lt 5, 3), (55, .iconst 4, 1), (56, .ireturn, 1), (57, .aload_n 0, 1)]
theorem dtX1_readByColumn_0_0_ok : dcAll cX1_readByColumn dtX1_readByColumn_0_0 = true := by decide +kernel
theorem dX1_readByColumn_0 : decode cX1_readByColumn 0 = .ok (.aload_n 0, 1) := dc_of dtX1_readByColumn_0_0_ok (i := 0) rfl
theorem dX1_readByColumn_1 : decode cX1_readByColumn 1 = .ok (.aload_n 0, 1) := dc_of dtX1_readByColumn_0_0_ok (i := 1) rfl
theorem dX1_readByColumn_2 : decode cX1_readByColumn 2 = .ok (.getfield 29, 3) := dc_of dtX1_readByColumn_0_0_ok (i := 2) rfl
theorem dX1_readByColumn_5 : decode cX1_readByColumn 5 = .ok (.getfield 143, 3) := dc_of dtX1_readByColumn_0_0_ok (i := 3) rfl
theorem dX1_readByColumn_8 : decode cX1_readByColumn 8 = .ok (.invokevirtual 173, 3) := dc_of dtX1_readByColumn_0_0_ok (i := 4) rfl
theorem dX1_readByColumn_11 : decode cX1_readByColumn 11 = .ok (.istore_n 1, 1) := dc_of dtX1_readByColumn_0_0_ok (i := 5) rfl
theorem dX1_readByColumn_12 : decode cX1_readByColumn 12 = .ok (.iload_n 1, 1) := dc_of dtX1_readByColumn_0_0_ok (i := 6) rfl
theorem dX1_readByColumn_13 : decode cX1_readByColumn 13 = .ok (.ifCond .eq 5, 3) := dc_of dtX1_readByColumn_0_0_ok (i := 7) rfl
theorem dX1_readByColumn_16 : decode cX1_readByColumn 16 = .ok (.iload_n 1, 1) := dc_of dtX1_readByColumn_0_0_ok (i := 8) rfl
theorem dX1_readByColumn_17 : decode cX1_readByColumn 17 = .ok (.ireturn, 1) := dc_of dtX1_readByColumn_0_0_ok (i := 9) rfl
theorem dX1_readByColumn_18 : decode cX1_readByColumn 18 = .ok (.aload_n 0, 1) := dc_of dtX1_readByColumn_0_0_ok (i := 10) rfl
theorem dX1_readByColumn_19 : decode cX1_readByColumn 19 = .ok (.getfield 12, 3) := dc_of dtX1_readByColumn_0_0_ok (i := 11) rfl
theorem dX1_readByColumn_22 : decode cX1_readByColumn 22 = .ok (.getfield 71, 3) := dc_of dtX1_readByColumn_0_0_ok (i := 12) rfl
theorem dX1_readByColumn_25 : decode cX1_readByColumn 25 = .ok (.aload_n 0, 1) := dc_of dtX1_readByColumn_0_0_ok (i := 13) rfl
theorem dX1_readByColumn_26 : decode cX1_readByColumn 26 = .ok (.getfield 44, 3) := dc_of dtX1_readByColumn_0_0_ok (i := 14) rfl
theorem dX1_readByColumn_29 : decode cX1_readByColumn 29 = .ok (.iaload, 1) := dc_of dtX1_readByColumn_0_0_ok (i := 15) rfl
theorem dX1_readByColumn_30 : decode cX1_readByColumn 30 = .ok (.istore_n 2, 1) := dc_of dtX1_readByColumn_0_0_ok (i := 16) rfl
theorem dX1_readByColumn_31 : decode cX1_readByColumn 31 = .ok (.aload_n 0, 1) := dc_of dtX1_readByColumn_0_0_ok (i := 17) rfl
theorem dX1_readByColumn_32 : decode cX1_readByColumn 32 = .ok (.getfield 29, 3) := dc_of dtX1_readByColumn_0_0_ok (i := 18) rfl
theorem dX1_readByColumn_35 : decode cX1_readByColumn 35 = .ok (.iload_n 2, 1) := dc_of dtX1_readByColumn_0_0_ok (i := 19) rfl
theorem dX1_readByColumn_36 : decode cX1_readByColumn 36 = .ok (.invokevirtual 217, 3) := dc_of dtX1_readByColumn_0_0_ok (i := 20) rfl
theorem dX1_readByColumn_39 : decode cX1_readByColumn 39 = .ok (.ifCond .eq 5, 3) := dc_of dtX1_readByColumn_0_0_ok (i := 21) rfl
theorem dX1_readByColumn_42 : decode cX1_readByColumn 42 = .ok (.iconst 2, 1) := dc_of dtX1_readByColumn_0_0_ok (i := 22) rfl
theorem dX1_readByColumn_43 : decode cX1_readByColumn 43 = .ok (.ireturn, 1) := dc_of dtX1_readByColumn_0_0_ok (i := 23) rfl
theorem dX1_readByColumn_44 : decode cX1_readByColumn 44 = .ok (.aload_n 0, 1) := dc_of dtX1_readByColumn_0_0_ok (i := 24) rfl
theorem dX1_readByColumn_45 : decode cX1_readByColumn 45 = .ok (.getfield 29, 3) := dc_of dtX1_readByColumn_0_0_ok (i := 25) rfl
theorem dX1_readByColumn_48 : decode cX1_readByColumn 48 = .ok (.getfield 149, 3) := dc_of dtX1_readByColumn_0_0_ok (i := 26) rfl
theorem dX1_readByColumn_51 : decode cX1_readByColumn 51 = .ok (.iconst 3, 1) := dc_of dtX1_readByColumn_0_0_ok (i := 27) rfl
theorem dX1_readByColumn_52 : decode cX1_readByColumn 52 = .ok (.if_icmp .lt 5, 3) := dc_of dtX1_readByColumn_0_0_ok (i := 28) rfl
theorem dX1_readByColumn_55 : decode cX1_readByColumn 55 = .ok (.iconst 4, 1) := dc_of dtX1_readByColumn_0_0_ok (i := 29) rfl
theorem dX1_readByColumn_56 : decode cX1_readByColumn 56 = .ok (.ireturn, 1) := dc_of dtX1_readByColumn_0_0_ok (i := 30) rfl
theorem dX1_readByColumn_57 : decode cX1_readByColumn 57 = .ok (.aload_n 0, 1) := dc_of dtX1_readByColumn_0_0_ok (i := 31) rfl
def dtX1_readByColumn_58_1 : List (Nat × Instr × Nat) := [(58, .getfield 29, 3), (61, .iload_n 2, 1), (62, .invokevirtual 220, 3), (65, .aload_n 0, 1), (66, .invokevirtual 75, 3), (69, .iconst 0, 1), (70, .ireturn, 1)]
theorem dtX1_readByColumn_58_1_ok : dcAll cX1_readByColumn dtX1_readByColumn_58_1 = true := by decide +kernel
theorem dX1_readByColumn_58 : decode cX1_readByColumn 58 = .ok (.getfield 29, 3) := dc_of dtX1_readByColumn_58_1_ok (i := 0) rfl
theorem dX1_readByColumn_61 : decode cX1_readByColumn 61 = .ok (.iload_n 2, 1) := dc_of dtX1_readByColumn_58_1_ok (i := 1) rfl
theorem dX1_readByColumn_62 : decode cX1_readByColumn 62 = .ok (.invokevirtual 220, 3) := dc_of dtX1_readByColumn_58_1_ok (i := 2) rfl
theorem dX1_readByColumn_65 : decode cX1_readByColumn 65 = .ok (.aload_n 0, 1) := dc_of dtX1_readByColumn_58_1_ok (i := 3) rfl
theorem dX1_readByColumn_66 : decode cX1_readByColumn 66 = .ok (.invokevirtual 75, 3) := dc_of dtX1_readByColumn_58_1_ok (i := 4) rfl
theorem dX1_readByColumn_69 : decode cX1_readByColumn 69 = .ok (.iconst 0, 1) := dc_of dtX1_readByColumn_58_1_ok (i := 5) rfl
theorem dX1_readByColumn_70 : decode cX1_readByColumn 70 = .ok (.ireturn, 1) := dc_of dtX1_readByColumn_58_1_ok (i := 6) rfl
set_option maxRecDepth 20000 in
theorem ggX1_readFold_X1_isKind : GoodIn wsX1_readFold wsX1_isKind := goodIn_r _ [12, 1, 13, 3, 23, 24, 25, 26, 27, 28, 29, 30, 31] rfl gw_wsX1_isKind
set_option maxRecDepth 20000 in
theorem gX1_readFold_X1_isKind : GoodIn wsX1_readFold (wsV RX1 67 RX1 yX1_isKind wsX1_isKind) := goodIn_app (goodIn_of _ (by decide +kernel)) ggX1_readFold_X1_isKind
set_option maxRecDepth 20000 in
theorem ggX1_readFold_X1_step : GoodIn wsX1_readFold wsX1_step := goodIn_r _ [17, 3, 1, 18, 23, 24, 25, 26, 27, 28, 29, 30, 31] rfl gw_wsX1_step
set_option maxRecDepth 20000 in
theorem gX1_readFold_X1_step : GoodIn wsX1_readFold (wsV RX1 75 RX1 yX1_step wsX1_step) := goodIn_app (goodIn_of _ (by decide +kernel)) ggX1_readFold_X1_step
set_option maxRecDepth 20000 in
theorem ggX1_readFold_X1_seeColumn : GoodIn wsX1_readFold wsX1_seeColumn := goodIn_r _ [22, 1, 2, 3, 8, 9, 10, 11, 12, 13, 23, 24, 25, 26, 27, 28, 29, 30, 31] rfl gw_wsX1_seeColumn
set_option maxRecDepth 20000 in
theorem gX1_readFold_X1_seeColumn : GoodIn wsX1_readFold (wsV RX1 173 RX1 yX1_seeColumn wsX1_seeColumn) := goodIn_app (goodIn_of _ (by decide +kernel)) ggX1_readFold_X1_seeColumn
def dtX1_readFold_0_0 : List (Nat × Instr × Nat) := [(0, .aload_n 0, 1), (1, .getfield 12, 3), (4, .getfield 71, 3), (7, .aload_n 0, 1), (8, .getfield 44, 3), (11, .iaload, 1), (12, .istore_n 1, 1), (13, .aload_n 0, 1), (14, .iconst 3, 1), (15, .invokevirtual 67, 3), (18, .ifCond .eq 15, 3), (21, .iload_n 1, 1), (22, .bipush 16, 2), (24, .if_icmp .lt 9, 3), (27, .iload_n 1, 1), (28, .bipush 19, 2), (30, .if_icmp .le 5, 3), (33, .iconst 1, 1), (34, .ireturn, 1), (35, .aload_n 0, 1), (36, .getfield 29, 3), (39, .iload_n 1, 1), (40, .putfield 223, 3), (43, .aload_n 0, 1), (44, .getfield 29, 3), (47, .iconst 0, 1), (48, .putfield 226, 3), (51, .aload_n 0, 1), (52, .invokevirtual 75, 3), (55, .iload_n 1, 1), (56, .bipush 16, 2), (58, .if_icmp .ne 5, 3)]
theorem dtX1_readFold_0_0_ok : dcAll cX1_readFold dtX1_readFold_0_0 = true := by decide +kernel
theorem dX1_readFold_0 : decode cX1_readFold 0 = .ok (.aload_n 0, 1) := dc_of dtX1_readFold_0_0_ok (i := 0) rfl
theorem dX1_readFold_1 : decode cX1_readFold 1 = .ok (.getfield 12, 3) := dc_of dtX1_readFold_0_0_ok (i := 1) rfl
theorem dX1_readFold_4 : decode cX1_readFold 4 = .ok (.getfield 71, 3) := dc_of dtX1_readFold_0_0_ok (i := 2) rfl
theorem dX1_readFold_7 : decode cX1_readFold 7 = .ok (.aload_n 0, 1) := dc_of dtX1_readFold_0_0_ok (i := 3) rfl
theorem dX1_readFold_8 : decode cX1_readFold 8 = .ok (.getfield 44, 3) := dc_of dtX1_readFold_0_0_ok (i := 4) rfl
theorem dX1_readFold_11 : decode cX1_readFold 11 = .ok (.iaload, 1) := dc_of dtX1_readFold_0_0_ok (i := 5) rfl
theorem dX1_readFold_12 : decode cX1_readFold 12 = .ok (.istore_n 1, 1) := dc_of dtX1_readFold_0_0_ok (i := 6) rfl
theorem dX1_readFold_13 : decode cX1_readFold 13 = .ok (.aload_n 0, 1) := dc_of dtX1_readFold_0_0_ok (i := 7) rfl
theorem dX1_readFold_14 : decode cX1_readFold 14 = .ok (.iconst 3, 1) := dc_of dtX1_readFold_0_0_ok (i := 8) rfl
theorem dX1_readFold_15 : decode cX1_readFold 15 = .ok (.invokevirtual 67, 3) := dc_of dtX1_readFold_0_0_ok (i := 9) rfl
theorem dX1_readFold_18 : decode cX1_readFold 18 = .ok (.ifCond .eq 15, 3) := dc_of dtX1_readFold_0_0_ok (i := 10) rfl
theorem dX1_readFold_21 : decode cX1_readFold 21 = .ok (.iload_n 1, 1) := dc_of dtX1_readFold_0_0_ok (i := 11) rfl
theorem dX1_readFold_22 : decode cX1_readFold 22 = .ok (.bipush 16, 2) := dc_of dtX1_readFold_0_0_ok (i := 12) rfl
theorem dX1_readFold_24 : decode cX1_readFold 24 = .ok (.if_icmp .lt 9, 3) := dc_of dtX1_readFold_0_0_ok (i := 13) rfl
theorem dX1_readFold_27 : decode cX1_readFold 27 = .ok (.iload_n 1, 1) := dc_of dtX1_readFold_0_0_ok (i := 14) rfl
theorem dX1_readFold_28 : decode cX1_readFold 28 = .ok (.bipush 19, 2) := dc_of dtX1_readFold_0_0_ok (i := 15) rfl
theorem dX1_readFold_30 : decode cX1_readFold 30 = .ok (.if_icmp .le 5, 3) := dc_of dtX1_readFold_0_0_ok (i := 16) rfl
theorem dX1_readFold_33 : decode cX1_readFold 33 = .ok (.iconst 1, 1) := dc_of dtX1_readFold_0_0_ok (i := 17) rfl
theorem dX1_readFold_34 : decode cX1_readFold 34 = .ok (.ireturn, 1) := dc_of dtX1_readFold_0_0_ok (i := 18) rfl
theorem dX1_readFold_35 : decode cX1_readFold 35 = .ok (.aload_n 0, 1) := dc_of dtX1_readFold_0_0_ok (i := 19) rfl
theorem dX1_readFold_36 : decode cX1_readFold 36 = .ok (.getfield 29, 3) := dc_of dtX1_readFold_0_0_ok (i := 20) rfl
theorem dX1_readFold_39 : decode cX1_readFold 39 = .ok (.iload_n 1, 1) := dc_of dtX1_readFold_0_0_ok (i := 21) rfl
theorem dX1_readFold_40 : decode cX1_readFold 40 = .ok (.putfield 223, 3) := dc_of dtX1_readFold_0_0_ok (i := 22) rfl
theorem dX1_readFold_43 : decode cX1_readFold 43 = .ok (.aload_n 0, 1) := dc_of dtX1_readFold_0_0_ok (i := 23) rfl
theorem dX1_readFold_44 : decode cX1_readFold 44 = .ok (.getfield 29, 3) := dc_of dtX1_readFold_0_0_ok (i := 24) rfl
theorem dX1_readFold_47 : decode cX1_readFold 47 = .ok (.iconst 0, 1) := dc_of dtX1_readFold_0_0_ok (i := 25) rfl
theorem dX1_readFold_48 : decode cX1_readFold 48 = .ok (.putfield 226, 3) := dc_of dtX1_readFold_0_0_ok (i := 26) rfl
theorem dX1_readFold_51 : decode cX1_readFold 51 = .ok (.aload_n 0, 1) := dc_of dtX1_readFold_0_0_ok (i := 27) rfl
theorem dX1_readFold_52 : decode cX1_readFold 52 = .ok (.invokevirtual 75, 3) := dc_of dtX1_readFold_0_0_ok (i := 28) rfl
theorem dX1_readFold_55 : decode cX1_readFold 55 = .ok (.iload_n 1, 1) := dc_of dtX1_readFold_0_0_ok (i := 29) rfl
theorem dX1_readFold_56 : decode cX1_readFold 56 = .ok (.bipush 16, 2) := dc_of dtX1_readFold_0_0_ok (i := 30) rfl
theorem dX1_readFold_58 : decode cX1_readFold 58 = .ok (.if_icmp .ne 5, 3) := dc_of dtX1_readFold_0_0_ok (i := 31) rfl
def dtX1_readFold_61_1 : List (Nat × Instr × Nat) := [(61, .iconst 0, 1), (62, .ireturn, 1), (63, .aload_n 0, 1), (64, .aload_n 0, 1), (65, .getfield 29, 3), (68, .getfield 143, 3), (71, .invokevirtual 173, 3), (74, .istore_n 2, 1), (75, .iload_n 2, 1), (76, .ifCond .ne 26, 3), (79, .aload_n 0, 1), (80, .getfield 29, 3), (83, .aload_n 0, 1), (84, .getfield 12, 3), (87, .getfield 71, 3), (90, .aload_n 0, 1), (91, .getfield 44, 3), (94, .iaload, 1), (95, .putfield 226, 3), (98, .aload_n 0, 1), (99, .invokevirtual 75, 3), (102, .iload_n 2, 1), (103, .ireturn, 1)]
theorem dtX1_readFold_61_1_ok : dcAll cX1_readFold dtX1_readFold_61_1 = true := by decide +kernel
theorem dX1_readFold_61 : decode cX1_readFold 61 = .ok (.iconst 0, 1) := dc_of dtX1_readFold_61_1_ok (i := 0) rfl
theorem dX1_readFold_62 : decode cX1_readFold 62 = .ok (.ireturn, 1) := dc_of dtX1_readFold_61_1_ok (i := 1) rfl
theorem dX1_readFold_63 : decode cX1_readFold 63 = .ok (.aload_n 0, 1) := dc_of dtX1_readFold_61_1_ok (i := 2) rfl
theorem dX1_readFold_64 : decode cX1_readFold 64 = .ok (.aload_n 0, 1) := dc_of dtX1_readFold_61_1_ok (i := 3) rfl
theorem dX1_readFold_65 : decode cX1_readFold 65 = .ok (.getfield 29, 3) := dc_of dtX1_readFold_61_1_ok (i := 4) rfl
theorem dX1_readFold_68 : decode cX1_readFold 68 = .ok (.getfield 143, 3) := dc_of dtX1_readFold_61_1_ok (i := 5) rfl
theorem dX1_readFold_71 : decode cX1_readFold 71 = .ok (.invokevirtual 173, 3) := dc_of dtX1_readFold_61_1_ok (i := 6) rfl
theorem dX1_readFold_74 : decode cX1_readFold 74 = .ok (.istore_n 2, 1) := dc_of dtX1_readFold_61_1_ok (i := 7) rfl
theorem dX1_readFold_75 : decode cX1_readFold 75 = .ok (.iload_n 2, 1) := dc_of dtX1_readFold_61_1_ok (i := 8) rfl
theorem dX1_readFold_76 : decode cX1_readFold 76 = .ok (.ifCond .ne 26, 3) := dc_of dtX1_readFold_61_1_ok (i := 9) rfl
theorem dX1_readFold_79 : decode cX1_readFold 79 = .ok (.aload_n 0, 1) := dc_of dtX1_readFold_61_1_ok (i := 10) rfl
theorem dX1_readFold_80 : decode cX1_readFold 80 = .ok (.getfield 29, 3) := dc_of dtX1_readFold_61_1_ok (i := 11) rfl
theorem dX1_readFold_83 : decode cX1_readFold 83 = .ok (.aload_n 0, 1) := dc_of dtX1_readFold_61_1_ok (i := 12) rfl
theorem dX1_readFold_84 : decode cX1_readFold 84 = .ok (.getfield 12, 3) := dc_of dtX1_readFold_61_1_ok (i := 13) rfl
theorem dX1_readFold_87 : decode cX1_readFold 87 = .ok (.getfield 71, 3) := dc_of dtX1_readFold_61_1_ok (i := 14) rfl
theorem dX1_readFold_90 : decode cX1_readFold 90 = .ok (.aload_n 0, 1) := dc_of dtX1_readFold_61_1_ok (i := 15) rfl
theorem dX1_readFold_91 : decode cX1_readFold 91 = .ok (.getfield 44, 3) := dc_of dtX1_readFold_61_1_ok (i := 16) rfl
theorem dX1_readFold_94 : decode cX1_readFold 94 = .ok (.iaload, 1) := dc_of dtX1_readFold_61_1_ok (i := 17) rfl
theorem dX1_readFold_95 : decode cX1_readFold 95 = .ok (.putfield 226, 3) := dc_of dtX1_readFold_61_1_ok (i := 18) rfl
theorem dX1_readFold_98 : decode cX1_readFold 98 = .ok (.aload_n 0, 1) := dc_of dtX1_readFold_61_1_ok (i := 19) rfl
theorem dX1_readFold_99 : decode cX1_readFold 99 = .ok (.invokevirtual 75, 3) := dc_of dtX1_readFold_61_1_ok (i := 20) rfl
theorem dX1_readFold_102 : decode cX1_readFold 102 = .ok (.iload_n 2, 1) := dc_of dtX1_readFold_61_1_ok (i := 21) rfl
theorem dX1_readFold_103 : decode cX1_readFold 103 = .ok (.ireturn, 1) := dc_of dtX1_readFold_61_1_ok (i := 22) rfl
set_option maxRecDepth 20000 in
theorem ggX1_readRing_X1_readFirst : GoodIn wsX1_readRing wsX1_readFirst := goodIn_r _ [9, 1, 10, 11, 12, 13, 14, 15, 4, 2, 16, 17, 18, 8, 19, 20, 21, 22, 23, 24, 25, 26, 27, 28, 29, 30, 31, 32, 33, 34, 35, 36, 37, 38, 39, 40, 41, 42, 82, 83, 84, 85, 101, 102, 103, 104, 105, 86, 87, 88, 89, 90, 91, 92, 93, 94, 95, 96, 97, 98, 99, 100, 106, 107, 108] rfl gw_wsX1_readFirst
set_option maxRecDepth 20000 in
theorem gX1_readRing_X1_readFirst : GoodIn wsX1_readRing (wsV RX1 161 RX1 yX1_readFirst wsX1_readFirst) := goodIn_app (goodIn_of _ (by decide +kernel)) ggX1_readRing_X1_readFirst
set_option maxRecDepth 20000 in
theorem ggX1_readRing_X1_takeWord : GoodIn wsX1_readRing wsX1_takeWord := goodIn_r _ [46, 20, 21, 22, 8, 23, 11, 24, 13, 25, 26, 27, 28, 29, 38, 39, 40, 41, 42, 82, 83, 84, 85, 101, 102, 103, 104, 105] rfl gw_wsX1_takeWord
set_option maxRecDepth 20000 in
theorem gX1_readRing_X1_takeWord : GoodIn wsX1_readRing (wsV RX1 164 RX1 yX1_takeWord wsX1_takeWord) := goodIn_app (goodIn_of _ (by decide +kernel)) ggX1_readRing_X1_takeWord
set_option maxRecDepth 20000 in
theorem ggX1_readRing_X1_readSecond : GoodIn wsX1_readRing wsX1_readSecond := goodIn_r _ [50, 1, 10, 11, 12, 13, 51, 15, 4, 3, 16, 17, 18, 8, 19, 20, 21, 22, 23, 24, 25, 26, 27, 28, 29, 30, 31, 32, 33, 34, 35, 36, 37, 38, 39, 40, 41, 42, 82, 83, 84, 85, 101, 102, 103, 104, 105, 86, 87, 88, 89, 90, 91, 92, 93, 94, 95, 96, 97, 98, 99, 100, 106, 107, 108] rfl gw_wsX1_readSecond
set_option maxRecDepth 20000 in
theorem gX1_readRing_X1_readSecond : GoodIn wsX1_readRing (wsV RX1 190 RX1 yX1_readSecond wsX1_readSecond) := goodIn_app (goodIn_of _ (by decide +kernel)) ggX1_readRing_X1_readSecond
set_option maxRecDepth 20000 in
theorem ggX1_readRing_X1_readPair : GoodIn wsX1_readRing wsX1_readPair := goodIn_r _ [55, 1, 2, 56, 11, 24, 13, 57, 3, 58, 59, 60, 61, 8, 62, 25, 26, 27, 28, 29, 38, 39, 40, 41, 42, 63, 64, 65, 66, 82, 83, 84, 85, 86, 87, 88, 89, 90, 91, 92, 93, 94, 95, 96, 97, 98, 99, 100, 101, 102, 103, 104, 105] rfl gw_wsX1_readPair
set_option maxRecDepth 20000 in
theorem gX1_readRing_X1_readPair : GoodIn wsX1_readRing (wsV RX1 199 RX1 yX1_readPair wsX1_readPair) := goodIn_app (goodIn_of _ (by decide +kernel)) ggX1_readRing_X1_readPair
set_option maxRecDepth 20000 in
theorem ggX1_readRing_X1_readTerms : GoodIn wsX1_readRing wsX1_readTerms := goodIn_r _ [70, 71, 72, 73, 8, 74, 1, 56, 11, 24, 13, 29, 25, 26, 27, 28, 59, 60, 61, 62, 38, 39, 40, 41, 42, 75, 76, 77, 78, 79, 80, 81, 82, 83, 84, 85, 86, 87, 88, 89, 90, 91, 92, 93, 94, 95, 96, 97, 98, 99, 100, 101, 102, 103, 104, 105] rfl gw_wsX1_readTerms
set_option maxRecDepth 20000 in
theorem gX1_readRing_X1_readTerms : GoodIn wsX1_readRing (wsV RX1 180 RX1 yX1_readTerms wsX1_readTerms) := goodIn_app (goodIn_of _ (by decide +kernel)) ggX1_readRing_X1_readTerms
def dtX1_readRing_0_0 : List (Nat × Instr × Nat) := [(0, .aload_n 0, 1), (1, .invokevirtual 161, 3), (4, .istore_n 1, 1), (5, .iload_n 1, 1), (6, .ifCond .ne 10, 3), (9, .aload_n 0, 1), (10, .bipush 14, 2), (12, .invokevirtual 164, 3), (15, .istore_n 1, 1), (16, .iload_n 1, 1), (17, .ifCond .ne 8, 3), (20, .aload_n 0, 1), (21, .invokevirtual 190, 3), (24, .istore_n 1, 1), (25, .iload_n 1, 1), (26, .ifCond .ne 10, 3), (29, .aload_n 0, 1), (30, .bipush 12, 2), (32, .invokevirtual 164, 3), (35, .istore_n 1, 1), (36, .iload_n 1, 1), (37, .ifCond .ne 9, 3), (40, .aload_n 0, 1), (41, .iconst 1, 1), (42, .invokevirtual 199, 3), (45, .istore_n 1, 1), (46, .iload_n 1, 1), (47, .ifCond .ne 10, 3), (50, .aload_n 0, 1), (51, .bipush 15, 2), (53, .invokevirtual 164, 3), (56, .istore_n 1, 1)]
theorem dtX1_readRing_0_0_ok : dcAll cX1_readRing dtX1_readRing_0_0 = true := by decide +kernel
theorem dX1_readRing_0 : decode cX1_readRing 0 = .ok (.aload_n 0, 1) := dc_of dtX1_readRing_0_0_ok (i := 0) rfl
theorem dX1_readRing_1 : decode cX1_readRing 1 = .ok (.invokevirtual 161, 3) := dc_of dtX1_readRing_0_0_ok (i := 1) rfl
theorem dX1_readRing_4 : decode cX1_readRing 4 = .ok (.istore_n 1, 1) := dc_of dtX1_readRing_0_0_ok (i := 2) rfl
theorem dX1_readRing_5 : decode cX1_readRing 5 = .ok (.iload_n 1, 1) := dc_of dtX1_readRing_0_0_ok (i := 3) rfl
theorem dX1_readRing_6 : decode cX1_readRing 6 = .ok (.ifCond .ne 10, 3) := dc_of dtX1_readRing_0_0_ok (i := 4) rfl
theorem dX1_readRing_9 : decode cX1_readRing 9 = .ok (.aload_n 0, 1) := dc_of dtX1_readRing_0_0_ok (i := 5) rfl
theorem dX1_readRing_10 : decode cX1_readRing 10 = .ok (.bipush 14, 2) := dc_of dtX1_readRing_0_0_ok (i := 6) rfl
theorem dX1_readRing_12 : decode cX1_readRing 12 = .ok (.invokevirtual 164, 3) := dc_of dtX1_readRing_0_0_ok (i := 7) rfl
theorem dX1_readRing_15 : decode cX1_readRing 15 = .ok (.istore_n 1, 1) := dc_of dtX1_readRing_0_0_ok (i := 8) rfl
theorem dX1_readRing_16 : decode cX1_readRing 16 = .ok (.iload_n 1, 1) := dc_of dtX1_readRing_0_0_ok (i := 9) rfl
theorem dX1_readRing_17 : decode cX1_readRing 17 = .ok (.ifCond .ne 8, 3) := dc_of dtX1_readRing_0_0_ok (i := 10) rfl
theorem dX1_readRing_20 : decode cX1_readRing 20 = .ok (.aload_n 0, 1) := dc_of dtX1_readRing_0_0_ok (i := 11) rfl
theorem dX1_readRing_21 : decode cX1_readRing 21 = .ok (.invokevirtual 190, 3) := dc_of dtX1_readRing_0_0_ok (i := 12) rfl
theorem dX1_readRing_24 : decode cX1_readRing 24 = .ok (.istore_n 1, 1) := dc_of dtX1_readRing_0_0_ok (i := 13) rfl
theorem dX1_readRing_25 : decode cX1_readRing 25 = .ok (.iload_n 1, 1) := dc_of dtX1_readRing_0_0_ok (i := 14) rfl
theorem dX1_readRing_26 : decode cX1_readRing 26 = .ok (.ifCond .ne 10, 3) := dc_of dtX1_readRing_0_0_ok (i := 15) rfl
theorem dX1_readRing_29 : decode cX1_readRing 29 = .ok (.aload_n 0, 1) := dc_of dtX1_readRing_0_0_ok (i := 16) rfl
theorem dX1_readRing_30 : decode cX1_readRing 30 = .ok (.bipush 12, 2) := dc_of dtX1_readRing_0_0_ok (i := 17) rfl
theorem dX1_readRing_32 : decode cX1_readRing 32 = .ok (.invokevirtual 164, 3) := dc_of dtX1_readRing_0_0_ok (i := 18) rfl
theorem dX1_readRing_35 : decode cX1_readRing 35 = .ok (.istore_n 1, 1) := dc_of dtX1_readRing_0_0_ok (i := 19) rfl
theorem dX1_readRing_36 : decode cX1_readRing 36 = .ok (.iload_n 1, 1) := dc_of dtX1_readRing_0_0_ok (i := 20) rfl
theorem dX1_readRing_37 : decode cX1_readRing 37 = .ok (.ifCond .ne 9, 3) := dc_of dtX1_readRing_0_0_ok (i := 21) rfl
theorem dX1_readRing_40 : decode cX1_readRing 40 = .ok (.aload_n 0, 1) := dc_of dtX1_readRing_0_0_ok (i := 22) rfl
theorem dX1_readRing_41 : decode cX1_readRing 41 = .ok (.iconst 1, 1) := dc_of dtX1_readRing_0_0_ok (i := 23) rfl
theorem dX1_readRing_42 : decode cX1_readRing 42 = .ok (.invokevirtual 199, 3) := dc_of dtX1_readRing_0_0_ok (i := 24) rfl
theorem dX1_readRing_45 : decode cX1_readRing 45 = .ok (.istore_n 1, 1) := dc_of dtX1_readRing_0_0_ok (i := 25) rfl
theorem dX1_readRing_46 : decode cX1_readRing 46 = .ok (.iload_n 1, 1) := dc_of dtX1_readRing_0_0_ok (i := 26) rfl
theorem dX1_readRing_47 : decode cX1_readRing 47 = .ok (.ifCond .ne 10, 3) := dc_of dtX1_readRing_0_0_ok (i := 27) rfl
theorem dX1_readRing_50 : decode cX1_readRing 50 = .ok (.aload_n 0, 1) := dc_of dtX1_readRing_0_0_ok (i := 28) rfl
theorem dX1_readRing_51 : decode cX1_readRing 51 = .ok (.bipush 15, 2) := dc_of dtX1_readRing_0_0_ok (i := 29) rfl
theorem dX1_readRing_53 : decode cX1_readRing 53 = .ok (.invokevirtual 164, 3) := dc_of dtX1_readRing_0_0_ok (i := 30) rfl
theorem dX1_readRing_56 : decode cX1_readRing 56 = .ok (.istore_n 1, 1) := dc_of dtX1_readRing_0_0_ok (i := 31) rfl
def dtX1_readRing_57_1 : List (Nat × Instr × Nat) := [(57, .iload_n 1, 1), (58, .ifCond .ne 23, 3), (61, .aload_n 0, 1), (62, .aload_n 0, 1), (63, .getfield 29, 3), (66, .getfield 143, 3), (69, .aload_n 0, 1), (70, .getfield 29, 3), (73, .getfield 146, 3), (76, .iadd, 1), (77, .invokevirtual 180, 3), (80, .istore_n 1, 1), (81, .aload_n 0, 1), (82, .getfield 29, 3), (85, .aload_n 0, 1), (86, .getfield 29, 3), (89, .getfield 143, 3), (92, .putfield 136, 3), (95, .iload_n 1, 1), (96, .ireturn, 1)]
theorem dtX1_readRing_57_1_ok : dcAll cX1_readRing dtX1_readRing_57_1 = true := by decide +kernel
theorem dX1_readRing_57 : decode cX1_readRing 57 = .ok (.iload_n 1, 1) := dc_of dtX1_readRing_57_1_ok (i := 0) rfl
theorem dX1_readRing_58 : decode cX1_readRing 58 = .ok (.ifCond .ne 23, 3) := dc_of dtX1_readRing_57_1_ok (i := 1) rfl
theorem dX1_readRing_61 : decode cX1_readRing 61 = .ok (.aload_n 0, 1) := dc_of dtX1_readRing_57_1_ok (i := 2) rfl
theorem dX1_readRing_62 : decode cX1_readRing 62 = .ok (.aload_n 0, 1) := dc_of dtX1_readRing_57_1_ok (i := 3) rfl
theorem dX1_readRing_63 : decode cX1_readRing 63 = .ok (.getfield 29, 3) := dc_of dtX1_readRing_57_1_ok (i := 4) rfl
theorem dX1_readRing_66 : decode cX1_readRing 66 = .ok (.getfield 143, 3) := dc_of dtX1_readRing_57_1_ok (i := 5) rfl
theorem dX1_readRing_69 : decode cX1_readRing 69 = .ok (.aload_n 0, 1) := dc_of dtX1_readRing_57_1_ok (i := 6) rfl
theorem dX1_readRing_70 : decode cX1_readRing 70 = .ok (.getfield 29, 3) := dc_of dtX1_readRing_57_1_ok (i := 7) rfl
theorem dX1_readRing_73 : decode cX1_readRing 73 = .ok (.getfield 146, 3) := dc_of dtX1_readRing_57_1_ok (i := 8) rfl
theorem dX1_readRing_76 : decode cX1_readRing 76 = .ok (.iadd, 1) := dc_of dtX1_readRing_57_1_ok (i := 9) rfl
theorem dX1_readRing_77 : decode cX1_readRing 77 = .ok (.invokevirtual 180, 3) := dc_of dtX1_readRing_57_1_ok (i := 10) rfl
theorem dX1_readRing_80 : decode cX1_readRing 80 = .ok (.istore_n 1, 1) := dc_of dtX1_readRing_57_1_ok (i := 11) rfl
theorem dX1_readRing_81 : decode cX1_readRing 81 = .ok (.aload_n 0, 1) := dc_of dtX1_readRing_57_1_ok (i := 12) rfl
theorem dX1_readRing_82 : decode cX1_readRing 82 = .ok (.getfield 29, 3) := dc_of dtX1_readRing_57_1_ok (i := 13) rfl
theorem dX1_readRing_85 : decode cX1_readRing 85 = .ok (.aload_n 0, 1) := dc_of dtX1_readRing_57_1_ok (i := 14) rfl
theorem dX1_readRing_86 : decode cX1_readRing 86 = .ok (.getfield 29, 3) := dc_of dtX1_readRing_57_1_ok (i := 15) rfl
theorem dX1_readRing_89 : decode cX1_readRing 89 = .ok (.getfield 143, 3) := dc_of dtX1_readRing_57_1_ok (i := 16) rfl
theorem dX1_readRing_92 : decode cX1_readRing 92 = .ok (.putfield 136, 3) := dc_of dtX1_readRing_57_1_ok (i := 17) rfl
theorem dX1_readRing_95 : decode cX1_readRing 95 = .ok (.iload_n 1, 1) := dc_of dtX1_readRing_57_1_ok (i := 18) rfl
theorem dX1_readRing_96 : decode cX1_readRing 96 = .ok (.ireturn, 1) := dc_of dtX1_readRing_57_1_ok (i := 19) rfl
set_option maxRecDepth 20000 in
theorem gw_wsX0_init : wsX0_init.all goodWord = true := by decide +kernel
set_option maxRecDepth 20000 in
theorem ggX2_init_X0_init : GoodIn wsX2_init wsX0_init := goodIn_r _ [9, 10, 2, 3, 11, 12, 16, 17, 18, 19, 20, 21, 22, 23, 24, 25, 26, 27, 28, 29, 30] rfl gw_wsX0_init
set_option maxRecDepth 20000 in
theorem gX2_init_X0_init_n17 : GoodIn wsX2_init (wsX0_init) := ggX2_init_X0_init
def dtX2_init_0_0 : List (Nat × Instr × Nat) := [(0, .aload_n 0, 1), (1, .invokespecial 3, 3), (4, .aload_n 0, 1), (5, .bipush 16, 2), (7, .anewarray 9, 3), (10, .putfield 11, 3), (13, .iconst 0, 1), (14, .istore_n 1, 1), (15, .iload_n 1, 1), (16, .bipush 16, 2), (18, .if_icmp .ge 22, 3), (21, .aload_n 0, 1), (22, .getfield 11, 3), (25, .iload_n 1, 1), (26, .new 9, 3), (29, .dup, 1), (30, .invokespecial 17, 3), (33, .aastore, 1), (34, .iinc 1 1, 3), (37, .goto (-22), 3), (40, .return_, 1)]
theorem dtX2_init_0_0_ok : dcAll cX2_init dtX2_init_0_0 = true := by decide +kernel
theorem dX2_init_0 : decode cX2_init 0 = .ok (.aload_n 0, 1) := dc_of dtX2_init_0_0_ok (i := 0) rfl
theorem dX2_init_1 : decode cX2_init 1 = .ok (.invokespecial 3, 3) := dc_of dtX2_init_0_0_ok (i := 1) rfl
theorem dX2_init_4 : decode cX2_init 4 = .ok (.aload_n 0, 1) := dc_of dtX2_init_0_0_ok (i := 2) rfl
theorem dX2_init_5 : decode cX2_init 5 = .ok (.bipush 16, 2) := dc_of dtX2_init_0_0_ok (i := 3) rfl
theorem dX2_init_7 : decode cX2_init 7 = .ok (.anewarray 9, 3) := dc_of dtX2_init_0_0_ok (i := 4) rfl
theorem dX2_init_10 : decode cX2_init 10 = .ok (.putfield 11, 3) := dc_of dtX2_init_0_0_ok (i := 5) rfl
theorem dX2_init_13 : decode cX2_init 13 = .ok (.iconst 0, 1) := dc_of dtX2_init_0_0_ok (i := 6) rfl
theorem dX2_init_14 : decode cX2_init 14 = .ok (.istore_n 1, 1) := dc_of dtX2_init_0_0_ok (i := 7) rfl
theorem dX2_init_15 : decode cX2_init 15 = .ok (.iload_n 1, 1) := dc_of dtX2_init_0_0_ok (i := 8) rfl
theorem dX2_init_16 : decode cX2_init 16 = .ok (.bipush 16, 2) := dc_of dtX2_init_0_0_ok (i := 9) rfl
theorem dX2_init_18 : decode cX2_init 18 = .ok (.if_icmp .ge 22, 3) := dc_of dtX2_init_0_0_ok (i := 10) rfl
theorem dX2_init_21 : decode cX2_init 21 = .ok (.aload_n 0, 1) := dc_of dtX2_init_0_0_ok (i := 11) rfl
theorem dX2_init_22 : decode cX2_init 22 = .ok (.getfield 11, 3) := dc_of dtX2_init_0_0_ok (i := 12) rfl
theorem dX2_init_25 : decode cX2_init 25 = .ok (.iload_n 1, 1) := dc_of dtX2_init_0_0_ok (i := 13) rfl
theorem dX2_init_26 : decode cX2_init 26 = .ok (.new 9, 3) := dc_of dtX2_init_0_0_ok (i := 14) rfl
theorem dX2_init_29 : decode cX2_init 29 = .ok (.dup, 1) := dc_of dtX2_init_0_0_ok (i := 15) rfl
theorem dX2_init_30 : decode cX2_init 30 = .ok (.invokespecial 17, 3) := dc_of dtX2_init_0_0_ok (i := 16) rfl
theorem dX2_init_33 : decode cX2_init 33 = .ok (.aastore, 1) := dc_of dtX2_init_0_0_ok (i := 17) rfl
theorem dX2_init_34 : decode cX2_init 34 = .ok (.iinc 1 1, 3) := dc_of dtX2_init_0_0_ok (i := 18) rfl
theorem dX2_init_37 : decode cX2_init 37 = .ok (.goto (-22), 3) := dc_of dtX2_init_0_0_ok (i := 19) rfl
theorem dX2_init_40 : decode cX2_init 40 = .ok (.return_, 1) := dc_of dtX2_init_0_0_ok (i := 20) rfl
def dtX2_relationOf_0_0 : List (Nat × Instr × Nat) := [(0, .iconst 0, 1), (1, .istore_n 3, 1), (2, .iload_n 3, 1), (3, .aload_n 0, 1), (4, .getfield 18, 3), (7, .if_icmp .ge 25, 3), (10, .aload_n 0, 1), (11, .getfield 11, 3), (14, .iload_n 3, 1), (15, .aaload, 1), (16, .getfield 22, 3), (19, .lload_n 1, 1), (20, .lcmp, 1), (21, .ifCond .ne 5, 3), (24, .iload_n 3, 1), (25, .ireturn, 1), (26, .iinc 3 1, 3), (29, .goto (-27), 3), (32, .iconst (-1), 1), (33, .ireturn, 1)]
theorem dtX2_relationOf_0_0_ok : dcAll cX2_relationOf dtX2_relationOf_0_0 = true := by decide +kernel
theorem dX2_relationOf_0 : decode cX2_relationOf 0 = .ok (.iconst 0, 1) := dc_of dtX2_relationOf_0_0_ok (i := 0) rfl
theorem dX2_relationOf_1 : decode cX2_relationOf 1 = .ok (.istore_n 3, 1) := dc_of dtX2_relationOf_0_0_ok (i := 1) rfl
theorem dX2_relationOf_2 : decode cX2_relationOf 2 = .ok (.iload_n 3, 1) := dc_of dtX2_relationOf_0_0_ok (i := 2) rfl
theorem dX2_relationOf_3 : decode cX2_relationOf 3 = .ok (.aload_n 0, 1) := dc_of dtX2_relationOf_0_0_ok (i := 3) rfl
theorem dX2_relationOf_4 : decode cX2_relationOf 4 = .ok (.getfield 18, 3) := dc_of dtX2_relationOf_0_0_ok (i := 4) rfl
theorem dX2_relationOf_7 : decode cX2_relationOf 7 = .ok (.if_icmp .ge 25, 3) := dc_of dtX2_relationOf_0_0_ok (i := 5) rfl
theorem dX2_relationOf_10 : decode cX2_relationOf 10 = .ok (.aload_n 0, 1) := dc_of dtX2_relationOf_0_0_ok (i := 6) rfl
theorem dX2_relationOf_11 : decode cX2_relationOf 11 = .ok (.getfield 11, 3) := dc_of dtX2_relationOf_0_0_ok (i := 7) rfl
theorem dX2_relationOf_14 : decode cX2_relationOf 14 = .ok (.iload_n 3, 1) := dc_of dtX2_relationOf_0_0_ok (i := 8) rfl
theorem dX2_relationOf_15 : decode cX2_relationOf 15 = .ok (.aaload, 1) := dc_of dtX2_relationOf_0_0_ok (i := 9) rfl
theorem dX2_relationOf_16 : decode cX2_relationOf 16 = .ok (.getfield 22, 3) := dc_of dtX2_relationOf_0_0_ok (i := 10) rfl
theorem dX2_relationOf_19 : decode cX2_relationOf 19 = .ok (.lload_n 1, 1) := dc_of dtX2_relationOf_0_0_ok (i := 11) rfl
theorem dX2_relationOf_20 : decode cX2_relationOf 20 = .ok (.lcmp, 1) := dc_of dtX2_relationOf_0_0_ok (i := 12) rfl
theorem dX2_relationOf_21 : decode cX2_relationOf 21 = .ok (.ifCond .ne 5, 3) := dc_of dtX2_relationOf_0_0_ok (i := 13) rfl
theorem dX2_relationOf_24 : decode cX2_relationOf 24 = .ok (.iload_n 3, 1) := dc_of dtX2_relationOf_0_0_ok (i := 14) rfl
theorem dX2_relationOf_25 : decode cX2_relationOf 25 = .ok (.ireturn, 1) := dc_of dtX2_relationOf_0_0_ok (i := 15) rfl
theorem dX2_relationOf_26 : decode cX2_relationOf 26 = .ok (.iinc 3 1, 3) := dc_of dtX2_relationOf_0_0_ok (i := 16) rfl
theorem dX2_relationOf_29 : decode cX2_relationOf 29 = .ok (.goto (-27), 3) := dc_of dtX2_relationOf_0_0_ok (i := 17) rfl
theorem dX2_relationOf_32 : decode cX2_relationOf 32 = .ok (.iconst (-1), 1) := dc_of dtX2_relationOf_0_0_ok (i := 18) rfl
theorem dX2_relationOf_33 : decode cX2_relationOf 33 = .ok (.ireturn, 1) := dc_of dtX2_relationOf_0_0_ok (i := 19) rfl
def dtX2_hangingOn_0_0 : List (Nat × Instr × Nat) := [(0, .iconst 0, 1), (1, .istore_n 2, 1), (2, .iconst 0, 1), (3, .istore_n 3, 1), (4, .iload_n 3, 1), (5, .aload_n 0, 1), (6, .getfield 18, 3), (9, .if_icmp .ge 27, 3), (12, .iload_n 2, 1), (13, .aload_n 0, 1), (14, .getfield 11, 3), (17, .iload_n 3, 1), (18, .aaload, 1), (19, .getfield 26, 3), (22, .iload_n 1, 1), (23, .iushr, 1), (24, .iconst 1, 1), (25, .iand, 1), (26, .iload_n 3, 1), (27, .ishl, 1), (28, .ior, 1), (29, .istore_n 2, 1), (30, .iinc 3 1, 3), (33, .goto (-29), 3), (36, .iload_n 2, 1), (37, .ireturn, 1)]
theorem dtX2_hangingOn_0_0_ok : dcAll cX2_hangingOn dtX2_hangingOn_0_0 = true := by decide +kernel
theorem dX2_hangingOn_0 : decode cX2_hangingOn 0 = .ok (.iconst 0, 1) := dc_of dtX2_hangingOn_0_0_ok (i := 0) rfl
theorem dX2_hangingOn_1 : decode cX2_hangingOn 1 = .ok (.istore_n 2, 1) := dc_of dtX2_hangingOn_0_0_ok (i := 1) rfl
theorem dX2_hangingOn_2 : decode cX2_hangingOn 2 = .ok (.iconst 0, 1) := dc_of dtX2_hangingOn_0_0_ok (i := 2) rfl
theorem dX2_hangingOn_3 : decode cX2_hangingOn 3 = .ok (.istore_n 3, 1) := dc_of dtX2_hangingOn_0_0_ok (i := 3) rfl
theorem dX2_hangingOn_4 : decode cX2_hangingOn 4 = .ok (.iload_n 3, 1) := dc_of dtX2_hangingOn_0_0_ok (i := 4) rfl
theorem dX2_hangingOn_5 : decode cX2_hangingOn 5 = .ok (.aload_n 0, 1) := dc_of dtX2_hangingOn_0_0_ok (i := 5) rfl
theorem dX2_hangingOn_6 : decode cX2_hangingOn 6 = .ok (.getfield 18, 3) := dc_of dtX2_hangingOn_0_0_ok (i := 6) rfl
theorem dX2_hangingOn_9 : decode cX2_hangingOn 9 = .ok (.if_icmp .ge 27, 3) := dc_of dtX2_hangingOn_0_0_ok (i := 7) rfl
theorem dX2_hangingOn_12 : decode cX2_hangingOn 12 = .ok (.iload_n 2, 1) := dc_of dtX2_hangingOn_0_0_ok (i := 8) rfl
theorem dX2_hangingOn_13 : decode cX2_hangingOn 13 = .ok (.aload_n 0, 1) := dc_of dtX2_hangingOn_0_0_ok (i := 9) rfl
theorem dX2_hangingOn_14 : decode cX2_hangingOn 14 = .ok (.getfield 11, 3) := dc_of dtX2_hangingOn_0_0_ok (i := 10) rfl
theorem dX2_hangingOn_17 : decode cX2_hangingOn 17 = .ok (.iload_n 3, 1) := dc_of dtX2_hangingOn_0_0_ok (i := 11) rfl
theorem dX2_hangingOn_18 : decode cX2_hangingOn 18 = .ok (.aaload, 1) := dc_of dtX2_hangingOn_0_0_ok (i := 12) rfl
theorem dX2_hangingOn_19 : decode cX2_hangingOn 19 = .ok (.getfield 26, 3) := dc_of dtX2_hangingOn_0_0_ok (i := 13) rfl
theorem dX2_hangingOn_22 : decode cX2_hangingOn 22 = .ok (.iload_n 1, 1) := dc_of dtX2_hangingOn_0_0_ok (i := 14) rfl
theorem dX2_hangingOn_23 : decode cX2_hangingOn 23 = .ok (.iushr, 1) := dc_of dtX2_hangingOn_0_0_ok (i := 15) rfl
theorem dX2_hangingOn_24 : decode cX2_hangingOn 24 = .ok (.iconst 1, 1) := dc_of dtX2_hangingOn_0_0_ok (i := 16) rfl
theorem dX2_hangingOn_25 : decode cX2_hangingOn 25 = .ok (.iand, 1) := dc_of dtX2_hangingOn_0_0_ok (i := 17) rfl
theorem dX2_hangingOn_26 : decode cX2_hangingOn 26 = .ok (.iload_n 3, 1) := dc_of dtX2_hangingOn_0_0_ok (i := 18) rfl
theorem dX2_hangingOn_27 : decode cX2_hangingOn 27 = .ok (.ishl, 1) := dc_of dtX2_hangingOn_0_0_ok (i := 19) rfl
theorem dX2_hangingOn_28 : decode cX2_hangingOn 28 = .ok (.ior, 1) := dc_of dtX2_hangingOn_0_0_ok (i := 20) rfl
theorem dX2_hangingOn_29 : decode cX2_hangingOn 29 = .ok (.istore_n 2, 1) := dc_of dtX2_hangingOn_0_0_ok (i := 21) rfl
theorem dX2_hangingOn_30 : decode cX2_hangingOn 30 = .ok (.iinc 3 1, 3) := dc_of dtX2_hangingOn_0_0_ok (i := 22) rfl
theorem dX2_hangingOn_33 : decode cX2_hangingOn 33 = .ok (.goto (-29), 3) := dc_of dtX2_hangingOn_0_0_ok (i := 23) rfl
theorem dX2_hangingOn_36 : decode cX2_hangingOn 36 = .ok (.iload_n 2, 1) := dc_of dtX2_hangingOn_0_0_ok (i := 24) rfl
theorem dX2_hangingOn_37 : decode cX2_hangingOn 37 = .ok (.ireturn, 1) := dc_of dtX2_hangingOn_0_0_ok (i := 25) rfl
set_option maxRecDepth 20000 in
theorem gw_wsX2_hang : wsX2_hang.all goodWord = true := by decide +kernel
set_option maxRecDepth 20000 in
theorem ggX2_keepLine_X2_hang : GoodIn wsX2_keepLine wsX2_hang := goodIn_r _ [11, 12, 1, 13, 14, 15, 16, 17, 21, 22, 23, 24, 25, 26, 27, 28, 29, 30, 31, 32, 33, 34, 35, 18, 19, 20] rfl gw_wsX2_hang
set_option maxRecDepth 20000 in
theorem gX2_keepLine_X2_hang : GoodIn wsX2_keepLine (wsV RX2 38 RX2 yX2_hang wsX2_hang) := goodIn_app (goodIn_of _ (by decide +kernel)) ggX2_keepLine_X2_hang
def dtX2_keepLine_0_0 : List (Nat × Instr × Nat) := [(0, .aload_n 0, 1), (1, .getfield 11, 3), (4, .aload_n 0, 1), (5, .getfield 18, 3), (8, .aaload, 1), (9, .astore_n 1, 1), (10, .aload_n 1, 1), (11, .getfield 29, 3), (14, .ifCond .ne 13, 3), (17, .aload_n 0, 1), (18, .dup, 1), (19, .getfield 32, 3), (22, .iconst 1, 1), (23, .iadd, 1), (24, .putfield 32, 3), (27, .aload_n 0, 1), (28, .aload_n 1, 1), (29, .aload_n 1, 1), (30, .getfield 35, 3), (33, .invokevirtual 38, 3), (36, .aload_n 0, 1), (37, .aload_n 1, 1), (38, .aload_n 1, 1), (39, .getfield 42, 3), (42, .invokevirtual 38, 3), (45, .aload_n 0, 1), (46, .dup, 1), (47, .getfield 18, 3), (50, .iconst 1, 1), (51, .iadd, 1), (52, .putfield 18, 3), (55, .return_, 1)]
theorem dtX2_keepLine_0_0_ok : dcAll cX2_keepLine dtX2_keepLine_0_0 = true := by decide +kernel
theorem dX2_keepLine_0 : decode cX2_keepLine 0 = .ok (.aload_n 0, 1) := dc_of dtX2_keepLine_0_0_ok (i := 0) rfl
theorem dX2_keepLine_1 : decode cX2_keepLine 1 = .ok (.getfield 11, 3) := dc_of dtX2_keepLine_0_0_ok (i := 1) rfl
theorem dX2_keepLine_4 : decode cX2_keepLine 4 = .ok (.aload_n 0, 1) := dc_of dtX2_keepLine_0_0_ok (i := 2) rfl
theorem dX2_keepLine_5 : decode cX2_keepLine 5 = .ok (.getfield 18, 3) := dc_of dtX2_keepLine_0_0_ok (i := 3) rfl
theorem dX2_keepLine_8 : decode cX2_keepLine 8 = .ok (.aaload, 1) := dc_of dtX2_keepLine_0_0_ok (i := 4) rfl
theorem dX2_keepLine_9 : decode cX2_keepLine 9 = .ok (.astore_n 1, 1) := dc_of dtX2_keepLine_0_0_ok (i := 5) rfl
theorem dX2_keepLine_10 : decode cX2_keepLine 10 = .ok (.aload_n 1, 1) := dc_of dtX2_keepLine_0_0_ok (i := 6) rfl
theorem dX2_keepLine_11 : decode cX2_keepLine 11 = .ok (.getfield 29, 3) := dc_of dtX2_keepLine_0_0_ok (i := 7) rfl
theorem dX2_keepLine_14 : decode cX2_keepLine 14 = .ok (.ifCond .ne 13, 3) := dc_of dtX2_keepLine_0_0_ok (i := 8) rfl
theorem dX2_keepLine_17 : decode cX2_keepLine 17 = .ok (.aload_n 0, 1) := dc_of dtX2_keepLine_0_0_ok (i := 9) rfl
theorem dX2_keepLine_18 : decode cX2_keepLine 18 = .ok (.dup, 1) := dc_of dtX2_keepLine_0_0_ok (i := 10) rfl
theorem dX2_keepLine_19 : decode cX2_keepLine 19 = .ok (.getfield 32, 3) := dc_of dtX2_keepLine_0_0_ok (i := 11) rfl
theorem dX2_keepLine_22 : decode cX2_keepLine 22 = .ok (.iconst 1, 1) := dc_of dtX2_keepLine_0_0_ok (i := 12) rfl
theorem dX2_keepLine_23 : decode cX2_keepLine 23 = .ok (.iadd, 1) := dc_of dtX2_keepLine_0_0_ok (i := 13) rfl
theorem dX2_keepLine_24 : decode cX2_keepLine 24 = .ok (.putfield 32, 3) := dc_of dtX2_keepLine_0_0_ok (i := 14) rfl
theorem dX2_keepLine_27 : decode cX2_keepLine 27 = .ok (.aload_n 0, 1) := dc_of dtX2_keepLine_0_0_ok (i := 15) rfl
theorem dX2_keepLine_28 : decode cX2_keepLine 28 = .ok (.aload_n 1, 1) := dc_of dtX2_keepLine_0_0_ok (i := 16) rfl
theorem dX2_keepLine_29 : decode cX2_keepLine 29 = .ok (.aload_n 1, 1) := dc_of dtX2_keepLine_0_0_ok (i := 17) rfl
theorem dX2_keepLine_30 : decode cX2_keepLine 30 = .ok (.getfield 35, 3) := dc_of dtX2_keepLine_0_0_ok (i := 18) rfl
theorem dX2_keepLine_33 : decode cX2_keepLine 33 = .ok (.invokevirtual 38, 3) := dc_of dtX2_keepLine_0_0_ok (i := 19) rfl
theorem dX2_keepLine_36 : decode cX2_keepLine 36 = .ok (.aload_n 0, 1) := dc_of dtX2_keepLine_0_0_ok (i := 20) rfl
theorem dX2_keepLine_37 : decode cX2_keepLine 37 = .ok (.aload_n 1, 1) := dc_of dtX2_keepLine_0_0_ok (i := 21) rfl
theorem dX2_keepLine_38 : decode cX2_keepLine 38 = .ok (.aload_n 1, 1) := dc_of dtX2_keepLine_0_0_ok (i := 22) rfl
theorem dX2_keepLine_39 : decode cX2_keepLine 39 = .ok (.getfield 42, 3) := dc_of dtX2_keepLine_0_0_ok (i := 23) rfl
theorem dX2_keepLine_42 : decode cX2_keepLine 42 = .ok (.invokevirtual 38, 3) := dc_of dtX2_keepLine_0_0_ok (i := 24) rfl
theorem dX2_keepLine_45 : decode cX2_keepLine 45 = .ok (.aload_n 0, 1) := dc_of dtX2_keepLine_0_0_ok (i := 25) rfl
theorem dX2_keepLine_46 : decode cX2_keepLine 46 = .ok (.dup, 1) := dc_of dtX2_keepLine_0_0_ok (i := 26) rfl
theorem dX2_keepLine_47 : decode cX2_keepLine 47 = .ok (.getfield 18, 3) := dc_of dtX2_keepLine_0_0_ok (i := 27) rfl
theorem dX2_keepLine_50 : decode cX2_keepLine 50 = .ok (.iconst 1, 1) := dc_of dtX2_keepLine_0_0_ok (i := 28) rfl
theorem dX2_keepLine_51 : decode cX2_keepLine 51 = .ok (.iadd, 1) := dc_of dtX2_keepLine_0_0_ok (i := 29) rfl
theorem dX2_keepLine_52 : decode cX2_keepLine 52 = .ok (.putfield 18, 3) := dc_of dtX2_keepLine_0_0_ok (i := 30) rfl
theorem dX2_keepLine_55 : decode cX2_keepLine 55 = .ok (.return_, 1) := dc_of dtX2_keepLine_0_0_ok (i := 31) rfl
def dtX2_hang_0_0 : List (Nat × Instr × Nat) := [(0, .iload_n 2, 1), (1, .iconst (-1), 1), (2, .if_icmp .eq 47, 3), (5, .aload_n 1, 1), (6, .dup, 1), (7, .getfield 26, 3), (10, .aload_n 0, 1), (11, .getfield 11, 3), (14, .iload_n 2, 1), (15, .aaload, 1), (16, .getfield 26, 3), (19, .iconst 1, 1), (20, .iload_n 2, 1), (21, .ishl, 1), (22, .ior, 1), (23, .ior, 1), (24, .putfield 26, 3), (27, .aload_n 1, 1), (28, .aload_n 1, 1), (29, .getfield 45, 3), (32, .aload_n 0, 1), (33, .getfield 11, 3), (36, .iload_n 2, 1), (37, .aaload, 1), (38, .getfield 45, 3), (41, .iconst 1, 1), (42, .iadd, 1), (43, .invokestatic 48, 3)]
theorem dtX2_hang_0_0_ok : dcAll cX2_hang dtX2_hang_0_0 = true := by decide +kernel
theorem dX2_hang_0 : decode cX2_hang 0 = .ok (.iload_n 2, 1) := dc_of dtX2_hang_0_0_ok (i := 0) rfl
theorem dX2_hang_1 : decode cX2_hang 1 = .ok (.iconst (-1), 1) := dc_of dtX2_hang_0_0_ok (i := 1) rfl
theorem dX2_hang_2 : decode cX2_hang 2 = .ok (.if_icmp .eq 47, 3) := dc_of dtX2_hang_0_0_ok (i := 2) rfl
theorem dX2_hang_5 : decode cX2_hang 5 = .ok (.aload_n 1, 1) := dc_of dtX2_hang_0_0_ok (i := 3) rfl
theorem dX2_hang_6 : decode cX2_hang 6 = .ok (.dup, 1) := dc_of dtX2_hang_0_0_ok (i := 4) rfl
theorem dX2_hang_7 : decode cX2_hang 7 = .ok (.getfield 26, 3) := dc_of dtX2_hang_0_0_ok (i := 5) rfl
theorem dX2_hang_10 : decode cX2_hang 10 = .ok (.aload_n 0, 1) := dc_of dtX2_hang_0_0_ok (i := 6) rfl
theorem dX2_hang_11 : decode cX2_hang 11 = .ok (.getfield 11, 3) := dc_of dtX2_hang_0_0_ok (i := 7) rfl
theorem dX2_hang_14 : decode cX2_hang 14 = .ok (.iload_n 2, 1) := dc_of dtX2_hang_0_0_ok (i := 8) rfl
theorem dX2_hang_15 : decode cX2_hang 15 = .ok (.aaload, 1) := dc_of dtX2_hang_0_0_ok (i := 9) rfl
theorem dX2_hang_16 : decode cX2_hang 16 = .ok (.getfield 26, 3) := dc_of dtX2_hang_0_0_ok (i := 10) rfl
theorem dX2_hang_19 : decode cX2_hang 19 = .ok (.iconst 1, 1) := dc_of dtX2_hang_0_0_ok (i := 11) rfl
theorem dX2_hang_20 : decode cX2_hang 20 = .ok (.iload_n 2, 1) := dc_of dtX2_hang_0_0_ok (i := 12) rfl
theorem dX2_hang_21 : decode cX2_hang 21 = .ok (.ishl, 1) := dc_of dtX2_hang_0_0_ok (i := 13) rfl
theorem dX2_hang_22 : decode cX2_hang 22 = .ok (.ior, 1) := dc_of dtX2_hang_0_0_ok (i := 14) rfl
theorem dX2_hang_23 : decode cX2_hang 23 = .ok (.ior, 1) := dc_of dtX2_hang_0_0_ok (i := 15) rfl
theorem dX2_hang_24 : decode cX2_hang 24 = .ok (.putfield 26, 3) := dc_of dtX2_hang_0_0_ok (i := 16) rfl
theorem dX2_hang_27 : decode cX2_hang 27 = .ok (.aload_n 1, 1) := dc_of dtX2_hang_0_0_ok (i := 17) rfl
theorem dX2_hang_28 : decode cX2_hang 28 = .ok (.aload_n 1, 1) := dc_of dtX2_hang_0_0_ok (i := 18) rfl
theorem dX2_hang_29 : decode cX2_hang 29 = .ok (.getfield 45, 3) := dc_of dtX2_hang_0_0_ok (i := 19) rfl
theorem dX2_hang_32 : decode cX2_hang 32 = .ok (.aload_n 0, 1) := dc_of dtX2_hang_0_0_ok (i := 20) rfl
theorem dX2_hang_33 : decode cX2_hang 33 = .ok (.getfield 11, 3) := dc_of dtX2_hang_0_0_ok (i := 21) rfl
theorem dX2_hang_36 : decode cX2_hang 36 = .ok (.iload_n 2, 1) := dc_of dtX2_hang_0_0_ok (i := 22) rfl
theorem dX2_hang_37 : decode cX2_hang 37 = .ok (.aaload, 1) := dc_of dtX2_hang_0_0_ok (i := 23) rfl
theorem dX2_hang_38 : decode cX2_hang 38 = .ok (.getfield 45, 3) := dc_of dtX2_hang_0_0_ok (i := 24) rfl
theorem dX2_hang_41 : decode cX2_hang 41 = .ok (.iconst 1, 1) := dc_of dtX2_hang_0_0_ok (i := 25) rfl
theorem dX2_hang_42 : decode cX2_hang 42 = .ok (.iadd, 1) := dc_of dtX2_hang_0_0_ok (i := 26) rfl
theorem dX2_hang_43 : decode cX2_hang 43 = .ok (.invokestatic 48, 3) := dc_of dtX2_hang_0_0_ok (i := 27) rfl
