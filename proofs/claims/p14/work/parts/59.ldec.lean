def dtL_law_0_0 : List (Nat × Instr × Nat) := [(0, .new 8, 3), (3, .dup, 1), (4, .invokespecial 33, 3), (7, .astore_n 1, 1), (8, .new 34, 3), (11, .dup, 1), (12, .invokespecial 36, 3), (15, .astore_n 2, 1), (16, .iconst 1, 1), (17, .newarray .long, 2), (19, .astore_n 3, 1), (20, .iconst 0, 1), (21, .istore 4, 2), (23, .iload 4, 2), (25, .aload_n 0, 1), (26, .arraylength, 1), (27, .bipush 7, 2), (29, .isub, 1), (30, .if_icmp .gt 1044, 3), (33, .aload_n 0, 1), (34, .iload 4, 2), (36, .iaload, 1), (37, .bipush 31, 2), (39, .iand, 1), (40, .tableswitch 1028 0 21 #[104, 251, 276, 289, 376, 416, 429, 442, 467, 480, 505, 557, 633, 689, 714, 766, 791, 864, 889, 914, 951, 1003], 104), (144, .aload_n 1, 1), (145, .aload_n 0, 1), (146, .iload 4, 2), (148, .iconst 1, 1), (149, .iadd, 1), (150, .iaload, 1), (151, .i2l, 1)]
theorem dtL_law_0_0_ok : dcAll cL_law dtL_law_0_0 = true := by decide +kernel
theorem dL_law_0 : decode cL_law 0 = .ok (.new 8, 3) := dc_of dtL_law_0_0_ok (i := 0) rfl
theorem dL_law_3 : decode cL_law 3 = .ok (.dup, 1) := dc_of dtL_law_0_0_ok (i := 1) rfl
theorem dL_law_4 : decode cL_law 4 = .ok (.invokespecial 33, 3) := dc_of dtL_law_0_0_ok (i := 2) rfl
theorem dL_law_7 : decode cL_law 7 = .ok (.astore_n 1, 1) := dc_of dtL_law_0_0_ok (i := 3) rfl
theorem dL_law_8 : decode cL_law 8 = .ok (.new 34, 3) := dc_of dtL_law_0_0_ok (i := 4) rfl
theorem dL_law_11 : decode cL_law 11 = .ok (.dup, 1) := dc_of dtL_law_0_0_ok (i := 5) rfl
theorem dL_law_12 : decode cL_law 12 = .ok (.invokespecial 36, 3) := dc_of dtL_law_0_0_ok (i := 6) rfl
theorem dL_law_15 : decode cL_law 15 = .ok (.astore_n 2, 1) := dc_of dtL_law_0_0_ok (i := 7) rfl
theorem dL_law_16 : decode cL_law 16 = .ok (.iconst 1, 1) := dc_of dtL_law_0_0_ok (i := 8) rfl
theorem dL_law_17 : decode cL_law 17 = .ok (.newarray .long, 2) := dc_of dtL_law_0_0_ok (i := 9) rfl
theorem dL_law_19 : decode cL_law 19 = .ok (.astore_n 3, 1) := dc_of dtL_law_0_0_ok (i := 10) rfl
theorem dL_law_20 : decode cL_law 20 = .ok (.iconst 0, 1) := dc_of dtL_law_0_0_ok (i := 11) rfl
theorem dL_law_21 : decode cL_law 21 = .ok (.istore 4, 2) := dc_of dtL_law_0_0_ok (i := 12) rfl
theorem dL_law_23 : decode cL_law 23 = .ok (.iload 4, 2) := dc_of dtL_law_0_0_ok (i := 13) rfl
theorem dL_law_25 : decode cL_law 25 = .ok (.aload_n 0, 1) := dc_of dtL_law_0_0_ok (i := 14) rfl
theorem dL_law_26 : decode cL_law 26 = .ok (.arraylength, 1) := dc_of dtL_law_0_0_ok (i := 15) rfl
theorem dL_law_27 : decode cL_law 27 = .ok (.bipush 7, 2) := dc_of dtL_law_0_0_ok (i := 16) rfl
theorem dL_law_29 : decode cL_law 29 = .ok (.isub, 1) := dc_of dtL_law_0_0_ok (i := 17) rfl
theorem dL_law_30 : decode cL_law 30 = .ok (.if_icmp .gt 1044, 3) := dc_of dtL_law_0_0_ok (i := 18) rfl
theorem dL_law_33 : decode cL_law 33 = .ok (.aload_n 0, 1) := dc_of dtL_law_0_0_ok (i := 19) rfl
theorem dL_law_34 : decode cL_law 34 = .ok (.iload 4, 2) := dc_of dtL_law_0_0_ok (i := 20) rfl
theorem dL_law_36 : decode cL_law 36 = .ok (.iaload, 1) := dc_of dtL_law_0_0_ok (i := 21) rfl
theorem dL_law_37 : decode cL_law 37 = .ok (.bipush 31, 2) := dc_of dtL_law_0_0_ok (i := 22) rfl
theorem dL_law_39 : decode cL_law 39 = .ok (.iand, 1) := dc_of dtL_law_0_0_ok (i := 23) rfl
theorem dL_law_40 : decode cL_law 40 = .ok (.tableswitch 1028 0 21 #[104, 251, 276, 289, 376, 416, 429, 442, 467, 480, 505, 557, 633, 689, 714, 766, 791, 864, 889, 914, 951, 1003], 104) := dc_of dtL_law_0_0_ok (i := 24) rfl
theorem dL_law_144 : decode cL_law 144 = .ok (.aload_n 1, 1) := dc_of dtL_law_0_0_ok (i := 25) rfl
theorem dL_law_145 : decode cL_law 145 = .ok (.aload_n 0, 1) := dc_of dtL_law_0_0_ok (i := 26) rfl
theorem dL_law_146 : decode cL_law 146 = .ok (.iload 4, 2) := dc_of dtL_law_0_0_ok (i := 27) rfl
theorem dL_law_148 : decode cL_law 148 = .ok (.iconst 1, 1) := dc_of dtL_law_0_0_ok (i := 28) rfl
theorem dL_law_149 : decode cL_law 149 = .ok (.iadd, 1) := dc_of dtL_law_0_0_ok (i := 29) rfl
theorem dL_law_150 : decode cL_law 150 = .ok (.iaload, 1) := dc_of dtL_law_0_0_ok (i := 30) rfl
theorem dL_law_151 : decode cL_law 151 = .ok (.i2l, 1) := dc_of dtL_law_0_0_ok (i := 31) rfl
def dtL_law_152_1 : List (Nat × Instr × Nat) := [(152, .bipush 32, 2), (154, .lshl, 1), (155, .aload_n 0, 1), (156, .iload 4, 2), (158, .iconst 2, 1), (159, .iadd, 1), (160, .iaload, 1), (161, .i2l, 1), (162, .ldc2_w 37, 3), (165, .land, 1), (166, .lor, 1), (167, .aload_n 0, 1), (168, .iload 4, 2), (170, .iconst 3, 1), (171, .iadd, 1), (172, .iaload, 1), (173, .i2l, 1), (174, .bipush 32, 2), (176, .lshl, 1), (177, .aload_n 0, 1), (178, .iload 4, 2), (180, .iconst 4, 1), (181, .iadd, 1), (182, .iaload, 1), (183, .i2l, 1), (184, .ldc2_w 37, 3), (187, .land, 1), (188, .lor, 1), (189, .aload_n 0, 1), (190, .iload 4, 2), (192, .iconst 5, 1), (193, .iadd, 1)]
theorem dtL_law_152_1_ok : dcAll cL_law dtL_law_152_1 = true := by decide +kernel
theorem dL_law_152 : decode cL_law 152 = .ok (.bipush 32, 2) := dc_of dtL_law_152_1_ok (i := 0) rfl
theorem dL_law_154 : decode cL_law 154 = .ok (.lshl, 1) := dc_of dtL_law_152_1_ok (i := 1) rfl
theorem dL_law_155 : decode cL_law 155 = .ok (.aload_n 0, 1) := dc_of dtL_law_152_1_ok (i := 2) rfl
theorem dL_law_156 : decode cL_law 156 = .ok (.iload 4, 2) := dc_of dtL_law_152_1_ok (i := 3) rfl
theorem dL_law_158 : decode cL_law 158 = .ok (.iconst 2, 1) := dc_of dtL_law_152_1_ok (i := 4) rfl
theorem dL_law_159 : decode cL_law 159 = .ok (.iadd, 1) := dc_of dtL_law_152_1_ok (i := 5) rfl
theorem dL_law_160 : decode cL_law 160 = .ok (.iaload, 1) := dc_of dtL_law_152_1_ok (i := 6) rfl
theorem dL_law_161 : decode cL_law 161 = .ok (.i2l, 1) := dc_of dtL_law_152_1_ok (i := 7) rfl
theorem dL_law_162 : decode cL_law 162 = .ok (.ldc2_w 37, 3) := dc_of dtL_law_152_1_ok (i := 8) rfl
theorem dL_law_165 : decode cL_law 165 = .ok (.land, 1) := dc_of dtL_law_152_1_ok (i := 9) rfl
theorem dL_law_166 : decode cL_law 166 = .ok (.lor, 1) := dc_of dtL_law_152_1_ok (i := 10) rfl
theorem dL_law_167 : decode cL_law 167 = .ok (.aload_n 0, 1) := dc_of dtL_law_152_1_ok (i := 11) rfl
theorem dL_law_168 : decode cL_law 168 = .ok (.iload 4, 2) := dc_of dtL_law_152_1_ok (i := 12) rfl
theorem dL_law_170 : decode cL_law 170 = .ok (.iconst 3, 1) := dc_of dtL_law_152_1_ok (i := 13) rfl
theorem dL_law_171 : decode cL_law 171 = .ok (.iadd, 1) := dc_of dtL_law_152_1_ok (i := 14) rfl
theorem dL_law_172 : decode cL_law 172 = .ok (.iaload, 1) := dc_of dtL_law_152_1_ok (i := 15) rfl
theorem dL_law_173 : decode cL_law 173 = .ok (.i2l, 1) := dc_of dtL_law_152_1_ok (i := 16) rfl
theorem dL_law_174 : decode cL_law 174 = .ok (.bipush 32, 2) := dc_of dtL_law_152_1_ok (i := 17) rfl
theorem dL_law_176 : decode cL_law 176 = .ok (.lshl, 1) := dc_of dtL_law_152_1_ok (i := 18) rfl
theorem dL_law_177 : decode cL_law 177 = .ok (.aload_n 0, 1) := dc_of dtL_law_152_1_ok (i := 19) rfl
theorem dL_law_178 : decode cL_law 178 = .ok (.iload 4, 2) := dc_of dtL_law_152_1_ok (i := 20) rfl
theorem dL_law_180 : decode cL_law 180 = .ok (.iconst 4, 1) := dc_of dtL_law_152_1_ok (i := 21) rfl
theorem dL_law_181 : decode cL_law 181 = .ok (.iadd, 1) := dc_of dtL_law_152_1_ok (i := 22) rfl
theorem dL_law_182 : decode cL_law 182 = .ok (.iaload, 1) := dc_of dtL_law_152_1_ok (i := 23) rfl
theorem dL_law_183 : decode cL_law 183 = .ok (.i2l, 1) := dc_of dtL_law_152_1_ok (i := 24) rfl
theorem dL_law_184 : decode cL_law 184 = .ok (.ldc2_w 37, 3) := dc_of dtL_law_152_1_ok (i := 25) rfl
theorem dL_law_187 : decode cL_law 187 = .ok (.land, 1) := dc_of dtL_law_152_1_ok (i := 26) rfl
theorem dL_law_188 : decode cL_law 188 = .ok (.lor, 1) := dc_of dtL_law_152_1_ok (i := 27) rfl
theorem dL_law_189 : decode cL_law 189 = .ok (.aload_n 0, 1) := dc_of dtL_law_152_1_ok (i := 28) rfl
theorem dL_law_190 : decode cL_law 190 = .ok (.iload 4, 2) := dc_of dtL_law_152_1_ok (i := 29) rfl
theorem dL_law_192 : decode cL_law 192 = .ok (.iconst 5, 1) := dc_of dtL_law_152_1_ok (i := 30) rfl
theorem dL_law_193 : decode cL_law 193 = .ok (.iadd, 1) := dc_of dtL_law_152_1_ok (i := 31) rfl
def dtL_law_194_2 : List (Nat × Instr × Nat) := [(194, .iaload, 1), (195, .i2l, 1), (196, .bipush 32, 2), (198, .lshl, 1), (199, .aload_n 0, 1), (200, .iload 4, 2), (202, .bipush 6, 2), (204, .iadd, 1), (205, .iaload, 1), (206, .i2l, 1), (207, .ldc2_w 37, 3), (210, .land, 1), (211, .lor, 1), (212, .invokevirtual 39, 3), (215, .pop, 1), (216, .aload_n 2, 1), (217, .aload_n 0, 1), (218, .iload 4, 2), (220, .iconst 1, 1), (221, .iadd, 1), (222, .iaload, 1), (223, .i2l, 1), (224, .bipush 32, 2), (226, .lshl, 1), (227, .aload_n 0, 1), (228, .iload 4, 2), (230, .iconst 2, 1), (231, .iadd, 1), (232, .iaload, 1), (233, .i2l, 1), (234, .ldc2_w 37, 3), (237, .land, 1)]
theorem dtL_law_194_2_ok : dcAll cL_law dtL_law_194_2 = true := by decide +kernel
theorem dL_law_194 : decode cL_law 194 = .ok (.iaload, 1) := dc_of dtL_law_194_2_ok (i := 0) rfl
theorem dL_law_195 : decode cL_law 195 = .ok (.i2l, 1) := dc_of dtL_law_194_2_ok (i := 1) rfl
theorem dL_law_196 : decode cL_law 196 = .ok (.bipush 32, 2) := dc_of dtL_law_194_2_ok (i := 2) rfl
theorem dL_law_198 : decode cL_law 198 = .ok (.lshl, 1) := dc_of dtL_law_194_2_ok (i := 3) rfl
theorem dL_law_199 : decode cL_law 199 = .ok (.aload_n 0, 1) := dc_of dtL_law_194_2_ok (i := 4) rfl
theorem dL_law_200 : decode cL_law 200 = .ok (.iload 4, 2) := dc_of dtL_law_194_2_ok (i := 5) rfl
theorem dL_law_202 : decode cL_law 202 = .ok (.bipush 6, 2) := dc_of dtL_law_194_2_ok (i := 6) rfl
theorem dL_law_204 : decode cL_law 204 = .ok (.iadd, 1) := dc_of dtL_law_194_2_ok (i := 7) rfl
theorem dL_law_205 : decode cL_law 205 = .ok (.iaload, 1) := dc_of dtL_law_194_2_ok (i := 8) rfl
theorem dL_law_206 : decode cL_law 206 = .ok (.i2l, 1) := dc_of dtL_law_194_2_ok (i := 9) rfl
theorem dL_law_207 : decode cL_law 207 = .ok (.ldc2_w 37, 3) := dc_of dtL_law_194_2_ok (i := 10) rfl
theorem dL_law_210 : decode cL_law 210 = .ok (.land, 1) := dc_of dtL_law_194_2_ok (i := 11) rfl
theorem dL_law_211 : decode cL_law 211 = .ok (.lor, 1) := dc_of dtL_law_194_2_ok (i := 12) rfl
theorem dL_law_212 : decode cL_law 212 = .ok (.invokevirtual 39, 3) := dc_of dtL_law_194_2_ok (i := 13) rfl
theorem dL_law_215 : decode cL_law 215 = .ok (.pop, 1) := dc_of dtL_law_194_2_ok (i := 14) rfl
theorem dL_law_216 : decode cL_law 216 = .ok (.aload_n 2, 1) := dc_of dtL_law_194_2_ok (i := 15) rfl
theorem dL_law_217 : decode cL_law 217 = .ok (.aload_n 0, 1) := dc_of dtL_law_194_2_ok (i := 16) rfl
theorem dL_law_218 : decode cL_law 218 = .ok (.iload 4, 2) := dc_of dtL_law_194_2_ok (i := 17) rfl
theorem dL_law_220 : decode cL_law 220 = .ok (.iconst 1, 1) := dc_of dtL_law_194_2_ok (i := 18) rfl
theorem dL_law_221 : decode cL_law 221 = .ok (.iadd, 1) := dc_of dtL_law_194_2_ok (i := 19) rfl
theorem dL_law_222 : decode cL_law 222 = .ok (.iaload, 1) := dc_of dtL_law_194_2_ok (i := 20) rfl
theorem dL_law_223 : decode cL_law 223 = .ok (.i2l, 1) := dc_of dtL_law_194_2_ok (i := 21) rfl
theorem dL_law_224 : decode cL_law 224 = .ok (.bipush 32, 2) := dc_of dtL_law_194_2_ok (i := 22) rfl
theorem dL_law_226 : decode cL_law 226 = .ok (.lshl, 1) := dc_of dtL_law_194_2_ok (i := 23) rfl
theorem dL_law_227 : decode cL_law 227 = .ok (.aload_n 0, 1) := dc_of dtL_law_194_2_ok (i := 24) rfl
theorem dL_law_228 : decode cL_law 228 = .ok (.iload 4, 2) := dc_of dtL_law_194_2_ok (i := 25) rfl
theorem dL_law_230 : decode cL_law 230 = .ok (.iconst 2, 1) := dc_of dtL_law_194_2_ok (i := 26) rfl
theorem dL_law_231 : decode cL_law 231 = .ok (.iadd, 1) := dc_of dtL_law_194_2_ok (i := 27) rfl
theorem dL_law_232 : decode cL_law 232 = .ok (.iaload, 1) := dc_of dtL_law_194_2_ok (i := 28) rfl
theorem dL_law_233 : decode cL_law 233 = .ok (.i2l, 1) := dc_of dtL_law_194_2_ok (i := 29) rfl
theorem dL_law_234 : decode cL_law 234 = .ok (.ldc2_w 37, 3) := dc_of dtL_law_194_2_ok (i := 30) rfl
theorem dL_law_237 : decode cL_law 237 = .ok (.land, 1) := dc_of dtL_law_194_2_ok (i := 31) rfl
def dtL_law_238_3 : List (Nat × Instr × Nat) := [(238, .lor, 1), (239, .aload_n 0, 1), (240, .iload 4, 2), (242, .iconst 3, 1), (243, .iadd, 1), (244, .iaload, 1), (245, .i2l, 1), (246, .bipush 32, 2), (248, .lshl, 1), (249, .aload_n 0, 1), (250, .iload 4, 2), (252, .iconst 4, 1), (253, .iadd, 1), (254, .iaload, 1), (255, .i2l, 1), (256, .ldc2_w 37, 3), (259, .land, 1), (260, .lor, 1), (261, .aload_n 0, 1), (262, .iload 4, 2), (264, .iconst 5, 1), (265, .iadd, 1), (266, .iaload, 1), (267, .i2l, 1), (268, .bipush 32, 2), (270, .lshl, 1), (271, .aload_n 0, 1), (272, .iload 4, 2), (274, .bipush 6, 2), (276, .iadd, 1), (277, .iaload, 1), (278, .i2l, 1)]
theorem dtL_law_238_3_ok : dcAll cL_law dtL_law_238_3 = true := by decide +kernel
theorem dL_law_238 : decode cL_law 238 = .ok (.lor, 1) := dc_of dtL_law_238_3_ok (i := 0) rfl
theorem dL_law_239 : decode cL_law 239 = .ok (.aload_n 0, 1) := dc_of dtL_law_238_3_ok (i := 1) rfl
theorem dL_law_240 : decode cL_law 240 = .ok (.iload 4, 2) := dc_of dtL_law_238_3_ok (i := 2) rfl
theorem dL_law_242 : decode cL_law 242 = .ok (.iconst 3, 1) := dc_of dtL_law_238_3_ok (i := 3) rfl
theorem dL_law_243 : decode cL_law 243 = .ok (.iadd, 1) := dc_of dtL_law_238_3_ok (i := 4) rfl
theorem dL_law_244 : decode cL_law 244 = .ok (.iaload, 1) := dc_of dtL_law_238_3_ok (i := 5) rfl
theorem dL_law_245 : decode cL_law 245 = .ok (.i2l, 1) := dc_of dtL_law_238_3_ok (i := 6) rfl
theorem dL_law_246 : decode cL_law 246 = .ok (.bipush 32, 2) := dc_of dtL_law_238_3_ok (i := 7) rfl
theorem dL_law_248 : decode cL_law 248 = .ok (.lshl, 1) := dc_of dtL_law_238_3_ok (i := 8) rfl
theorem dL_law_249 : decode cL_law 249 = .ok (.aload_n 0, 1) := dc_of dtL_law_238_3_ok (i := 9) rfl
theorem dL_law_250 : decode cL_law 250 = .ok (.iload 4, 2) := dc_of dtL_law_238_3_ok (i := 10) rfl
theorem dL_law_252 : decode cL_law 252 = .ok (.iconst 4, 1) := dc_of dtL_law_238_3_ok (i := 11) rfl
theorem dL_law_253 : decode cL_law 253 = .ok (.iadd, 1) := dc_of dtL_law_238_3_ok (i := 12) rfl
theorem dL_law_254 : decode cL_law 254 = .ok (.iaload, 1) := dc_of dtL_law_238_3_ok (i := 13) rfl
theorem dL_law_255 : decode cL_law 255 = .ok (.i2l, 1) := dc_of dtL_law_238_3_ok (i := 14) rfl
theorem dL_law_256 : decode cL_law 256 = .ok (.ldc2_w 37, 3) := dc_of dtL_law_238_3_ok (i := 15) rfl
theorem dL_law_259 : decode cL_law 259 = .ok (.land, 1) := dc_of dtL_law_238_3_ok (i := 16) rfl
theorem dL_law_260 : decode cL_law 260 = .ok (.lor, 1) := dc_of dtL_law_238_3_ok (i := 17) rfl
theorem dL_law_261 : decode cL_law 261 = .ok (.aload_n 0, 1) := dc_of dtL_law_238_3_ok (i := 18) rfl
theorem dL_law_262 : decode cL_law 262 = .ok (.iload 4, 2) := dc_of dtL_law_238_3_ok (i := 19) rfl
theorem dL_law_264 : decode cL_law 264 = .ok (.iconst 5, 1) := dc_of dtL_law_238_3_ok (i := 20) rfl
theorem dL_law_265 : decode cL_law 265 = .ok (.iadd, 1) := dc_of dtL_law_238_3_ok (i := 21) rfl
theorem dL_law_266 : decode cL_law 266 = .ok (.iaload, 1) := dc_of dtL_law_238_3_ok (i := 22) rfl
theorem dL_law_267 : decode cL_law 267 = .ok (.i2l, 1) := dc_of dtL_law_238_3_ok (i := 23) rfl
theorem dL_law_268 : decode cL_law 268 = .ok (.bipush 32, 2) := dc_of dtL_law_238_3_ok (i := 24) rfl
theorem dL_law_270 : decode cL_law 270 = .ok (.lshl, 1) := dc_of dtL_law_238_3_ok (i := 25) rfl
theorem dL_law_271 : decode cL_law 271 = .ok (.aload_n 0, 1) := dc_of dtL_law_238_3_ok (i := 26) rfl
theorem dL_law_272 : decode cL_law 272 = .ok (.iload 4, 2) := dc_of dtL_law_238_3_ok (i := 27) rfl
theorem dL_law_274 : decode cL_law 274 = .ok (.bipush 6, 2) := dc_of dtL_law_238_3_ok (i := 28) rfl
theorem dL_law_276 : decode cL_law 276 = .ok (.iadd, 1) := dc_of dtL_law_238_3_ok (i := 29) rfl
theorem dL_law_277 : decode cL_law 277 = .ok (.iaload, 1) := dc_of dtL_law_238_3_ok (i := 30) rfl
theorem dL_law_278 : decode cL_law 278 = .ok (.i2l, 1) := dc_of dtL_law_238_3_ok (i := 31) rfl
def dtL_law_279_4 : List (Nat × Instr × Nat) := [(279, .ldc2_w 37, 3), (282, .land, 1), (283, .lor, 1), (284, .invokevirtual 43, 3), (287, .pop, 1), (288, .goto 780, 3), (291, .aload_n 1, 1), (292, .aload_n 0, 1), (293, .iload 4, 2), (295, .iconst 1, 1), (296, .iadd, 1), (297, .iaload, 1), (298, .invokevirtual 44, 3), (301, .pop, 1), (302, .aload_n 2, 1), (303, .aload_n 0, 1), (304, .iload 4, 2), (306, .iconst 1, 1), (307, .iadd, 1), (308, .iaload, 1), (309, .invokevirtual 47, 3), (312, .pop, 1), (313, .goto 755, 3), (316, .aload_n 1, 1), (317, .invokevirtual 48, 3), (320, .pop, 1), (321, .aload_n 2, 1), (322, .invokevirtual 52, 3), (325, .pop, 1), (326, .goto 742, 3), (329, .aload_n 1, 1), (330, .aload_n 0, 1)]
theorem dtL_law_279_4_ok : dcAll cL_law dtL_law_279_4 = true := by decide +kernel
theorem dL_law_279 : decode cL_law 279 = .ok (.ldc2_w 37, 3) := dc_of dtL_law_279_4_ok (i := 0) rfl
theorem dL_law_282 : decode cL_law 282 = .ok (.land, 1) := dc_of dtL_law_279_4_ok (i := 1) rfl
theorem dL_law_283 : decode cL_law 283 = .ok (.lor, 1) := dc_of dtL_law_279_4_ok (i := 2) rfl
theorem dL_law_284 : decode cL_law 284 = .ok (.invokevirtual 43, 3) := dc_of dtL_law_279_4_ok (i := 3) rfl
theorem dL_law_287 : decode cL_law 287 = .ok (.pop, 1) := dc_of dtL_law_279_4_ok (i := 4) rfl
theorem dL_law_288 : decode cL_law 288 = .ok (.goto 780, 3) := dc_of dtL_law_279_4_ok (i := 5) rfl
theorem dL_law_291 : decode cL_law 291 = .ok (.aload_n 1, 1) := dc_of dtL_law_279_4_ok (i := 6) rfl
theorem dL_law_292 : decode cL_law 292 = .ok (.aload_n 0, 1) := dc_of dtL_law_279_4_ok (i := 7) rfl
theorem dL_law_293 : decode cL_law 293 = .ok (.iload 4, 2) := dc_of dtL_law_279_4_ok (i := 8) rfl
theorem dL_law_295 : decode cL_law 295 = .ok (.iconst 1, 1) := dc_of dtL_law_279_4_ok (i := 9) rfl
theorem dL_law_296 : decode cL_law 296 = .ok (.iadd, 1) := dc_of dtL_law_279_4_ok (i := 10) rfl
theorem dL_law_297 : decode cL_law 297 = .ok (.iaload, 1) := dc_of dtL_law_279_4_ok (i := 11) rfl
theorem dL_law_298 : decode cL_law 298 = .ok (.invokevirtual 44, 3) := dc_of dtL_law_279_4_ok (i := 12) rfl
theorem dL_law_301 : decode cL_law 301 = .ok (.pop, 1) := dc_of dtL_law_279_4_ok (i := 13) rfl
theorem dL_law_302 : decode cL_law 302 = .ok (.aload_n 2, 1) := dc_of dtL_law_279_4_ok (i := 14) rfl
theorem dL_law_303 : decode cL_law 303 = .ok (.aload_n 0, 1) := dc_of dtL_law_279_4_ok (i := 15) rfl
theorem dL_law_304 : decode cL_law 304 = .ok (.iload 4, 2) := dc_of dtL_law_279_4_ok (i := 16) rfl
theorem dL_law_306 : decode cL_law 306 = .ok (.iconst 1, 1) := dc_of dtL_law_279_4_ok (i := 17) rfl
theorem dL_law_307 : decode cL_law 307 = .ok (.iadd, 1) := dc_of dtL_law_279_4_ok (i := 18) rfl
theorem dL_law_308 : decode cL_law 308 = .ok (.iaload, 1) := dc_of dtL_law_279_4_ok (i := 19) rfl
theorem dL_law_309 : decode cL_law 309 = .ok (.invokevirtual 47, 3) := dc_of dtL_law_279_4_ok (i := 20) rfl
theorem dL_law_312 : decode cL_law 312 = .ok (.pop, 1) := dc_of dtL_law_279_4_ok (i := 21) rfl
theorem dL_law_313 : decode cL_law 313 = .ok (.goto 755, 3) := dc_of dtL_law_279_4_ok (i := 22) rfl
theorem dL_law_316 : decode cL_law 316 = .ok (.aload_n 1, 1) := dc_of dtL_law_279_4_ok (i := 23) rfl
theorem dL_law_317 : decode cL_law 317 = .ok (.invokevirtual 48, 3) := dc_of dtL_law_279_4_ok (i := 24) rfl
theorem dL_law_320 : decode cL_law 320 = .ok (.pop, 1) := dc_of dtL_law_279_4_ok (i := 25) rfl
theorem dL_law_321 : decode cL_law 321 = .ok (.aload_n 2, 1) := dc_of dtL_law_279_4_ok (i := 26) rfl
theorem dL_law_322 : decode cL_law 322 = .ok (.invokevirtual 52, 3) := dc_of dtL_law_279_4_ok (i := 27) rfl
theorem dL_law_325 : decode cL_law 325 = .ok (.pop, 1) := dc_of dtL_law_279_4_ok (i := 28) rfl
theorem dL_law_326 : decode cL_law 326 = .ok (.goto 742, 3) := dc_of dtL_law_279_4_ok (i := 29) rfl
theorem dL_law_329 : decode cL_law 329 = .ok (.aload_n 1, 1) := dc_of dtL_law_279_4_ok (i := 30) rfl
theorem dL_law_330 : decode cL_law 330 = .ok (.aload_n 0, 1) := dc_of dtL_law_279_4_ok (i := 31) rfl
def dtL_law_331_5 : List (Nat × Instr × Nat) := [(331, .iload 4, 2), (333, .iconst 1, 1), (334, .iadd, 1), (335, .iaload, 1), (336, .aload_n 0, 1), (337, .iload 4, 2), (339, .iconst 2, 1), (340, .iadd, 1), (341, .iaload, 1), (342, .aload_n 0, 1), (343, .iload 4, 2), (345, .iconst 3, 1), (346, .iadd, 1), (347, .iaload, 1), (348, .aload_n 0, 1), (349, .iload 4, 2), (351, .iconst 4, 1), (352, .iadd, 1), (353, .iaload, 1), (354, .aload_n 0, 1), (355, .iload 4, 2), (357, .iconst 5, 1), (358, .iadd, 1), (359, .iaload, 1), (360, .aload_n 0, 1), (361, .iload 4, 2), (363, .bipush 6, 2), (365, .iadd, 1), (366, .iaload, 1), (367, .invokevirtual 53, 3), (370, .pop, 1), (371, .aload_n 2, 1)]
theorem dtL_law_331_5_ok : dcAll cL_law dtL_law_331_5 = true := by decide +kernel
theorem dL_law_331 : decode cL_law 331 = .ok (.iload 4, 2) := dc_of dtL_law_331_5_ok (i := 0) rfl
theorem dL_law_333 : decode cL_law 333 = .ok (.iconst 1, 1) := dc_of dtL_law_331_5_ok (i := 1) rfl
theorem dL_law_334 : decode cL_law 334 = .ok (.iadd, 1) := dc_of dtL_law_331_5_ok (i := 2) rfl
theorem dL_law_335 : decode cL_law 335 = .ok (.iaload, 1) := dc_of dtL_law_331_5_ok (i := 3) rfl
theorem dL_law_336 : decode cL_law 336 = .ok (.aload_n 0, 1) := dc_of dtL_law_331_5_ok (i := 4) rfl
theorem dL_law_337 : decode cL_law 337 = .ok (.iload 4, 2) := dc_of dtL_law_331_5_ok (i := 5) rfl
theorem dL_law_339 : decode cL_law 339 = .ok (.iconst 2, 1) := dc_of dtL_law_331_5_ok (i := 6) rfl
theorem dL_law_340 : decode cL_law 340 = .ok (.iadd, 1) := dc_of dtL_law_331_5_ok (i := 7) rfl
theorem dL_law_341 : decode cL_law 341 = .ok (.iaload, 1) := dc_of dtL_law_331_5_ok (i := 8) rfl
theorem dL_law_342 : decode cL_law 342 = .ok (.aload_n 0, 1) := dc_of dtL_law_331_5_ok (i := 9) rfl
theorem dL_law_343 : decode cL_law 343 = .ok (.iload 4, 2) := dc_of dtL_law_331_5_ok (i := 10) rfl
theorem dL_law_345 : decode cL_law 345 = .ok (.iconst 3, 1) := dc_of dtL_law_331_5_ok (i := 11) rfl
theorem dL_law_346 : decode cL_law 346 = .ok (.iadd, 1) := dc_of dtL_law_331_5_ok (i := 12) rfl
theorem dL_law_347 : decode cL_law 347 = .ok (.iaload, 1) := dc_of dtL_law_331_5_ok (i := 13) rfl
theorem dL_law_348 : decode cL_law 348 = .ok (.aload_n 0, 1) := dc_of dtL_law_331_5_ok (i := 14) rfl
theorem dL_law_349 : decode cL_law 349 = .ok (.iload 4, 2) := dc_of dtL_law_331_5_ok (i := 15) rfl
theorem dL_law_351 : decode cL_law 351 = .ok (.iconst 4, 1) := dc_of dtL_law_331_5_ok (i := 16) rfl
theorem dL_law_352 : decode cL_law 352 = .ok (.iadd, 1) := dc_of dtL_law_331_5_ok (i := 17) rfl
theorem dL_law_353 : decode cL_law 353 = .ok (.iaload, 1) := dc_of dtL_law_331_5_ok (i := 18) rfl
theorem dL_law_354 : decode cL_law 354 = .ok (.aload_n 0, 1) := dc_of dtL_law_331_5_ok (i := 19) rfl
theorem dL_law_355 : decode cL_law 355 = .ok (.iload 4, 2) := dc_of dtL_law_331_5_ok (i := 20) rfl
theorem dL_law_357 : decode cL_law 357 = .ok (.iconst 5, 1) := dc_of dtL_law_331_5_ok (i := 21) rfl
theorem dL_law_358 : decode cL_law 358 = .ok (.iadd, 1) := dc_of dtL_law_331_5_ok (i := 22) rfl
theorem dL_law_359 : decode cL_law 359 = .ok (.iaload, 1) := dc_of dtL_law_331_5_ok (i := 23) rfl
theorem dL_law_360 : decode cL_law 360 = .ok (.aload_n 0, 1) := dc_of dtL_law_331_5_ok (i := 24) rfl
theorem dL_law_361 : decode cL_law 361 = .ok (.iload 4, 2) := dc_of dtL_law_331_5_ok (i := 25) rfl
theorem dL_law_363 : decode cL_law 363 = .ok (.bipush 6, 2) := dc_of dtL_law_331_5_ok (i := 26) rfl
theorem dL_law_365 : decode cL_law 365 = .ok (.iadd, 1) := dc_of dtL_law_331_5_ok (i := 27) rfl
theorem dL_law_366 : decode cL_law 366 = .ok (.iaload, 1) := dc_of dtL_law_331_5_ok (i := 28) rfl
theorem dL_law_367 : decode cL_law 367 = .ok (.invokevirtual 53, 3) := dc_of dtL_law_331_5_ok (i := 29) rfl
theorem dL_law_370 : decode cL_law 370 = .ok (.pop, 1) := dc_of dtL_law_331_5_ok (i := 30) rfl
theorem dL_law_371 : decode cL_law 371 = .ok (.aload_n 2, 1) := dc_of dtL_law_331_5_ok (i := 31) rfl
def dtL_law_372_6 : List (Nat × Instr × Nat) := [(372, .aload_n 0, 1), (373, .iload 4, 2), (375, .iconst 1, 1), (376, .iadd, 1), (377, .iaload, 1), (378, .aload_n 0, 1), (379, .iload 4, 2), (381, .iconst 2, 1), (382, .iadd, 1), (383, .iaload, 1), (384, .aload_n 0, 1), (385, .iload 4, 2), (387, .iconst 3, 1), (388, .iadd, 1), (389, .iaload, 1), (390, .aload_n 0, 1), (391, .iload 4, 2), (393, .iconst 4, 1), (394, .iadd, 1), (395, .iaload, 1), (396, .aload_n 0, 1), (397, .iload 4, 2), (399, .iconst 5, 1), (400, .iadd, 1), (401, .iaload, 1), (402, .aload_n 0, 1), (403, .iload 4, 2), (405, .bipush 6, 2), (407, .iadd, 1), (408, .iaload, 1), (409, .invokevirtual 57, 3), (412, .pop, 1)]
theorem dtL_law_372_6_ok : dcAll cL_law dtL_law_372_6 = true := by decide +kernel
theorem dL_law_372 : decode cL_law 372 = .ok (.aload_n 0, 1) := dc_of dtL_law_372_6_ok (i := 0) rfl
theorem dL_law_373 : decode cL_law 373 = .ok (.iload 4, 2) := dc_of dtL_law_372_6_ok (i := 1) rfl
theorem dL_law_375 : decode cL_law 375 = .ok (.iconst 1, 1) := dc_of dtL_law_372_6_ok (i := 2) rfl
theorem dL_law_376 : decode cL_law 376 = .ok (.iadd, 1) := dc_of dtL_law_372_6_ok (i := 3) rfl
theorem dL_law_377 : decode cL_law 377 = .ok (.iaload, 1) := dc_of dtL_law_372_6_ok (i := 4) rfl
theorem dL_law_378 : decode cL_law 378 = .ok (.aload_n 0, 1) := dc_of dtL_law_372_6_ok (i := 5) rfl
theorem dL_law_379 : decode cL_law 379 = .ok (.iload 4, 2) := dc_of dtL_law_372_6_ok (i := 6) rfl
theorem dL_law_381 : decode cL_law 381 = .ok (.iconst 2, 1) := dc_of dtL_law_372_6_ok (i := 7) rfl
theorem dL_law_382 : decode cL_law 382 = .ok (.iadd, 1) := dc_of dtL_law_372_6_ok (i := 8) rfl
theorem dL_law_383 : decode cL_law 383 = .ok (.iaload, 1) := dc_of dtL_law_372_6_ok (i := 9) rfl
theorem dL_law_384 : decode cL_law 384 = .ok (.aload_n 0, 1) := dc_of dtL_law_372_6_ok (i := 10) rfl
theorem dL_law_385 : decode cL_law 385 = .ok (.iload 4, 2) := dc_of dtL_law_372_6_ok (i := 11) rfl
theorem dL_law_387 : decode cL_law 387 = .ok (.iconst 3, 1) := dc_of dtL_law_372_6_ok (i := 12) rfl
theorem dL_law_388 : decode cL_law 388 = .ok (.iadd, 1) := dc_of dtL_law_372_6_ok (i := 13) rfl
theorem dL_law_389 : decode cL_law 389 = .ok (.iaload, 1) := dc_of dtL_law_372_6_ok (i := 14) rfl
theorem dL_law_390 : decode cL_law 390 = .ok (.aload_n 0, 1) := dc_of dtL_law_372_6_ok (i := 15) rfl
theorem dL_law_391 : decode cL_law 391 = .ok (.iload 4, 2) := dc_of dtL_law_372_6_ok (i := 16) rfl
theorem dL_law_393 : decode cL_law 393 = .ok (.iconst 4, 1) := dc_of dtL_law_372_6_ok (i := 17) rfl
theorem dL_law_394 : decode cL_law 394 = .ok (.iadd, 1) := dc_of dtL_law_372_6_ok (i := 18) rfl
theorem dL_law_395 : decode cL_law 395 = .ok (.iaload, 1) := dc_of dtL_law_372_6_ok (i := 19) rfl
theorem dL_law_396 : decode cL_law 396 = .ok (.aload_n 0, 1) := dc_of dtL_law_372_6_ok (i := 20) rfl
theorem dL_law_397 : decode cL_law 397 = .ok (.iload 4, 2) := dc_of dtL_law_372_6_ok (i := 21) rfl
theorem dL_law_399 : decode cL_law 399 = .ok (.iconst 5, 1) := dc_of dtL_law_372_6_ok (i := 22) rfl
theorem dL_law_400 : decode cL_law 400 = .ok (.iadd, 1) := dc_of dtL_law_372_6_ok (i := 23) rfl
theorem dL_law_401 : decode cL_law 401 = .ok (.iaload, 1) := dc_of dtL_law_372_6_ok (i := 24) rfl
theorem dL_law_402 : decode cL_law 402 = .ok (.aload_n 0, 1) := dc_of dtL_law_372_6_ok (i := 25) rfl
theorem dL_law_403 : decode cL_law 403 = .ok (.iload 4, 2) := dc_of dtL_law_372_6_ok (i := 26) rfl
theorem dL_law_405 : decode cL_law 405 = .ok (.bipush 6, 2) := dc_of dtL_law_372_6_ok (i := 27) rfl
theorem dL_law_407 : decode cL_law 407 = .ok (.iadd, 1) := dc_of dtL_law_372_6_ok (i := 28) rfl
theorem dL_law_408 : decode cL_law 408 = .ok (.iaload, 1) := dc_of dtL_law_372_6_ok (i := 29) rfl
theorem dL_law_409 : decode cL_law 409 = .ok (.invokevirtual 57, 3) := dc_of dtL_law_372_6_ok (i := 30) rfl
theorem dL_law_412 : decode cL_law 412 = .ok (.pop, 1) := dc_of dtL_law_372_6_ok (i := 31) rfl
def dtL_law_413_7 : List (Nat × Instr × Nat) := [(413, .goto 655, 3), (416, .aload_n 1, 1), (417, .aload_n 0, 1), (418, .iload 4, 2), (420, .iconst 1, 1), (421, .iadd, 1), (422, .iaload, 1), (423, .aload_n 0, 1), (424, .iload 4, 2), (426, .iconst 2, 1), (427, .iadd, 1), (428, .iaload, 1), (429, .aload_n 3, 1), (430, .invokestatic 58, 3), (433, .istore 5, 2), (435, .aload_n 2, 1), (436, .aload_n 0, 1), (437, .iload 4, 2), (439, .iconst 1, 1), (440, .iadd, 1), (441, .iaload, 1), (442, .aload_n 0, 1), (443, .iload 4, 2), (445, .iconst 2, 1), (446, .iadd, 1), (447, .iaload, 1), (448, .invokevirtual 63, 3), (451, .istore 6, 2), (453, .goto 615, 3), (456, .aload_n 1, 1), (457, .invokevirtual 64, 3), (460, .pop, 1)]
theorem dtL_law_413_7_ok : dcAll cL_law dtL_law_413_7 = true := by decide +kernel
theorem dL_law_413 : decode cL_law 413 = .ok (.goto 655, 3) := dc_of dtL_law_413_7_ok (i := 0) rfl
theorem dL_law_416 : decode cL_law 416 = .ok (.aload_n 1, 1) := dc_of dtL_law_413_7_ok (i := 1) rfl
theorem dL_law_417 : decode cL_law 417 = .ok (.aload_n 0, 1) := dc_of dtL_law_413_7_ok (i := 2) rfl
theorem dL_law_418 : decode cL_law 418 = .ok (.iload 4, 2) := dc_of dtL_law_413_7_ok (i := 3) rfl
theorem dL_law_420 : decode cL_law 420 = .ok (.iconst 1, 1) := dc_of dtL_law_413_7_ok (i := 4) rfl
theorem dL_law_421 : decode cL_law 421 = .ok (.iadd, 1) := dc_of dtL_law_413_7_ok (i := 5) rfl
theorem dL_law_422 : decode cL_law 422 = .ok (.iaload, 1) := dc_of dtL_law_413_7_ok (i := 6) rfl
theorem dL_law_423 : decode cL_law 423 = .ok (.aload_n 0, 1) := dc_of dtL_law_413_7_ok (i := 7) rfl
theorem dL_law_424 : decode cL_law 424 = .ok (.iload 4, 2) := dc_of dtL_law_413_7_ok (i := 8) rfl
theorem dL_law_426 : decode cL_law 426 = .ok (.iconst 2, 1) := dc_of dtL_law_413_7_ok (i := 9) rfl
theorem dL_law_427 : decode cL_law 427 = .ok (.iadd, 1) := dc_of dtL_law_413_7_ok (i := 10) rfl
theorem dL_law_428 : decode cL_law 428 = .ok (.iaload, 1) := dc_of dtL_law_413_7_ok (i := 11) rfl
theorem dL_law_429 : decode cL_law 429 = .ok (.aload_n 3, 1) := dc_of dtL_law_413_7_ok (i := 12) rfl
theorem dL_law_430 : decode cL_law 430 = .ok (.invokestatic 58, 3) := dc_of dtL_law_413_7_ok (i := 13) rfl
theorem dL_law_433 : decode cL_law 433 = .ok (.istore 5, 2) := dc_of dtL_law_413_7_ok (i := 14) rfl
theorem dL_law_435 : decode cL_law 435 = .ok (.aload_n 2, 1) := dc_of dtL_law_413_7_ok (i := 15) rfl
theorem dL_law_436 : decode cL_law 436 = .ok (.aload_n 0, 1) := dc_of dtL_law_413_7_ok (i := 16) rfl
theorem dL_law_437 : decode cL_law 437 = .ok (.iload 4, 2) := dc_of dtL_law_413_7_ok (i := 17) rfl
theorem dL_law_439 : decode cL_law 439 = .ok (.iconst 1, 1) := dc_of dtL_law_413_7_ok (i := 18) rfl
theorem dL_law_440 : decode cL_law 440 = .ok (.iadd, 1) := dc_of dtL_law_413_7_ok (i := 19) rfl
theorem dL_law_441 : decode cL_law 441 = .ok (.iaload, 1) := dc_of dtL_law_413_7_ok (i := 20) rfl
theorem dL_law_442 : decode cL_law 442 = .ok (.aload_n 0, 1) := dc_of dtL_law_413_7_ok (i := 21) rfl
theorem dL_law_443 : decode cL_law 443 = .ok (.iload 4, 2) := dc_of dtL_law_413_7_ok (i := 22) rfl
theorem dL_law_445 : decode cL_law 445 = .ok (.iconst 2, 1) := dc_of dtL_law_413_7_ok (i := 23) rfl
theorem dL_law_446 : decode cL_law 446 = .ok (.iadd, 1) := dc_of dtL_law_413_7_ok (i := 24) rfl
theorem dL_law_447 : decode cL_law 447 = .ok (.iaload, 1) := dc_of dtL_law_413_7_ok (i := 25) rfl
theorem dL_law_448 : decode cL_law 448 = .ok (.invokevirtual 63, 3) := dc_of dtL_law_413_7_ok (i := 26) rfl
theorem dL_law_451 : decode cL_law 451 = .ok (.istore 6, 2) := dc_of dtL_law_413_7_ok (i := 27) rfl
theorem dL_law_453 : decode cL_law 453 = .ok (.goto 615, 3) := dc_of dtL_law_413_7_ok (i := 28) rfl
theorem dL_law_456 : decode cL_law 456 = .ok (.aload_n 1, 1) := dc_of dtL_law_413_7_ok (i := 29) rfl
theorem dL_law_457 : decode cL_law 457 = .ok (.invokevirtual 64, 3) := dc_of dtL_law_413_7_ok (i := 30) rfl
theorem dL_law_460 : decode cL_law 460 = .ok (.pop, 1) := dc_of dtL_law_413_7_ok (i := 31) rfl
def dtL_law_461_8 : List (Nat × Instr × Nat) := [(461, .aload_n 2, 1), (462, .invokevirtual 67, 3), (465, .pop, 1), (466, .goto 602, 3), (469, .aload_n 1, 1), (470, .invokevirtual 68, 3), (473, .pop, 1), (474, .aload_n 2, 1), (475, .invokevirtual 71, 3), (478, .pop, 1), (479, .goto 589, 3), (482, .aload_n 1, 1), (483, .aload_n 0, 1), (484, .iload 4, 2), (486, .iconst 1, 1), (487, .iadd, 1), (488, .iaload, 1), (489, .invokevirtual 72, 3), (492, .pop, 1), (493, .aload_n 2, 1), (494, .aload_n 0, 1), (495, .iload 4, 2), (497, .iconst 1, 1), (498, .iadd, 1), (499, .iaload, 1), (500, .invokevirtual 75, 3), (503, .pop, 1), (504, .goto 564, 3), (507, .aload_n 1, 1), (508, .invokevirtual 76, 3), (511, .pop, 1), (512, .aload_n 2, 1)]
theorem dtL_law_461_8_ok : dcAll cL_law dtL_law_461_8 = true := by decide +kernel
theorem dL_law_461 : decode cL_law 461 = .ok (.aload_n 2, 1) := dc_of dtL_law_461_8_ok (i := 0) rfl
theorem dL_law_462 : decode cL_law 462 = .ok (.invokevirtual 67, 3) := dc_of dtL_law_461_8_ok (i := 1) rfl
theorem dL_law_465 : decode cL_law 465 = .ok (.pop, 1) := dc_of dtL_law_461_8_ok (i := 2) rfl
theorem dL_law_466 : decode cL_law 466 = .ok (.goto 602, 3) := dc_of dtL_law_461_8_ok (i := 3) rfl
theorem dL_law_469 : decode cL_law 469 = .ok (.aload_n 1, 1) := dc_of dtL_law_461_8_ok (i := 4) rfl
theorem dL_law_470 : decode cL_law 470 = .ok (.invokevirtual 68, 3) := dc_of dtL_law_461_8_ok (i := 5) rfl
theorem dL_law_473 : decode cL_law 473 = .ok (.pop, 1) := dc_of dtL_law_461_8_ok (i := 6) rfl
theorem dL_law_474 : decode cL_law 474 = .ok (.aload_n 2, 1) := dc_of dtL_law_461_8_ok (i := 7) rfl
theorem dL_law_475 : decode cL_law 475 = .ok (.invokevirtual 71, 3) := dc_of dtL_law_461_8_ok (i := 8) rfl
theorem dL_law_478 : decode cL_law 478 = .ok (.pop, 1) := dc_of dtL_law_461_8_ok (i := 9) rfl
theorem dL_law_479 : decode cL_law 479 = .ok (.goto 589, 3) := dc_of dtL_law_461_8_ok (i := 10) rfl
theorem dL_law_482 : decode cL_law 482 = .ok (.aload_n 1, 1) := dc_of dtL_law_461_8_ok (i := 11) rfl
theorem dL_law_483 : decode cL_law 483 = .ok (.aload_n 0, 1) := dc_of dtL_law_461_8_ok (i := 12) rfl
theorem dL_law_484 : decode cL_law 484 = .ok (.iload 4, 2) := dc_of dtL_law_461_8_ok (i := 13) rfl
theorem dL_law_486 : decode cL_law 486 = .ok (.iconst 1, 1) := dc_of dtL_law_461_8_ok (i := 14) rfl
theorem dL_law_487 : decode cL_law 487 = .ok (.iadd, 1) := dc_of dtL_law_461_8_ok (i := 15) rfl
theorem dL_law_488 : decode cL_law 488 = .ok (.iaload, 1) := dc_of dtL_law_461_8_ok (i := 16) rfl
theorem dL_law_489 : decode cL_law 489 = .ok (.invokevirtual 72, 3) := dc_of dtL_law_461_8_ok (i := 17) rfl
theorem dL_law_492 : decode cL_law 492 = .ok (.pop, 1) := dc_of dtL_law_461_8_ok (i := 18) rfl
theorem dL_law_493 : decode cL_law 493 = .ok (.aload_n 2, 1) := dc_of dtL_law_461_8_ok (i := 19) rfl
theorem dL_law_494 : decode cL_law 494 = .ok (.aload_n 0, 1) := dc_of dtL_law_461_8_ok (i := 20) rfl
theorem dL_law_495 : decode cL_law 495 = .ok (.iload 4, 2) := dc_of dtL_law_461_8_ok (i := 21) rfl
theorem dL_law_497 : decode cL_law 497 = .ok (.iconst 1, 1) := dc_of dtL_law_461_8_ok (i := 22) rfl
theorem dL_law_498 : decode cL_law 498 = .ok (.iadd, 1) := dc_of dtL_law_461_8_ok (i := 23) rfl
theorem dL_law_499 : decode cL_law 499 = .ok (.iaload, 1) := dc_of dtL_law_461_8_ok (i := 24) rfl
theorem dL_law_500 : decode cL_law 500 = .ok (.invokevirtual 75, 3) := dc_of dtL_law_461_8_ok (i := 25) rfl
theorem dL_law_503 : decode cL_law 503 = .ok (.pop, 1) := dc_of dtL_law_461_8_ok (i := 26) rfl
theorem dL_law_504 : decode cL_law 504 = .ok (.goto 564, 3) := dc_of dtL_law_461_8_ok (i := 27) rfl
theorem dL_law_507 : decode cL_law 507 = .ok (.aload_n 1, 1) := dc_of dtL_law_461_8_ok (i := 28) rfl
theorem dL_law_508 : decode cL_law 508 = .ok (.invokevirtual 76, 3) := dc_of dtL_law_461_8_ok (i := 29) rfl
theorem dL_law_511 : decode cL_law 511 = .ok (.pop, 1) := dc_of dtL_law_461_8_ok (i := 30) rfl
theorem dL_law_512 : decode cL_law 512 = .ok (.aload_n 2, 1) := dc_of dtL_law_461_8_ok (i := 31) rfl
def dtL_law_513_9 : List (Nat × Instr × Nat) := [(513, .invokevirtual 79, 3), (516, .pop, 1), (517, .goto 551, 3), (520, .aload_n 1, 1), (521, .aload_n 0, 1), (522, .iload 4, 2), (524, .iconst 1, 1), (525, .iadd, 1), (526, .iaload, 1), (527, .invokevirtual 80, 3), (530, .pop, 1), (531, .aload_n 2, 1), (532, .aload_n 0, 1), (533, .iload 4, 2), (535, .iconst 1, 1), (536, .iadd, 1), (537, .iaload, 1), (538, .invokevirtual 83, 3), (541, .pop, 1), (542, .goto 526, 3), (545, .aload_n 1, 1), (546, .aload_n 0, 1), (547, .iload 4, 2), (549, .iconst 1, 1), (550, .iadd, 1), (551, .iaload, 1), (552, .aload_n 0, 1), (553, .iload 4, 2), (555, .iconst 2, 1), (556, .iadd, 1), (557, .iaload, 1), (558, .aload_n 0, 1)]
theorem dtL_law_513_9_ok : dcAll cL_law dtL_law_513_9 = true := by decide +kernel
theorem dL_law_513 : decode cL_law 513 = .ok (.invokevirtual 79, 3) := dc_of dtL_law_513_9_ok (i := 0) rfl
theorem dL_law_516 : decode cL_law 516 = .ok (.pop, 1) := dc_of dtL_law_513_9_ok (i := 1) rfl
theorem dL_law_517 : decode cL_law 517 = .ok (.goto 551, 3) := dc_of dtL_law_513_9_ok (i := 2) rfl
theorem dL_law_520 : decode cL_law 520 = .ok (.aload_n 1, 1) := dc_of dtL_law_513_9_ok (i := 3) rfl
theorem dL_law_521 : decode cL_law 521 = .ok (.aload_n 0, 1) := dc_of dtL_law_513_9_ok (i := 4) rfl
theorem dL_law_522 : decode cL_law 522 = .ok (.iload 4, 2) := dc_of dtL_law_513_9_ok (i := 5) rfl
theorem dL_law_524 : decode cL_law 524 = .ok (.iconst 1, 1) := dc_of dtL_law_513_9_ok (i := 6) rfl
theorem dL_law_525 : decode cL_law 525 = .ok (.iadd, 1) := dc_of dtL_law_513_9_ok (i := 7) rfl
theorem dL_law_526 : decode cL_law 526 = .ok (.iaload, 1) := dc_of dtL_law_513_9_ok (i := 8) rfl
theorem dL_law_527 : decode cL_law 527 = .ok (.invokevirtual 80, 3) := dc_of dtL_law_513_9_ok (i := 9) rfl
theorem dL_law_530 : decode cL_law 530 = .ok (.pop, 1) := dc_of dtL_law_513_9_ok (i := 10) rfl
theorem dL_law_531 : decode cL_law 531 = .ok (.aload_n 2, 1) := dc_of dtL_law_513_9_ok (i := 11) rfl
theorem dL_law_532 : decode cL_law 532 = .ok (.aload_n 0, 1) := dc_of dtL_law_513_9_ok (i := 12) rfl
theorem dL_law_533 : decode cL_law 533 = .ok (.iload 4, 2) := dc_of dtL_law_513_9_ok (i := 13) rfl
theorem dL_law_535 : decode cL_law 535 = .ok (.iconst 1, 1) := dc_of dtL_law_513_9_ok (i := 14) rfl
theorem dL_law_536 : decode cL_law 536 = .ok (.iadd, 1) := dc_of dtL_law_513_9_ok (i := 15) rfl
theorem dL_law_537 : decode cL_law 537 = .ok (.iaload, 1) := dc_of dtL_law_513_9_ok (i := 16) rfl
theorem dL_law_538 : decode cL_law 538 = .ok (.invokevirtual 83, 3) := dc_of dtL_law_513_9_ok (i := 17) rfl
theorem dL_law_541 : decode cL_law 541 = .ok (.pop, 1) := dc_of dtL_law_513_9_ok (i := 18) rfl
theorem dL_law_542 : decode cL_law 542 = .ok (.goto 526, 3) := dc_of dtL_law_513_9_ok (i := 19) rfl
theorem dL_law_545 : decode cL_law 545 = .ok (.aload_n 1, 1) := dc_of dtL_law_513_9_ok (i := 20) rfl
theorem dL_law_546 : decode cL_law 546 = .ok (.aload_n 0, 1) := dc_of dtL_law_513_9_ok (i := 21) rfl
theorem dL_law_547 : decode cL_law 547 = .ok (.iload 4, 2) := dc_of dtL_law_513_9_ok (i := 22) rfl
theorem dL_law_549 : decode cL_law 549 = .ok (.iconst 1, 1) := dc_of dtL_law_513_9_ok (i := 23) rfl
theorem dL_law_550 : decode cL_law 550 = .ok (.iadd, 1) := dc_of dtL_law_513_9_ok (i := 24) rfl
theorem dL_law_551 : decode cL_law 551 = .ok (.iaload, 1) := dc_of dtL_law_513_9_ok (i := 25) rfl
theorem dL_law_552 : decode cL_law 552 = .ok (.aload_n 0, 1) := dc_of dtL_law_513_9_ok (i := 26) rfl
theorem dL_law_553 : decode cL_law 553 = .ok (.iload 4, 2) := dc_of dtL_law_513_9_ok (i := 27) rfl
theorem dL_law_555 : decode cL_law 555 = .ok (.iconst 2, 1) := dc_of dtL_law_513_9_ok (i := 28) rfl
theorem dL_law_556 : decode cL_law 556 = .ok (.iadd, 1) := dc_of dtL_law_513_9_ok (i := 29) rfl
theorem dL_law_557 : decode cL_law 557 = .ok (.iaload, 1) := dc_of dtL_law_513_9_ok (i := 30) rfl
theorem dL_law_558 : decode cL_law 558 = .ok (.aload_n 0, 1) := dc_of dtL_law_513_9_ok (i := 31) rfl
def dtL_law_559_10 : List (Nat × Instr × Nat) := [(559, .iload 4, 2), (561, .iconst 3, 1), (562, .iadd, 1), (563, .iaload, 1), (564, .aload_n 3, 1), (565, .invokestatic 84, 3), (568, .istore 5, 2), (570, .aload_n 2, 1), (571, .aload_n 0, 1), (572, .iload 4, 2), (574, .iconst 1, 1), (575, .iadd, 1), (576, .iaload, 1), (577, .aload_n 0, 1), (578, .iload 4, 2), (580, .iconst 2, 1), (581, .iadd, 1), (582, .iaload, 1), (583, .aload_n 0, 1), (584, .iload 4, 2), (586, .iconst 3, 1), (587, .iadd, 1), (588, .iaload, 1), (589, .invokevirtual 87, 3), (592, .istore 6, 2), (594, .goto 474, 3), (597, .aload_n 1, 1), (598, .aload_n 0, 1), (599, .iload 4, 2), (601, .iconst 1, 1), (602, .iadd, 1), (603, .iaload, 1)]
theorem dtL_law_559_10_ok : dcAll cL_law dtL_law_559_10 = true := by decide +kernel
theorem dL_law_559 : decode cL_law 559 = .ok (.iload 4, 2) := dc_of dtL_law_559_10_ok (i := 0) rfl
theorem dL_law_561 : decode cL_law 561 = .ok (.iconst 3, 1) := dc_of dtL_law_559_10_ok (i := 1) rfl
theorem dL_law_562 : decode cL_law 562 = .ok (.iadd, 1) := dc_of dtL_law_559_10_ok (i := 2) rfl
theorem dL_law_563 : decode cL_law 563 = .ok (.iaload, 1) := dc_of dtL_law_559_10_ok (i := 3) rfl
theorem dL_law_564 : decode cL_law 564 = .ok (.aload_n 3, 1) := dc_of dtL_law_559_10_ok (i := 4) rfl
theorem dL_law_565 : decode cL_law 565 = .ok (.invokestatic 84, 3) := dc_of dtL_law_559_10_ok (i := 5) rfl
theorem dL_law_568 : decode cL_law 568 = .ok (.istore 5, 2) := dc_of dtL_law_559_10_ok (i := 6) rfl
theorem dL_law_570 : decode cL_law 570 = .ok (.aload_n 2, 1) := dc_of dtL_law_559_10_ok (i := 7) rfl
theorem dL_law_571 : decode cL_law 571 = .ok (.aload_n 0, 1) := dc_of dtL_law_559_10_ok (i := 8) rfl
theorem dL_law_572 : decode cL_law 572 = .ok (.iload 4, 2) := dc_of dtL_law_559_10_ok (i := 9) rfl
theorem dL_law_574 : decode cL_law 574 = .ok (.iconst 1, 1) := dc_of dtL_law_559_10_ok (i := 10) rfl
theorem dL_law_575 : decode cL_law 575 = .ok (.iadd, 1) := dc_of dtL_law_559_10_ok (i := 11) rfl
theorem dL_law_576 : decode cL_law 576 = .ok (.iaload, 1) := dc_of dtL_law_559_10_ok (i := 12) rfl
theorem dL_law_577 : decode cL_law 577 = .ok (.aload_n 0, 1) := dc_of dtL_law_559_10_ok (i := 13) rfl
theorem dL_law_578 : decode cL_law 578 = .ok (.iload 4, 2) := dc_of dtL_law_559_10_ok (i := 14) rfl
theorem dL_law_580 : decode cL_law 580 = .ok (.iconst 2, 1) := dc_of dtL_law_559_10_ok (i := 15) rfl
theorem dL_law_581 : decode cL_law 581 = .ok (.iadd, 1) := dc_of dtL_law_559_10_ok (i := 16) rfl
theorem dL_law_582 : decode cL_law 582 = .ok (.iaload, 1) := dc_of dtL_law_559_10_ok (i := 17) rfl
theorem dL_law_583 : decode cL_law 583 = .ok (.aload_n 0, 1) := dc_of dtL_law_559_10_ok (i := 18) rfl
theorem dL_law_584 : decode cL_law 584 = .ok (.iload 4, 2) := dc_of dtL_law_559_10_ok (i := 19) rfl
theorem dL_law_586 : decode cL_law 586 = .ok (.iconst 3, 1) := dc_of dtL_law_559_10_ok (i := 20) rfl
theorem dL_law_587 : decode cL_law 587 = .ok (.iadd, 1) := dc_of dtL_law_559_10_ok (i := 21) rfl
theorem dL_law_588 : decode cL_law 588 = .ok (.iaload, 1) := dc_of dtL_law_559_10_ok (i := 22) rfl
theorem dL_law_589 : decode cL_law 589 = .ok (.invokevirtual 87, 3) := dc_of dtL_law_559_10_ok (i := 23) rfl
theorem dL_law_592 : decode cL_law 592 = .ok (.istore 6, 2) := dc_of dtL_law_559_10_ok (i := 24) rfl
theorem dL_law_594 : decode cL_law 594 = .ok (.goto 474, 3) := dc_of dtL_law_559_10_ok (i := 25) rfl
theorem dL_law_597 : decode cL_law 597 = .ok (.aload_n 1, 1) := dc_of dtL_law_559_10_ok (i := 26) rfl
theorem dL_law_598 : decode cL_law 598 = .ok (.aload_n 0, 1) := dc_of dtL_law_559_10_ok (i := 27) rfl
theorem dL_law_599 : decode cL_law 599 = .ok (.iload 4, 2) := dc_of dtL_law_559_10_ok (i := 28) rfl
theorem dL_law_601 : decode cL_law 601 = .ok (.iconst 1, 1) := dc_of dtL_law_559_10_ok (i := 29) rfl
theorem dL_law_602 : decode cL_law 602 = .ok (.iadd, 1) := dc_of dtL_law_559_10_ok (i := 30) rfl
theorem dL_law_603 : decode cL_law 603 = .ok (.iaload, 1) := dc_of dtL_law_559_10_ok (i := 31) rfl
def dtL_law_604_11 : List (Nat × Instr × Nat) := [(604, .aload_n 0, 1), (605, .iload 4, 2), (607, .iconst 2, 1), (608, .iadd, 1), (609, .iaload, 1), (610, .aload_n 0, 1), (611, .iload 4, 2), (613, .iconst 3, 1), (614, .iadd, 1), (615, .iaload, 1), (616, .aload_n 0, 1), (617, .iload 4, 2), (619, .iconst 4, 1), (620, .iadd, 1), (621, .iaload, 1), (622, .aload_n 0, 1), (623, .iload 4, 2), (625, .iconst 5, 1), (626, .iadd, 1), (627, .iaload, 1), (628, .aload_n 3, 1), (629, .invokestatic 88, 3), (632, .istore 5, 2), (634, .aload_n 2, 1), (635, .aload_n 0, 1), (636, .iload 4, 2), (638, .iconst 1, 1), (639, .iadd, 1), (640, .iaload, 1), (641, .aload_n 0, 1), (642, .iload 4, 2), (644, .iconst 2, 1)]
theorem dtL_law_604_11_ok : dcAll cL_law dtL_law_604_11 = true := by decide +kernel
theorem dL_law_604 : decode cL_law 604 = .ok (.aload_n 0, 1) := dc_of dtL_law_604_11_ok (i := 0) rfl
theorem dL_law_605 : decode cL_law 605 = .ok (.iload 4, 2) := dc_of dtL_law_604_11_ok (i := 1) rfl
theorem dL_law_607 : decode cL_law 607 = .ok (.iconst 2, 1) := dc_of dtL_law_604_11_ok (i := 2) rfl
theorem dL_law_608 : decode cL_law 608 = .ok (.iadd, 1) := dc_of dtL_law_604_11_ok (i := 3) rfl
theorem dL_law_609 : decode cL_law 609 = .ok (.iaload, 1) := dc_of dtL_law_604_11_ok (i := 4) rfl
theorem dL_law_610 : decode cL_law 610 = .ok (.aload_n 0, 1) := dc_of dtL_law_604_11_ok (i := 5) rfl
theorem dL_law_611 : decode cL_law 611 = .ok (.iload 4, 2) := dc_of dtL_law_604_11_ok (i := 6) rfl
theorem dL_law_613 : decode cL_law 613 = .ok (.iconst 3, 1) := dc_of dtL_law_604_11_ok (i := 7) rfl
theorem dL_law_614 : decode cL_law 614 = .ok (.iadd, 1) := dc_of dtL_law_604_11_ok (i := 8) rfl
theorem dL_law_615 : decode cL_law 615 = .ok (.iaload, 1) := dc_of dtL_law_604_11_ok (i := 9) rfl
theorem dL_law_616 : decode cL_law 616 = .ok (.aload_n 0, 1) := dc_of dtL_law_604_11_ok (i := 10) rfl
theorem dL_law_617 : decode cL_law 617 = .ok (.iload 4, 2) := dc_of dtL_law_604_11_ok (i := 11) rfl
theorem dL_law_619 : decode cL_law 619 = .ok (.iconst 4, 1) := dc_of dtL_law_604_11_ok (i := 12) rfl
theorem dL_law_620 : decode cL_law 620 = .ok (.iadd, 1) := dc_of dtL_law_604_11_ok (i := 13) rfl
theorem dL_law_621 : decode cL_law 621 = .ok (.iaload, 1) := dc_of dtL_law_604_11_ok (i := 14) rfl
theorem dL_law_622 : decode cL_law 622 = .ok (.aload_n 0, 1) := dc_of dtL_law_604_11_ok (i := 15) rfl
theorem dL_law_623 : decode cL_law 623 = .ok (.iload 4, 2) := dc_of dtL_law_604_11_ok (i := 16) rfl
theorem dL_law_625 : decode cL_law 625 = .ok (.iconst 5, 1) := dc_of dtL_law_604_11_ok (i := 17) rfl
theorem dL_law_626 : decode cL_law 626 = .ok (.iadd, 1) := dc_of dtL_law_604_11_ok (i := 18) rfl
theorem dL_law_627 : decode cL_law 627 = .ok (.iaload, 1) := dc_of dtL_law_604_11_ok (i := 19) rfl
theorem dL_law_628 : decode cL_law 628 = .ok (.aload_n 3, 1) := dc_of dtL_law_604_11_ok (i := 20) rfl
theorem dL_law_629 : decode cL_law 629 = .ok (.invokestatic 88, 3) := dc_of dtL_law_604_11_ok (i := 21) rfl
theorem dL_law_632 : decode cL_law 632 = .ok (.istore 5, 2) := dc_of dtL_law_604_11_ok (i := 22) rfl
theorem dL_law_634 : decode cL_law 634 = .ok (.aload_n 2, 1) := dc_of dtL_law_604_11_ok (i := 23) rfl
theorem dL_law_635 : decode cL_law 635 = .ok (.aload_n 0, 1) := dc_of dtL_law_604_11_ok (i := 24) rfl
theorem dL_law_636 : decode cL_law 636 = .ok (.iload 4, 2) := dc_of dtL_law_604_11_ok (i := 25) rfl
theorem dL_law_638 : decode cL_law 638 = .ok (.iconst 1, 1) := dc_of dtL_law_604_11_ok (i := 26) rfl
theorem dL_law_639 : decode cL_law 639 = .ok (.iadd, 1) := dc_of dtL_law_604_11_ok (i := 27) rfl
theorem dL_law_640 : decode cL_law 640 = .ok (.iaload, 1) := dc_of dtL_law_604_11_ok (i := 28) rfl
theorem dL_law_641 : decode cL_law 641 = .ok (.aload_n 0, 1) := dc_of dtL_law_604_11_ok (i := 29) rfl
theorem dL_law_642 : decode cL_law 642 = .ok (.iload 4, 2) := dc_of dtL_law_604_11_ok (i := 30) rfl
theorem dL_law_644 : decode cL_law 644 = .ok (.iconst 2, 1) := dc_of dtL_law_604_11_ok (i := 31) rfl
def dtL_law_645_12 : List (Nat × Instr × Nat) := [(645, .iadd, 1), (646, .iaload, 1), (647, .aload_n 0, 1), (648, .iload 4, 2), (650, .iconst 3, 1), (651, .iadd, 1), (652, .iaload, 1), (653, .aload_n 0, 1), (654, .iload 4, 2), (656, .iconst 4, 1), (657, .iadd, 1), (658, .iaload, 1), (659, .aload_n 0, 1), (660, .iload 4, 2), (662, .iconst 5, 1), (663, .iadd, 1), (664, .iaload, 1), (665, .invokevirtual 91, 3), (668, .istore 6, 2), (670, .goto 398, 3), (673, .aload_n 1, 1), (674, .aload_n 0, 1), (675, .iload 4, 2), (677, .iconst 1, 1), (678, .iadd, 1), (679, .iaload, 1), (680, .aload_n 3, 1), (681, .invokestatic 92, 3), (684, .istore 5, 2), (686, .aload_n 2, 1), (687, .aload_n 0, 1), (688, .iload 4, 2)]
theorem dtL_law_645_12_ok : dcAll cL_law dtL_law_645_12 = true := by decide +kernel
theorem dL_law_645 : decode cL_law 645 = .ok (.iadd, 1) := dc_of dtL_law_645_12_ok (i := 0) rfl
theorem dL_law_646 : decode cL_law 646 = .ok (.iaload, 1) := dc_of dtL_law_645_12_ok (i := 1) rfl
theorem dL_law_647 : decode cL_law 647 = .ok (.aload_n 0, 1) := dc_of dtL_law_645_12_ok (i := 2) rfl
theorem dL_law_648 : decode cL_law 648 = .ok (.iload 4, 2) := dc_of dtL_law_645_12_ok (i := 3) rfl
theorem dL_law_650 : decode cL_law 650 = .ok (.iconst 3, 1) := dc_of dtL_law_645_12_ok (i := 4) rfl
theorem dL_law_651 : decode cL_law 651 = .ok (.iadd, 1) := dc_of dtL_law_645_12_ok (i := 5) rfl
theorem dL_law_652 : decode cL_law 652 = .ok (.iaload, 1) := dc_of dtL_law_645_12_ok (i := 6) rfl
theorem dL_law_653 : decode cL_law 653 = .ok (.aload_n 0, 1) := dc_of dtL_law_645_12_ok (i := 7) rfl
theorem dL_law_654 : decode cL_law 654 = .ok (.iload 4, 2) := dc_of dtL_law_645_12_ok (i := 8) rfl
theorem dL_law_656 : decode cL_law 656 = .ok (.iconst 4, 1) := dc_of dtL_law_645_12_ok (i := 9) rfl
theorem dL_law_657 : decode cL_law 657 = .ok (.iadd, 1) := dc_of dtL_law_645_12_ok (i := 10) rfl
theorem dL_law_658 : decode cL_law 658 = .ok (.iaload, 1) := dc_of dtL_law_645_12_ok (i := 11) rfl
theorem dL_law_659 : decode cL_law 659 = .ok (.aload_n 0, 1) := dc_of dtL_law_645_12_ok (i := 12) rfl
theorem dL_law_660 : decode cL_law 660 = .ok (.iload 4, 2) := dc_of dtL_law_645_12_ok (i := 13) rfl
theorem dL_law_662 : decode cL_law 662 = .ok (.iconst 5, 1) := dc_of dtL_law_645_12_ok (i := 14) rfl
theorem dL_law_663 : decode cL_law 663 = .ok (.iadd, 1) := dc_of dtL_law_645_12_ok (i := 15) rfl
theorem dL_law_664 : decode cL_law 664 = .ok (.iaload, 1) := dc_of dtL_law_645_12_ok (i := 16) rfl
theorem dL_law_665 : decode cL_law 665 = .ok (.invokevirtual 91, 3) := dc_of dtL_law_645_12_ok (i := 17) rfl
theorem dL_law_668 : decode cL_law 668 = .ok (.istore 6, 2) := dc_of dtL_law_645_12_ok (i := 18) rfl
theorem dL_law_670 : decode cL_law 670 = .ok (.goto 398, 3) := dc_of dtL_law_645_12_ok (i := 19) rfl
theorem dL_law_673 : decode cL_law 673 = .ok (.aload_n 1, 1) := dc_of dtL_law_645_12_ok (i := 20) rfl
theorem dL_law_674 : decode cL_law 674 = .ok (.aload_n 0, 1) := dc_of dtL_law_645_12_ok (i := 21) rfl
theorem dL_law_675 : decode cL_law 675 = .ok (.iload 4, 2) := dc_of dtL_law_645_12_ok (i := 22) rfl
theorem dL_law_677 : decode cL_law 677 = .ok (.iconst 1, 1) := dc_of dtL_law_645_12_ok (i := 23) rfl
theorem dL_law_678 : decode cL_law 678 = .ok (.iadd, 1) := dc_of dtL_law_645_12_ok (i := 24) rfl
theorem dL_law_679 : decode cL_law 679 = .ok (.iaload, 1) := dc_of dtL_law_645_12_ok (i := 25) rfl
theorem dL_law_680 : decode cL_law 680 = .ok (.aload_n 3, 1) := dc_of dtL_law_645_12_ok (i := 26) rfl
theorem dL_law_681 : decode cL_law 681 = .ok (.invokestatic 92, 3) := dc_of dtL_law_645_12_ok (i := 27) rfl
theorem dL_law_684 : decode cL_law 684 = .ok (.istore 5, 2) := dc_of dtL_law_645_12_ok (i := 28) rfl
theorem dL_law_686 : decode cL_law 686 = .ok (.aload_n 2, 1) := dc_of dtL_law_645_12_ok (i := 29) rfl
theorem dL_law_687 : decode cL_law 687 = .ok (.aload_n 0, 1) := dc_of dtL_law_645_12_ok (i := 30) rfl
theorem dL_law_688 : decode cL_law 688 = .ok (.iload 4, 2) := dc_of dtL_law_645_12_ok (i := 31) rfl
def dtL_law_690_13 : List (Nat × Instr × Nat) := [(690, .iconst 1, 1), (691, .iadd, 1), (692, .iaload, 1), (693, .invokevirtual 95, 3), (696, .istore 6, 2), (698, .aload_n 2, 1), (699, .invokevirtual 96, 3), (702, .iload 5, 2), (704, .if_icmp .eq 5, 3), (707, .iconst 0, 1), (708, .ireturn, 1), (709, .iload 5, 2), (711, .ifCond .ne 15, 3), (714, .aload_n 3, 1), (715, .iconst 0, 1), (716, .laload, 1), (717, .iload 6, 2), (719, .i2l, 1), (720, .lcmp, 1), (721, .ifCond .eq 5, 3), (724, .iconst 0, 1), (725, .ireturn, 1), (726, .goto 342, 3), (729, .aload_n 1, 1), (730, .aload_n 0, 1), (731, .iload 4, 2), (733, .iconst 1, 1), (734, .iadd, 1), (735, .iaload, 1), (736, .invokevirtual 99, 3), (739, .pop, 1), (740, .aload_n 2, 1)]
theorem dtL_law_690_13_ok : dcAll cL_law dtL_law_690_13 = true := by decide +kernel
theorem dL_law_690 : decode cL_law 690 = .ok (.iconst 1, 1) := dc_of dtL_law_690_13_ok (i := 0) rfl
theorem dL_law_691 : decode cL_law 691 = .ok (.iadd, 1) := dc_of dtL_law_690_13_ok (i := 1) rfl
theorem dL_law_692 : decode cL_law 692 = .ok (.iaload, 1) := dc_of dtL_law_690_13_ok (i := 2) rfl
theorem dL_law_693 : decode cL_law 693 = .ok (.invokevirtual 95, 3) := dc_of dtL_law_690_13_ok (i := 3) rfl
theorem dL_law_696 : decode cL_law 696 = .ok (.istore 6, 2) := dc_of dtL_law_690_13_ok (i := 4) rfl
theorem dL_law_698 : decode cL_law 698 = .ok (.aload_n 2, 1) := dc_of dtL_law_690_13_ok (i := 5) rfl
theorem dL_law_699 : decode cL_law 699 = .ok (.invokevirtual 96, 3) := dc_of dtL_law_690_13_ok (i := 6) rfl
theorem dL_law_702 : decode cL_law 702 = .ok (.iload 5, 2) := dc_of dtL_law_690_13_ok (i := 7) rfl
theorem dL_law_704 : decode cL_law 704 = .ok (.if_icmp .eq 5, 3) := dc_of dtL_law_690_13_ok (i := 8) rfl
theorem dL_law_707 : decode cL_law 707 = .ok (.iconst 0, 1) := dc_of dtL_law_690_13_ok (i := 9) rfl
theorem dL_law_708 : decode cL_law 708 = .ok (.ireturn, 1) := dc_of dtL_law_690_13_ok (i := 10) rfl
theorem dL_law_709 : decode cL_law 709 = .ok (.iload 5, 2) := dc_of dtL_law_690_13_ok (i := 11) rfl
theorem dL_law_711 : decode cL_law 711 = .ok (.ifCond .ne 15, 3) := dc_of dtL_law_690_13_ok (i := 12) rfl
theorem dL_law_714 : decode cL_law 714 = .ok (.aload_n 3, 1) := dc_of dtL_law_690_13_ok (i := 13) rfl
theorem dL_law_715 : decode cL_law 715 = .ok (.iconst 0, 1) := dc_of dtL_law_690_13_ok (i := 14) rfl
theorem dL_law_716 : decode cL_law 716 = .ok (.laload, 1) := dc_of dtL_law_690_13_ok (i := 15) rfl
theorem dL_law_717 : decode cL_law 717 = .ok (.iload 6, 2) := dc_of dtL_law_690_13_ok (i := 16) rfl
theorem dL_law_719 : decode cL_law 719 = .ok (.i2l, 1) := dc_of dtL_law_690_13_ok (i := 17) rfl
theorem dL_law_720 : decode cL_law 720 = .ok (.lcmp, 1) := dc_of dtL_law_690_13_ok (i := 18) rfl
theorem dL_law_721 : decode cL_law 721 = .ok (.ifCond .eq 5, 3) := dc_of dtL_law_690_13_ok (i := 19) rfl
theorem dL_law_724 : decode cL_law 724 = .ok (.iconst 0, 1) := dc_of dtL_law_690_13_ok (i := 20) rfl
theorem dL_law_725 : decode cL_law 725 = .ok (.ireturn, 1) := dc_of dtL_law_690_13_ok (i := 21) rfl
theorem dL_law_726 : decode cL_law 726 = .ok (.goto 342, 3) := dc_of dtL_law_690_13_ok (i := 22) rfl
theorem dL_law_729 : decode cL_law 729 = .ok (.aload_n 1, 1) := dc_of dtL_law_690_13_ok (i := 23) rfl
theorem dL_law_730 : decode cL_law 730 = .ok (.aload_n 0, 1) := dc_of dtL_law_690_13_ok (i := 24) rfl
theorem dL_law_731 : decode cL_law 731 = .ok (.iload 4, 2) := dc_of dtL_law_690_13_ok (i := 25) rfl
theorem dL_law_733 : decode cL_law 733 = .ok (.iconst 1, 1) := dc_of dtL_law_690_13_ok (i := 26) rfl
theorem dL_law_734 : decode cL_law 734 = .ok (.iadd, 1) := dc_of dtL_law_690_13_ok (i := 27) rfl
theorem dL_law_735 : decode cL_law 735 = .ok (.iaload, 1) := dc_of dtL_law_690_13_ok (i := 28) rfl
theorem dL_law_736 : decode cL_law 736 = .ok (.invokevirtual 99, 3) := dc_of dtL_law_690_13_ok (i := 29) rfl
theorem dL_law_739 : decode cL_law 739 = .ok (.pop, 1) := dc_of dtL_law_690_13_ok (i := 30) rfl
theorem dL_law_740 : decode cL_law 740 = .ok (.aload_n 2, 1) := dc_of dtL_law_690_13_ok (i := 31) rfl
def dtL_law_741_14 : List (Nat × Instr × Nat) := [(741, .aload_n 0, 1), (742, .iload 4, 2), (744, .iconst 1, 1), (745, .iadd, 1), (746, .iaload, 1), (747, .invokevirtual 102, 3), (750, .pop, 1), (751, .goto 317, 3), (754, .aload_n 1, 1), (755, .aload_n 0, 1), (756, .iload 4, 2), (758, .iconst 1, 1), (759, .iadd, 1), (760, .iaload, 1), (761, .aload_n 0, 1), (762, .iload 4, 2), (764, .iconst 2, 1), (765, .iadd, 1), (766, .iaload, 1), (767, .aload_n 0, 1), (768, .iload 4, 2), (770, .iconst 3, 1), (771, .iadd, 1), (772, .iaload, 1), (773, .aload_n 3, 1), (774, .invokestatic 103, 3), (777, .istore 5, 2), (779, .aload_n 2, 1), (780, .aload_n 0, 1), (781, .iload 4, 2), (783, .iconst 1, 1), (784, .iadd, 1)]
theorem dtL_law_741_14_ok : dcAll cL_law dtL_law_741_14 = true := by decide +kernel
theorem dL_law_741 : decode cL_law 741 = .ok (.aload_n 0, 1) := dc_of dtL_law_741_14_ok (i := 0) rfl
theorem dL_law_742 : decode cL_law 742 = .ok (.iload 4, 2) := dc_of dtL_law_741_14_ok (i := 1) rfl
theorem dL_law_744 : decode cL_law 744 = .ok (.iconst 1, 1) := dc_of dtL_law_741_14_ok (i := 2) rfl
theorem dL_law_745 : decode cL_law 745 = .ok (.iadd, 1) := dc_of dtL_law_741_14_ok (i := 3) rfl
theorem dL_law_746 : decode cL_law 746 = .ok (.iaload, 1) := dc_of dtL_law_741_14_ok (i := 4) rfl
theorem dL_law_747 : decode cL_law 747 = .ok (.invokevirtual 102, 3) := dc_of dtL_law_741_14_ok (i := 5) rfl
theorem dL_law_750 : decode cL_law 750 = .ok (.pop, 1) := dc_of dtL_law_741_14_ok (i := 6) rfl
theorem dL_law_751 : decode cL_law 751 = .ok (.goto 317, 3) := dc_of dtL_law_741_14_ok (i := 7) rfl
theorem dL_law_754 : decode cL_law 754 = .ok (.aload_n 1, 1) := dc_of dtL_law_741_14_ok (i := 8) rfl
theorem dL_law_755 : decode cL_law 755 = .ok (.aload_n 0, 1) := dc_of dtL_law_741_14_ok (i := 9) rfl
theorem dL_law_756 : decode cL_law 756 = .ok (.iload 4, 2) := dc_of dtL_law_741_14_ok (i := 10) rfl
theorem dL_law_758 : decode cL_law 758 = .ok (.iconst 1, 1) := dc_of dtL_law_741_14_ok (i := 11) rfl
theorem dL_law_759 : decode cL_law 759 = .ok (.iadd, 1) := dc_of dtL_law_741_14_ok (i := 12) rfl
theorem dL_law_760 : decode cL_law 760 = .ok (.iaload, 1) := dc_of dtL_law_741_14_ok (i := 13) rfl
theorem dL_law_761 : decode cL_law 761 = .ok (.aload_n 0, 1) := dc_of dtL_law_741_14_ok (i := 14) rfl
theorem dL_law_762 : decode cL_law 762 = .ok (.iload 4, 2) := dc_of dtL_law_741_14_ok (i := 15) rfl
theorem dL_law_764 : decode cL_law 764 = .ok (.iconst 2, 1) := dc_of dtL_law_741_14_ok (i := 16) rfl
theorem dL_law_765 : decode cL_law 765 = .ok (.iadd, 1) := dc_of dtL_law_741_14_ok (i := 17) rfl
theorem dL_law_766 : decode cL_law 766 = .ok (.iaload, 1) := dc_of dtL_law_741_14_ok (i := 18) rfl
theorem dL_law_767 : decode cL_law 767 = .ok (.aload_n 0, 1) := dc_of dtL_law_741_14_ok (i := 19) rfl
theorem dL_law_768 : decode cL_law 768 = .ok (.iload 4, 2) := dc_of dtL_law_741_14_ok (i := 20) rfl
theorem dL_law_770 : decode cL_law 770 = .ok (.iconst 3, 1) := dc_of dtL_law_741_14_ok (i := 21) rfl
theorem dL_law_771 : decode cL_law 771 = .ok (.iadd, 1) := dc_of dtL_law_741_14_ok (i := 22) rfl
theorem dL_law_772 : decode cL_law 772 = .ok (.iaload, 1) := dc_of dtL_law_741_14_ok (i := 23) rfl
theorem dL_law_773 : decode cL_law 773 = .ok (.aload_n 3, 1) := dc_of dtL_law_741_14_ok (i := 24) rfl
theorem dL_law_774 : decode cL_law 774 = .ok (.invokestatic 103, 3) := dc_of dtL_law_741_14_ok (i := 25) rfl
theorem dL_law_777 : decode cL_law 777 = .ok (.istore 5, 2) := dc_of dtL_law_741_14_ok (i := 26) rfl
theorem dL_law_779 : decode cL_law 779 = .ok (.aload_n 2, 1) := dc_of dtL_law_741_14_ok (i := 27) rfl
theorem dL_law_780 : decode cL_law 780 = .ok (.aload_n 0, 1) := dc_of dtL_law_741_14_ok (i := 28) rfl
theorem dL_law_781 : decode cL_law 781 = .ok (.iload 4, 2) := dc_of dtL_law_741_14_ok (i := 29) rfl
theorem dL_law_783 : decode cL_law 783 = .ok (.iconst 1, 1) := dc_of dtL_law_741_14_ok (i := 30) rfl
theorem dL_law_784 : decode cL_law 784 = .ok (.iadd, 1) := dc_of dtL_law_741_14_ok (i := 31) rfl
def dtL_law_785_15 : List (Nat × Instr × Nat) := [(785, .iaload, 1), (786, .aload_n 0, 1), (787, .iload 4, 2), (789, .iconst 2, 1), (790, .iadd, 1), (791, .iaload, 1), (792, .aload_n 0, 1), (793, .iload 4, 2), (795, .iconst 3, 1), (796, .iadd, 1), (797, .iaload, 1), (798, .invokevirtual 105, 3), (801, .istore 6, 2), (803, .goto 265, 3), (806, .aload_n 1, 1), (807, .aload_n 0, 1), (808, .iload 4, 2), (810, .iconst 1, 1), (811, .iadd, 1), (812, .iaload, 1), (813, .invokevirtual 106, 3), (816, .pop, 1), (817, .aload_n 2, 1), (818, .aload_n 0, 1), (819, .iload 4, 2), (821, .iconst 1, 1), (822, .iadd, 1), (823, .iaload, 1), (824, .invokevirtual 109, 3), (827, .pop, 1), (828, .goto 240, 3), (831, .aload_n 1, 1)]
theorem dtL_law_785_15_ok : dcAll cL_law dtL_law_785_15 = true := by decide +kernel
theorem dL_law_785 : decode cL_law 785 = .ok (.iaload, 1) := dc_of dtL_law_785_15_ok (i := 0) rfl
theorem dL_law_786 : decode cL_law 786 = .ok (.aload_n 0, 1) := dc_of dtL_law_785_15_ok (i := 1) rfl
theorem dL_law_787 : decode cL_law 787 = .ok (.iload 4, 2) := dc_of dtL_law_785_15_ok (i := 2) rfl
theorem dL_law_789 : decode cL_law 789 = .ok (.iconst 2, 1) := dc_of dtL_law_785_15_ok (i := 3) rfl
theorem dL_law_790 : decode cL_law 790 = .ok (.iadd, 1) := dc_of dtL_law_785_15_ok (i := 4) rfl
theorem dL_law_791 : decode cL_law 791 = .ok (.iaload, 1) := dc_of dtL_law_785_15_ok (i := 5) rfl
theorem dL_law_792 : decode cL_law 792 = .ok (.aload_n 0, 1) := dc_of dtL_law_785_15_ok (i := 6) rfl
theorem dL_law_793 : decode cL_law 793 = .ok (.iload 4, 2) := dc_of dtL_law_785_15_ok (i := 7) rfl
theorem dL_law_795 : decode cL_law 795 = .ok (.iconst 3, 1) := dc_of dtL_law_785_15_ok (i := 8) rfl
theorem dL_law_796 : decode cL_law 796 = .ok (.iadd, 1) := dc_of dtL_law_785_15_ok (i := 9) rfl
theorem dL_law_797 : decode cL_law 797 = .ok (.iaload, 1) := dc_of dtL_law_785_15_ok (i := 10) rfl
theorem dL_law_798 : decode cL_law 798 = .ok (.invokevirtual 105, 3) := dc_of dtL_law_785_15_ok (i := 11) rfl
theorem dL_law_801 : decode cL_law 801 = .ok (.istore 6, 2) := dc_of dtL_law_785_15_ok (i := 12) rfl
theorem dL_law_803 : decode cL_law 803 = .ok (.goto 265, 3) := dc_of dtL_law_785_15_ok (i := 13) rfl
theorem dL_law_806 : decode cL_law 806 = .ok (.aload_n 1, 1) := dc_of dtL_law_785_15_ok (i := 14) rfl
theorem dL_law_807 : decode cL_law 807 = .ok (.aload_n 0, 1) := dc_of dtL_law_785_15_ok (i := 15) rfl
theorem dL_law_808 : decode cL_law 808 = .ok (.iload 4, 2) := dc_of dtL_law_785_15_ok (i := 16) rfl
theorem dL_law_810 : decode cL_law 810 = .ok (.iconst 1, 1) := dc_of dtL_law_785_15_ok (i := 17) rfl
theorem dL_law_811 : decode cL_law 811 = .ok (.iadd, 1) := dc_of dtL_law_785_15_ok (i := 18) rfl
theorem dL_law_812 : decode cL_law 812 = .ok (.iaload, 1) := dc_of dtL_law_785_15_ok (i := 19) rfl
theorem dL_law_813 : decode cL_law 813 = .ok (.invokevirtual 106, 3) := dc_of dtL_law_785_15_ok (i := 20) rfl
theorem dL_law_816 : decode cL_law 816 = .ok (.pop, 1) := dc_of dtL_law_785_15_ok (i := 21) rfl
theorem dL_law_817 : decode cL_law 817 = .ok (.aload_n 2, 1) := dc_of dtL_law_785_15_ok (i := 22) rfl
theorem dL_law_818 : decode cL_law 818 = .ok (.aload_n 0, 1) := dc_of dtL_law_785_15_ok (i := 23) rfl
theorem dL_law_819 : decode cL_law 819 = .ok (.iload 4, 2) := dc_of dtL_law_785_15_ok (i := 24) rfl
theorem dL_law_821 : decode cL_law 821 = .ok (.iconst 1, 1) := dc_of dtL_law_785_15_ok (i := 25) rfl
theorem dL_law_822 : decode cL_law 822 = .ok (.iadd, 1) := dc_of dtL_law_785_15_ok (i := 26) rfl
theorem dL_law_823 : decode cL_law 823 = .ok (.iaload, 1) := dc_of dtL_law_785_15_ok (i := 27) rfl
theorem dL_law_824 : decode cL_law 824 = .ok (.invokevirtual 109, 3) := dc_of dtL_law_785_15_ok (i := 28) rfl
theorem dL_law_827 : decode cL_law 827 = .ok (.pop, 1) := dc_of dtL_law_785_15_ok (i := 29) rfl
theorem dL_law_828 : decode cL_law 828 = .ok (.goto 240, 3) := dc_of dtL_law_785_15_ok (i := 30) rfl
theorem dL_law_831 : decode cL_law 831 = .ok (.aload_n 1, 1) := dc_of dtL_law_785_15_ok (i := 31) rfl
def dtL_law_832_16 : List (Nat × Instr × Nat) := [(832, .aload_n 0, 1), (833, .iload 4, 2), (835, .iconst 1, 1), (836, .iadd, 1), (837, .iaload, 1), (838, .aload_n 0, 1), (839, .iload 4, 2), (841, .iconst 2, 1), (842, .iadd, 1), (843, .iaload, 1), (844, .aload_n 0, 1), (845, .iload 4, 2), (847, .iconst 3, 1), (848, .iadd, 1), (849, .iaload, 1), (850, .aload_n 0, 1), (851, .iload 4, 2), (853, .iconst 4, 1), (854, .iadd, 1), (855, .iaload, 1), (856, .aload_n 0, 1), (857, .iload 4, 2), (859, .iconst 5, 1), (860, .iadd, 1), (861, .iaload, 1), (862, .invokevirtual 110, 3), (865, .pop, 1), (866, .aload_n 2, 1), (867, .aload_n 0, 1), (868, .iload 4, 2), (870, .iconst 1, 1), (871, .iadd, 1)]
theorem dtL_law_832_16_ok : dcAll cL_law dtL_law_832_16 = true := by decide +kernel
theorem dL_law_832 : decode cL_law 832 = .ok (.aload_n 0, 1) := dc_of dtL_law_832_16_ok (i := 0) rfl
theorem dL_law_833 : decode cL_law 833 = .ok (.iload 4, 2) := dc_of dtL_law_832_16_ok (i := 1) rfl
theorem dL_law_835 : decode cL_law 835 = .ok (.iconst 1, 1) := dc_of dtL_law_832_16_ok (i := 2) rfl
theorem dL_law_836 : decode cL_law 836 = .ok (.iadd, 1) := dc_of dtL_law_832_16_ok (i := 3) rfl
theorem dL_law_837 : decode cL_law 837 = .ok (.iaload, 1) := dc_of dtL_law_832_16_ok (i := 4) rfl
theorem dL_law_838 : decode cL_law 838 = .ok (.aload_n 0, 1) := dc_of dtL_law_832_16_ok (i := 5) rfl
theorem dL_law_839 : decode cL_law 839 = .ok (.iload 4, 2) := dc_of dtL_law_832_16_ok (i := 6) rfl
theorem dL_law_841 : decode cL_law 841 = .ok (.iconst 2, 1) := dc_of dtL_law_832_16_ok (i := 7) rfl
theorem dL_law_842 : decode cL_law 842 = .ok (.iadd, 1) := dc_of dtL_law_832_16_ok (i := 8) rfl
theorem dL_law_843 : decode cL_law 843 = .ok (.iaload, 1) := dc_of dtL_law_832_16_ok (i := 9) rfl
theorem dL_law_844 : decode cL_law 844 = .ok (.aload_n 0, 1) := dc_of dtL_law_832_16_ok (i := 10) rfl
theorem dL_law_845 : decode cL_law 845 = .ok (.iload 4, 2) := dc_of dtL_law_832_16_ok (i := 11) rfl
theorem dL_law_847 : decode cL_law 847 = .ok (.iconst 3, 1) := dc_of dtL_law_832_16_ok (i := 12) rfl
theorem dL_law_848 : decode cL_law 848 = .ok (.iadd, 1) := dc_of dtL_law_832_16_ok (i := 13) rfl
theorem dL_law_849 : decode cL_law 849 = .ok (.iaload, 1) := dc_of dtL_law_832_16_ok (i := 14) rfl
theorem dL_law_850 : decode cL_law 850 = .ok (.aload_n 0, 1) := dc_of dtL_law_832_16_ok (i := 15) rfl
theorem dL_law_851 : decode cL_law 851 = .ok (.iload 4, 2) := dc_of dtL_law_832_16_ok (i := 16) rfl
theorem dL_law_853 : decode cL_law 853 = .ok (.iconst 4, 1) := dc_of dtL_law_832_16_ok (i := 17) rfl
theorem dL_law_854 : decode cL_law 854 = .ok (.iadd, 1) := dc_of dtL_law_832_16_ok (i := 18) rfl
theorem dL_law_855 : decode cL_law 855 = .ok (.iaload, 1) := dc_of dtL_law_832_16_ok (i := 19) rfl
theorem dL_law_856 : decode cL_law 856 = .ok (.aload_n 0, 1) := dc_of dtL_law_832_16_ok (i := 20) rfl
theorem dL_law_857 : decode cL_law 857 = .ok (.iload 4, 2) := dc_of dtL_law_832_16_ok (i := 21) rfl
theorem dL_law_859 : decode cL_law 859 = .ok (.iconst 5, 1) := dc_of dtL_law_832_16_ok (i := 22) rfl
theorem dL_law_860 : decode cL_law 860 = .ok (.iadd, 1) := dc_of dtL_law_832_16_ok (i := 23) rfl
theorem dL_law_861 : decode cL_law 861 = .ok (.iaload, 1) := dc_of dtL_law_832_16_ok (i := 24) rfl
theorem dL_law_862 : decode cL_law 862 = .ok (.invokevirtual 110, 3) := dc_of dtL_law_832_16_ok (i := 25) rfl
theorem dL_law_865 : decode cL_law 865 = .ok (.pop, 1) := dc_of dtL_law_832_16_ok (i := 26) rfl
theorem dL_law_866 : decode cL_law 866 = .ok (.aload_n 2, 1) := dc_of dtL_law_832_16_ok (i := 27) rfl
theorem dL_law_867 : decode cL_law 867 = .ok (.aload_n 0, 1) := dc_of dtL_law_832_16_ok (i := 28) rfl
theorem dL_law_868 : decode cL_law 868 = .ok (.iload 4, 2) := dc_of dtL_law_832_16_ok (i := 29) rfl
theorem dL_law_870 : decode cL_law 870 = .ok (.iconst 1, 1) := dc_of dtL_law_832_16_ok (i := 30) rfl
theorem dL_law_871 : decode cL_law 871 = .ok (.iadd, 1) := dc_of dtL_law_832_16_ok (i := 31) rfl
def dtL_law_872_17 : List (Nat × Instr × Nat) := [(872, .iaload, 1), (873, .aload_n 0, 1), (874, .iload 4, 2), (876, .iconst 2, 1), (877, .iadd, 1), (878, .iaload, 1), (879, .aload_n 0, 1), (880, .iload 4, 2), (882, .iconst 3, 1), (883, .iadd, 1), (884, .iaload, 1), (885, .aload_n 0, 1), (886, .iload 4, 2), (888, .iconst 4, 1), (889, .iadd, 1), (890, .iaload, 1), (891, .aload_n 0, 1), (892, .iload 4, 2), (894, .iconst 5, 1), (895, .iadd, 1), (896, .iaload, 1), (897, .invokevirtual 113, 3), (900, .pop, 1), (901, .goto 167, 3), (904, .aload_n 1, 1), (905, .aload_n 0, 1), (906, .iload 4, 2), (908, .iconst 1, 1), (909, .iadd, 1), (910, .iaload, 1), (911, .invokevirtual 114, 3), (914, .pop, 1)]
theorem dtL_law_872_17_ok : dcAll cL_law dtL_law_872_17 = true := by decide +kernel
theorem dL_law_872 : decode cL_law 872 = .ok (.iaload, 1) := dc_of dtL_law_872_17_ok (i := 0) rfl
theorem dL_law_873 : decode cL_law 873 = .ok (.aload_n 0, 1) := dc_of dtL_law_872_17_ok (i := 1) rfl
theorem dL_law_874 : decode cL_law 874 = .ok (.iload 4, 2) := dc_of dtL_law_872_17_ok (i := 2) rfl
theorem dL_law_876 : decode cL_law 876 = .ok (.iconst 2, 1) := dc_of dtL_law_872_17_ok (i := 3) rfl
theorem dL_law_877 : decode cL_law 877 = .ok (.iadd, 1) := dc_of dtL_law_872_17_ok (i := 4) rfl
theorem dL_law_878 : decode cL_law 878 = .ok (.iaload, 1) := dc_of dtL_law_872_17_ok (i := 5) rfl
theorem dL_law_879 : decode cL_law 879 = .ok (.aload_n 0, 1) := dc_of dtL_law_872_17_ok (i := 6) rfl
theorem dL_law_880 : decode cL_law 880 = .ok (.iload 4, 2) := dc_of dtL_law_872_17_ok (i := 7) rfl
theorem dL_law_882 : decode cL_law 882 = .ok (.iconst 3, 1) := dc_of dtL_law_872_17_ok (i := 8) rfl
theorem dL_law_883 : decode cL_law 883 = .ok (.iadd, 1) := dc_of dtL_law_872_17_ok (i := 9) rfl
theorem dL_law_884 : decode cL_law 884 = .ok (.iaload, 1) := dc_of dtL_law_872_17_ok (i := 10) rfl
theorem dL_law_885 : decode cL_law 885 = .ok (.aload_n 0, 1) := dc_of dtL_law_872_17_ok (i := 11) rfl
theorem dL_law_886 : decode cL_law 886 = .ok (.iload 4, 2) := dc_of dtL_law_872_17_ok (i := 12) rfl
theorem dL_law_888 : decode cL_law 888 = .ok (.iconst 4, 1) := dc_of dtL_law_872_17_ok (i := 13) rfl
theorem dL_law_889 : decode cL_law 889 = .ok (.iadd, 1) := dc_of dtL_law_872_17_ok (i := 14) rfl
theorem dL_law_890 : decode cL_law 890 = .ok (.iaload, 1) := dc_of dtL_law_872_17_ok (i := 15) rfl
theorem dL_law_891 : decode cL_law 891 = .ok (.aload_n 0, 1) := dc_of dtL_law_872_17_ok (i := 16) rfl
theorem dL_law_892 : decode cL_law 892 = .ok (.iload 4, 2) := dc_of dtL_law_872_17_ok (i := 17) rfl
theorem dL_law_894 : decode cL_law 894 = .ok (.iconst 5, 1) := dc_of dtL_law_872_17_ok (i := 18) rfl
theorem dL_law_895 : decode cL_law 895 = .ok (.iadd, 1) := dc_of dtL_law_872_17_ok (i := 19) rfl
theorem dL_law_896 : decode cL_law 896 = .ok (.iaload, 1) := dc_of dtL_law_872_17_ok (i := 20) rfl
theorem dL_law_897 : decode cL_law 897 = .ok (.invokevirtual 113, 3) := dc_of dtL_law_872_17_ok (i := 21) rfl
theorem dL_law_900 : decode cL_law 900 = .ok (.pop, 1) := dc_of dtL_law_872_17_ok (i := 22) rfl
theorem dL_law_901 : decode cL_law 901 = .ok (.goto 167, 3) := dc_of dtL_law_872_17_ok (i := 23) rfl
theorem dL_law_904 : decode cL_law 904 = .ok (.aload_n 1, 1) := dc_of dtL_law_872_17_ok (i := 24) rfl
theorem dL_law_905 : decode cL_law 905 = .ok (.aload_n 0, 1) := dc_of dtL_law_872_17_ok (i := 25) rfl
theorem dL_law_906 : decode cL_law 906 = .ok (.iload 4, 2) := dc_of dtL_law_872_17_ok (i := 26) rfl
theorem dL_law_908 : decode cL_law 908 = .ok (.iconst 1, 1) := dc_of dtL_law_872_17_ok (i := 27) rfl
theorem dL_law_909 : decode cL_law 909 = .ok (.iadd, 1) := dc_of dtL_law_872_17_ok (i := 28) rfl
theorem dL_law_910 : decode cL_law 910 = .ok (.iaload, 1) := dc_of dtL_law_872_17_ok (i := 29) rfl
theorem dL_law_911 : decode cL_law 911 = .ok (.invokevirtual 114, 3) := dc_of dtL_law_872_17_ok (i := 30) rfl
theorem dL_law_914 : decode cL_law 914 = .ok (.pop, 1) := dc_of dtL_law_872_17_ok (i := 31) rfl
def dtL_law_915_18 : List (Nat × Instr × Nat) := [(915, .aload_n 2, 1), (916, .aload_n 0, 1), (917, .iload 4, 2), (919, .iconst 1, 1), (920, .iadd, 1), (921, .iaload, 1), (922, .invokevirtual 117, 3), (925, .pop, 1), (926, .goto 142, 3), (929, .aload_n 1, 1), (930, .aload_n 0, 1), (931, .iload 4, 2), (933, .iconst 1, 1), (934, .iadd, 1), (935, .iaload, 1), (936, .invokevirtual 118, 3), (939, .pop, 1), (940, .aload_n 2, 1), (941, .aload_n 0, 1), (942, .iload 4, 2), (944, .iconst 1, 1), (945, .iadd, 1), (946, .iaload, 1), (947, .invokevirtual 121, 3), (950, .pop, 1), (951, .goto 117, 3), (954, .aload_n 1, 1), (955, .aload_n 0, 1), (956, .iload 4, 2), (958, .iconst 1, 1), (959, .iadd, 1), (960, .iaload, 1)]
theorem dtL_law_915_18_ok : dcAll cL_law dtL_law_915_18 = true := by decide +kernel
theorem dL_law_915 : decode cL_law 915 = .ok (.aload_n 2, 1) := dc_of dtL_law_915_18_ok (i := 0) rfl
theorem dL_law_916 : decode cL_law 916 = .ok (.aload_n 0, 1) := dc_of dtL_law_915_18_ok (i := 1) rfl
theorem dL_law_917 : decode cL_law 917 = .ok (.iload 4, 2) := dc_of dtL_law_915_18_ok (i := 2) rfl
theorem dL_law_919 : decode cL_law 919 = .ok (.iconst 1, 1) := dc_of dtL_law_915_18_ok (i := 3) rfl
theorem dL_law_920 : decode cL_law 920 = .ok (.iadd, 1) := dc_of dtL_law_915_18_ok (i := 4) rfl
theorem dL_law_921 : decode cL_law 921 = .ok (.iaload, 1) := dc_of dtL_law_915_18_ok (i := 5) rfl
theorem dL_law_922 : decode cL_law 922 = .ok (.invokevirtual 117, 3) := dc_of dtL_law_915_18_ok (i := 6) rfl
theorem dL_law_925 : decode cL_law 925 = .ok (.pop, 1) := dc_of dtL_law_915_18_ok (i := 7) rfl
theorem dL_law_926 : decode cL_law 926 = .ok (.goto 142, 3) := dc_of dtL_law_915_18_ok (i := 8) rfl
theorem dL_law_929 : decode cL_law 929 = .ok (.aload_n 1, 1) := dc_of dtL_law_915_18_ok (i := 9) rfl
theorem dL_law_930 : decode cL_law 930 = .ok (.aload_n 0, 1) := dc_of dtL_law_915_18_ok (i := 10) rfl
theorem dL_law_931 : decode cL_law 931 = .ok (.iload 4, 2) := dc_of dtL_law_915_18_ok (i := 11) rfl
theorem dL_law_933 : decode cL_law 933 = .ok (.iconst 1, 1) := dc_of dtL_law_915_18_ok (i := 12) rfl
theorem dL_law_934 : decode cL_law 934 = .ok (.iadd, 1) := dc_of dtL_law_915_18_ok (i := 13) rfl
theorem dL_law_935 : decode cL_law 935 = .ok (.iaload, 1) := dc_of dtL_law_915_18_ok (i := 14) rfl
theorem dL_law_936 : decode cL_law 936 = .ok (.invokevirtual 118, 3) := dc_of dtL_law_915_18_ok (i := 15) rfl
theorem dL_law_939 : decode cL_law 939 = .ok (.pop, 1) := dc_of dtL_law_915_18_ok (i := 16) rfl
theorem dL_law_940 : decode cL_law 940 = .ok (.aload_n 2, 1) := dc_of dtL_law_915_18_ok (i := 17) rfl
theorem dL_law_941 : decode cL_law 941 = .ok (.aload_n 0, 1) := dc_of dtL_law_915_18_ok (i := 18) rfl
theorem dL_law_942 : decode cL_law 942 = .ok (.iload 4, 2) := dc_of dtL_law_915_18_ok (i := 19) rfl
theorem dL_law_944 : decode cL_law 944 = .ok (.iconst 1, 1) := dc_of dtL_law_915_18_ok (i := 20) rfl
theorem dL_law_945 : decode cL_law 945 = .ok (.iadd, 1) := dc_of dtL_law_915_18_ok (i := 21) rfl
theorem dL_law_946 : decode cL_law 946 = .ok (.iaload, 1) := dc_of dtL_law_915_18_ok (i := 22) rfl
theorem dL_law_947 : decode cL_law 947 = .ok (.invokevirtual 121, 3) := dc_of dtL_law_915_18_ok (i := 23) rfl
theorem dL_law_950 : decode cL_law 950 = .ok (.pop, 1) := dc_of dtL_law_915_18_ok (i := 24) rfl
theorem dL_law_951 : decode cL_law 951 = .ok (.goto 117, 3) := dc_of dtL_law_915_18_ok (i := 25) rfl
theorem dL_law_954 : decode cL_law 954 = .ok (.aload_n 1, 1) := dc_of dtL_law_915_18_ok (i := 26) rfl
theorem dL_law_955 : decode cL_law 955 = .ok (.aload_n 0, 1) := dc_of dtL_law_915_18_ok (i := 27) rfl
theorem dL_law_956 : decode cL_law 956 = .ok (.iload 4, 2) := dc_of dtL_law_915_18_ok (i := 28) rfl
theorem dL_law_958 : decode cL_law 958 = .ok (.iconst 1, 1) := dc_of dtL_law_915_18_ok (i := 29) rfl
theorem dL_law_959 : decode cL_law 959 = .ok (.iadd, 1) := dc_of dtL_law_915_18_ok (i := 30) rfl
theorem dL_law_960 : decode cL_law 960 = .ok (.iaload, 1) := dc_of dtL_law_915_18_ok (i := 31) rfl
def dtL_law_961_19 : List (Nat × Instr × Nat) := [(961, .aload_n 0, 1), (962, .iload 4, 2), (964, .iconst 2, 1), (965, .iadd, 1), (966, .iaload, 1), (967, .invokevirtual 122, 3), (970, .pop, 1), (971, .aload_n 2, 1), (972, .aload_n 0, 1), (973, .iload 4, 2), (975, .iconst 1, 1), (976, .iadd, 1), (977, .iaload, 1), (978, .aload_n 0, 1), (979, .iload 4, 2), (981, .iconst 2, 1), (982, .iadd, 1), (983, .iaload, 1), (984, .invokevirtual 125, 3), (987, .pop, 1), (988, .goto 80, 3), (991, .aload_n 1, 1), (992, .aload_n 0, 1), (993, .iload 4, 2), (995, .iconst 1, 1), (996, .iadd, 1), (997, .iaload, 1), (998, .aload_n 0, 1), (999, .iload 4, 2), (1001, .iconst 2, 1), (1002, .iadd, 1), (1003, .iaload, 1)]
theorem dtL_law_961_19_ok : dcAll cL_law dtL_law_961_19 = true := by decide +kernel
theorem dL_law_961 : decode cL_law 961 = .ok (.aload_n 0, 1) := dc_of dtL_law_961_19_ok (i := 0) rfl
theorem dL_law_962 : decode cL_law 962 = .ok (.iload 4, 2) := dc_of dtL_law_961_19_ok (i := 1) rfl
theorem dL_law_964 : decode cL_law 964 = .ok (.iconst 2, 1) := dc_of dtL_law_961_19_ok (i := 2) rfl
theorem dL_law_965 : decode cL_law 965 = .ok (.iadd, 1) := dc_of dtL_law_961_19_ok (i := 3) rfl
theorem dL_law_966 : decode cL_law 966 = .ok (.iaload, 1) := dc_of dtL_law_961_19_ok (i := 4) rfl
theorem dL_law_967 : decode cL_law 967 = .ok (.invokevirtual 122, 3) := dc_of dtL_law_961_19_ok (i := 5) rfl
theorem dL_law_970 : decode cL_law 970 = .ok (.pop, 1) := dc_of dtL_law_961_19_ok (i := 6) rfl
theorem dL_law_971 : decode cL_law 971 = .ok (.aload_n 2, 1) := dc_of dtL_law_961_19_ok (i := 7) rfl
theorem dL_law_972 : decode cL_law 972 = .ok (.aload_n 0, 1) := dc_of dtL_law_961_19_ok (i := 8) rfl
theorem dL_law_973 : decode cL_law 973 = .ok (.iload 4, 2) := dc_of dtL_law_961_19_ok (i := 9) rfl
theorem dL_law_975 : decode cL_law 975 = .ok (.iconst 1, 1) := dc_of dtL_law_961_19_ok (i := 10) rfl
theorem dL_law_976 : decode cL_law 976 = .ok (.iadd, 1) := dc_of dtL_law_961_19_ok (i := 11) rfl
theorem dL_law_977 : decode cL_law 977 = .ok (.iaload, 1) := dc_of dtL_law_961_19_ok (i := 12) rfl
theorem dL_law_978 : decode cL_law 978 = .ok (.aload_n 0, 1) := dc_of dtL_law_961_19_ok (i := 13) rfl
theorem dL_law_979 : decode cL_law 979 = .ok (.iload 4, 2) := dc_of dtL_law_961_19_ok (i := 14) rfl
theorem dL_law_981 : decode cL_law 981 = .ok (.iconst 2, 1) := dc_of dtL_law_961_19_ok (i := 15) rfl
theorem dL_law_982 : decode cL_law 982 = .ok (.iadd, 1) := dc_of dtL_law_961_19_ok (i := 16) rfl
theorem dL_law_983 : decode cL_law 983 = .ok (.iaload, 1) := dc_of dtL_law_961_19_ok (i := 17) rfl
theorem dL_law_984 : decode cL_law 984 = .ok (.invokevirtual 125, 3) := dc_of dtL_law_961_19_ok (i := 18) rfl
theorem dL_law_987 : decode cL_law 987 = .ok (.pop, 1) := dc_of dtL_law_961_19_ok (i := 19) rfl
theorem dL_law_988 : decode cL_law 988 = .ok (.goto 80, 3) := dc_of dtL_law_961_19_ok (i := 20) rfl
theorem dL_law_991 : decode cL_law 991 = .ok (.aload_n 1, 1) := dc_of dtL_law_961_19_ok (i := 21) rfl
theorem dL_law_992 : decode cL_law 992 = .ok (.aload_n 0, 1) := dc_of dtL_law_961_19_ok (i := 22) rfl
theorem dL_law_993 : decode cL_law 993 = .ok (.iload 4, 2) := dc_of dtL_law_961_19_ok (i := 23) rfl
theorem dL_law_995 : decode cL_law 995 = .ok (.iconst 1, 1) := dc_of dtL_law_961_19_ok (i := 24) rfl
theorem dL_law_996 : decode cL_law 996 = .ok (.iadd, 1) := dc_of dtL_law_961_19_ok (i := 25) rfl
theorem dL_law_997 : decode cL_law 997 = .ok (.iaload, 1) := dc_of dtL_law_961_19_ok (i := 26) rfl
theorem dL_law_998 : decode cL_law 998 = .ok (.aload_n 0, 1) := dc_of dtL_law_961_19_ok (i := 27) rfl
theorem dL_law_999 : decode cL_law 999 = .ok (.iload 4, 2) := dc_of dtL_law_961_19_ok (i := 28) rfl
theorem dL_law_1001 : decode cL_law 1001 = .ok (.iconst 2, 1) := dc_of dtL_law_961_19_ok (i := 29) rfl
theorem dL_law_1002 : decode cL_law 1002 = .ok (.iadd, 1) := dc_of dtL_law_961_19_ok (i := 30) rfl
theorem dL_law_1003 : decode cL_law 1003 = .ok (.iaload, 1) := dc_of dtL_law_961_19_ok (i := 31) rfl
def dtL_law_1004_20 : List (Nat × Instr × Nat) := [(1004, .aload_n 0, 1), (1005, .iload 4, 2), (1007, .iconst 3, 1), (1008, .iadd, 1), (1009, .iaload, 1), (1010, .aload_n 3, 1), (1011, .invokestatic 126, 3), (1014, .istore 5, 2), (1016, .aload_n 2, 1), (1017, .aload_n 0, 1), (1018, .iload 4, 2), (1020, .iconst 1, 1), (1021, .iadd, 1), (1022, .iaload, 1), (1023, .aload_n 0, 1), (1024, .iload 4, 2), (1026, .iconst 2, 1), (1027, .iadd, 1), (1028, .iaload, 1), (1029, .aload_n 0, 1), (1030, .iload 4, 2), (1032, .iconst 3, 1), (1033, .iadd, 1), (1034, .iaload, 1), (1035, .invokevirtual 128, 3), (1038, .istore 6, 2), (1040, .goto 28, 3), (1043, .aload_n 1, 1), (1044, .aload_n 0, 1), (1045, .iload 4, 2), (1047, .iconst 1, 1), (1048, .iadd, 1)]
theorem dtL_law_1004_20_ok : dcAll cL_law dtL_law_1004_20 = true := by decide +kernel
theorem dL_law_1004 : decode cL_law 1004 = .ok (.aload_n 0, 1) := dc_of dtL_law_1004_20_ok (i := 0) rfl
theorem dL_law_1005 : decode cL_law 1005 = .ok (.iload 4, 2) := dc_of dtL_law_1004_20_ok (i := 1) rfl
theorem dL_law_1007 : decode cL_law 1007 = .ok (.iconst 3, 1) := dc_of dtL_law_1004_20_ok (i := 2) rfl
theorem dL_law_1008 : decode cL_law 1008 = .ok (.iadd, 1) := dc_of dtL_law_1004_20_ok (i := 3) rfl
theorem dL_law_1009 : decode cL_law 1009 = .ok (.iaload, 1) := dc_of dtL_law_1004_20_ok (i := 4) rfl
theorem dL_law_1010 : decode cL_law 1010 = .ok (.aload_n 3, 1) := dc_of dtL_law_1004_20_ok (i := 5) rfl
theorem dL_law_1011 : decode cL_law 1011 = .ok (.invokestatic 126, 3) := dc_of dtL_law_1004_20_ok (i := 6) rfl
theorem dL_law_1014 : decode cL_law 1014 = .ok (.istore 5, 2) := dc_of dtL_law_1004_20_ok (i := 7) rfl
theorem dL_law_1016 : decode cL_law 1016 = .ok (.aload_n 2, 1) := dc_of dtL_law_1004_20_ok (i := 8) rfl
theorem dL_law_1017 : decode cL_law 1017 = .ok (.aload_n 0, 1) := dc_of dtL_law_1004_20_ok (i := 9) rfl
theorem dL_law_1018 : decode cL_law 1018 = .ok (.iload 4, 2) := dc_of dtL_law_1004_20_ok (i := 10) rfl
theorem dL_law_1020 : decode cL_law 1020 = .ok (.iconst 1, 1) := dc_of dtL_law_1004_20_ok (i := 11) rfl
theorem dL_law_1021 : decode cL_law 1021 = .ok (.iadd, 1) := dc_of dtL_law_1004_20_ok (i := 12) rfl
theorem dL_law_1022 : decode cL_law 1022 = .ok (.iaload, 1) := dc_of dtL_law_1004_20_ok (i := 13) rfl
theorem dL_law_1023 : decode cL_law 1023 = .ok (.aload_n 0, 1) := dc_of dtL_law_1004_20_ok (i := 14) rfl
theorem dL_law_1024 : decode cL_law 1024 = .ok (.iload 4, 2) := dc_of dtL_law_1004_20_ok (i := 15) rfl
theorem dL_law_1026 : decode cL_law 1026 = .ok (.iconst 2, 1) := dc_of dtL_law_1004_20_ok (i := 16) rfl
theorem dL_law_1027 : decode cL_law 1027 = .ok (.iadd, 1) := dc_of dtL_law_1004_20_ok (i := 17) rfl
theorem dL_law_1028 : decode cL_law 1028 = .ok (.iaload, 1) := dc_of dtL_law_1004_20_ok (i := 18) rfl
theorem dL_law_1029 : decode cL_law 1029 = .ok (.aload_n 0, 1) := dc_of dtL_law_1004_20_ok (i := 19) rfl
theorem dL_law_1030 : decode cL_law 1030 = .ok (.iload 4, 2) := dc_of dtL_law_1004_20_ok (i := 20) rfl
theorem dL_law_1032 : decode cL_law 1032 = .ok (.iconst 3, 1) := dc_of dtL_law_1004_20_ok (i := 21) rfl
theorem dL_law_1033 : decode cL_law 1033 = .ok (.iadd, 1) := dc_of dtL_law_1004_20_ok (i := 22) rfl
theorem dL_law_1034 : decode cL_law 1034 = .ok (.iaload, 1) := dc_of dtL_law_1004_20_ok (i := 23) rfl
theorem dL_law_1035 : decode cL_law 1035 = .ok (.invokevirtual 128, 3) := dc_of dtL_law_1004_20_ok (i := 24) rfl
theorem dL_law_1038 : decode cL_law 1038 = .ok (.istore 6, 2) := dc_of dtL_law_1004_20_ok (i := 25) rfl
theorem dL_law_1040 : decode cL_law 1040 = .ok (.goto 28, 3) := dc_of dtL_law_1004_20_ok (i := 26) rfl
theorem dL_law_1043 : decode cL_law 1043 = .ok (.aload_n 1, 1) := dc_of dtL_law_1004_20_ok (i := 27) rfl
theorem dL_law_1044 : decode cL_law 1044 = .ok (.aload_n 0, 1) := dc_of dtL_law_1004_20_ok (i := 28) rfl
theorem dL_law_1045 : decode cL_law 1045 = .ok (.iload 4, 2) := dc_of dtL_law_1004_20_ok (i := 29) rfl
theorem dL_law_1047 : decode cL_law 1047 = .ok (.iconst 1, 1) := dc_of dtL_law_1004_20_ok (i := 30) rfl
theorem dL_law_1048 : decode cL_law 1048 = .ok (.iadd, 1) := dc_of dtL_law_1004_20_ok (i := 31) rfl
def dtL_law_1049_21 : List (Nat × Instr × Nat) := [(1049, .iaload, 1), (1050, .invokevirtual 129, 3), (1053, .pop, 1), (1054, .aload_n 2, 1), (1055, .aload_n 0, 1), (1056, .iload 4, 2), (1058, .iconst 1, 1), (1059, .iadd, 1), (1060, .iaload, 1), (1061, .invokevirtual 132, 3), (1064, .pop, 1), (1065, .goto 3, 3), (1068, .iinc 4 7, 3), (1071, .goto (-1048), 3), (1074, .iconst 1, 1), (1075, .ireturn, 1)]
theorem dtL_law_1049_21_ok : dcAll cL_law dtL_law_1049_21 = true := by decide +kernel
theorem dL_law_1049 : decode cL_law 1049 = .ok (.iaload, 1) := dc_of dtL_law_1049_21_ok (i := 0) rfl
theorem dL_law_1050 : decode cL_law 1050 = .ok (.invokevirtual 129, 3) := dc_of dtL_law_1049_21_ok (i := 1) rfl
theorem dL_law_1053 : decode cL_law 1053 = .ok (.pop, 1) := dc_of dtL_law_1049_21_ok (i := 2) rfl
theorem dL_law_1054 : decode cL_law 1054 = .ok (.aload_n 2, 1) := dc_of dtL_law_1049_21_ok (i := 3) rfl
theorem dL_law_1055 : decode cL_law 1055 = .ok (.aload_n 0, 1) := dc_of dtL_law_1049_21_ok (i := 4) rfl
theorem dL_law_1056 : decode cL_law 1056 = .ok (.iload 4, 2) := dc_of dtL_law_1049_21_ok (i := 5) rfl
theorem dL_law_1058 : decode cL_law 1058 = .ok (.iconst 1, 1) := dc_of dtL_law_1049_21_ok (i := 6) rfl
theorem dL_law_1059 : decode cL_law 1059 = .ok (.iadd, 1) := dc_of dtL_law_1049_21_ok (i := 7) rfl
theorem dL_law_1060 : decode cL_law 1060 = .ok (.iaload, 1) := dc_of dtL_law_1049_21_ok (i := 8) rfl
theorem dL_law_1061 : decode cL_law 1061 = .ok (.invokevirtual 132, 3) := dc_of dtL_law_1049_21_ok (i := 9) rfl
theorem dL_law_1064 : decode cL_law 1064 = .ok (.pop, 1) := dc_of dtL_law_1049_21_ok (i := 10) rfl
theorem dL_law_1065 : decode cL_law 1065 = .ok (.goto 3, 3) := dc_of dtL_law_1049_21_ok (i := 11) rfl
theorem dL_law_1068 : decode cL_law 1068 = .ok (.iinc 4 7, 3) := dc_of dtL_law_1049_21_ok (i := 12) rfl
theorem dL_law_1071 : decode cL_law 1071 = .ok (.goto (-1048), 3) := dc_of dtL_law_1049_21_ok (i := 13) rfl
theorem dL_law_1074 : decode cL_law 1074 = .ok (.iconst 1, 1) := dc_of dtL_law_1049_21_ok (i := 14) rfl
theorem dL_law_1075 : decode cL_law 1075 = .ok (.ireturn, 1) := dc_of dtL_law_1049_21_ok (i := 15) rfl
