set_option maxHeartbeats 4000000 in
set_option maxRecDepth 100000 in
theorem lc_0 {p : Program} {l : Launch} {e : Env} {s : State} {m : MethodId} {below : List Frame} {meth : Method} {c : Code} {g : gG} {b L : Nat} {xs : Nat → Int32} {i : Int} {cells slots : Nat} (C : lF p l s m c g b L xs) (hi0 : 0 ≤ i) (hi7 : i + 7 ≤ (L : Int)) (hcs : cells + 1 ≤ 601024 ∧ slots + 6 ≤ 7293034) (K : lK p l e s m below meth c g b i cells slots)
    {I : gI} {R : gR} {J : gJ} {AI : gI} {AJ : gJ} {AR : gR} {H : Heap} {locs : List Loc} {ls : Array Slot} (hI : lInv g I R AI AR) (hH : gH (gW g (I, AI)) I R J AI AJ AR H) (hS : va_S (gA g) s.heap H locs) (hl : lv_has ls 7 (lV g b i)) :
    W p l e room_1 s m #[Value.ref b] below meth c H locs cells slots (lw_Z below #[Value.ref b] s) (F0 m 144 ls []) := by
  obtain ⟨Fa, Ta, hOK, hZ, hX, hbl, hL, hst⟩ := C
  have F := Fa (I, AI)
  have hz : gZ g ≤ s.heap.size := Nat.le_of_eq hZ
  obtain ⟨hv, hmv, pA, q, bA, nA, hQ⟩ := hI
  have hx := hQ.1
  have hlen := hQ.2.2.2.1
  have hBq := hQ.2.2.2.2.1
  have hx0 : xS (gW g (I, AI)) (hG0 (gZ g)) R AR (gZ g + 0) pA bA nA := hx
  have h37 : hG0 (gZ g) 42 0 ≠ 1 := by show (0 : Nat) ≠ 1; decide
  have hE9 := hQ.2.2.2.2.2.2
  obtain ⟨nr, tbs8, cc, cl, ⟨q1, rfl, q3⟩, hQ8, hB8⟩ := id hE9
  have hP8 : lP8 g I AR AI pA nr (I pA 2).toInt cc cl := ⟨q1, rfl, q3⟩
  have hnb8 : (I (gZ g + 179) 3).toInt = (((I (gZ g + 179) 3).toInt.toNat : Nat) : Int) := (Int.toNat_of_nonneg hBq.2.1.1).symm
  have hln : (I (gZ g + 0) 1).toInt = (I (gZ g + 205) 16).toInt := hlen.1
  obtain ⟨a1, za1, ha1⟩ := l_val xs (i + 1).toNat
  obtain ⟨a2, za2, ha2⟩ := l_val xs (i + 2).toNat
  obtain ⟨a3, za3, ha3⟩ := l_val xs (i + 3).toNat
  obtain ⟨a4, za4, ha4⟩ := l_val xs (i + 4).toNat
  obtain ⟨a5, za5, ha5⟩ := l_val xs (i + 5).toNat
  obtain ⟨a6, za6, ha6⟩ := l_val xs (i + 6).toNat
  refine lv_aload_n F.1 F.2.1 dL_law_144 rfl (lv_at hl 2 rfl) ?_
  refine lv_aload_n F.1 F.2.1 dL_law_145 rfl (lv_at hl 1 rfl) ?_
  refine lv_iload F.1 F.2.1 dL_law_146 (lv_at hl 0 rfl) ?_
  refine z_iconst F dL_law_148 ?_
  refine z_iadd F dL_law_149 ?_
  refine l_sld F.1 F.2.1 hX hbl hZ hS (z := i + 1) (by omega) (by omega) (by omega) ha1 dL_law_150 ?_
  refine lv_i2l F.1 F.2.1 dL_law_151 rfl ?_
  refine lv_topl (fun j1 ej1 => ?_)
  refine z_bipush F dL_law_152 (by decide) ?_
  refine lv_lshl F.1 F.2.1 dL_law_154 rfl ?_
  refine lv_topl (fun j2 ej2 => ?_)
  refine lv_aload_n F.1 F.2.1 dL_law_155 rfl (lv_at hl 1 rfl) ?_
  refine lv_iload F.1 F.2.1 dL_law_156 (lv_at hl 0 rfl) ?_
  refine z_iconst F dL_law_158 ?_
  refine z_iadd F dL_law_159 ?_
  refine l_sld F.1 F.2.1 hX hbl hZ hS (z := i + 2) (by omega) (by omega) (by omega) ha2 dL_law_160 ?_
  refine lv_i2l F.1 F.2.1 dL_law_161 rfl ?_
  refine lv_topl (fun j3 ej3 => ?_)
  refine lv_ldc2 (v := 4294967295) F.1 F.2.1 F.2.2.2.1 (F.2.2.2.2.1 _ (TBm (tk7 (List.mem_of_getElem? (i := 34) rfl)) rfl)) dL_law_162 ?_
  refine lv_land F.1 F.2.1 dL_law_165 ?_
  refine lv_topl (fun j4 ej4 => ?_)
  refine lv_lor F.1 F.2.1 dL_law_166 ?_
  refine lv_topl (fun j5 ej5 => ?_)
  refine lv_aload_n F.1 F.2.1 dL_law_167 rfl (lv_at hl 1 rfl) ?_
  refine lv_iload F.1 F.2.1 dL_law_168 (lv_at hl 0 rfl) ?_
  refine z_iconst F dL_law_170 ?_
  refine z_iadd F dL_law_171 ?_
  refine l_sld F.1 F.2.1 hX hbl hZ hS (z := i + 3) (by omega) (by omega) (by omega) ha3 dL_law_172 ?_
  refine lv_i2l F.1 F.2.1 dL_law_173 rfl ?_
  refine lv_topl (fun j6 ej6 => ?_)
  refine z_bipush F dL_law_174 (by decide) ?_
  refine lv_lshl F.1 F.2.1 dL_law_176 rfl ?_
  refine lv_topl (fun j7 ej7 => ?_)
  refine lv_aload_n F.1 F.2.1 dL_law_177 rfl (lv_at hl 1 rfl) ?_
  refine lv_iload F.1 F.2.1 dL_law_178 (lv_at hl 0 rfl) ?_
  refine z_iconst F dL_law_180 ?_
  refine z_iadd F dL_law_181 ?_
  refine l_sld F.1 F.2.1 hX hbl hZ hS (z := i + 4) (by omega) (by omega) (by omega) ha4 dL_law_182 ?_
  refine lv_i2l F.1 F.2.1 dL_law_183 rfl ?_
  refine lv_topl (fun j8 ej8 => ?_)
  refine lv_ldc2 (v := 4294967295) F.1 F.2.1 F.2.2.2.1 (F.2.2.2.2.1 _ (TBm (tk7 (List.mem_of_getElem? (i := 34) rfl)) rfl)) dL_law_184 ?_
  refine lv_land F.1 F.2.1 dL_law_187 ?_
  refine lv_topl (fun j9 ej9 => ?_)
  refine lv_lor F.1 F.2.1 dL_law_188 ?_
  refine lv_topl (fun j10 ej10 => ?_)
  refine lv_aload_n F.1 F.2.1 dL_law_189 rfl (lv_at hl 1 rfl) ?_
  refine lv_iload F.1 F.2.1 dL_law_190 (lv_at hl 0 rfl) ?_
  refine z_iconst F dL_law_192 ?_
  refine z_iadd F dL_law_193 ?_
  refine l_sld F.1 F.2.1 hX hbl hZ hS (z := i + 5) (by omega) (by omega) (by omega) ha5 dL_law_194 ?_
  refine lv_i2l F.1 F.2.1 dL_law_195 rfl ?_
  refine lv_topl (fun j11 ej11 => ?_)
  refine z_bipush F dL_law_196 (by decide) ?_
  refine lv_lshl F.1 F.2.1 dL_law_198 rfl ?_
  refine lv_topl (fun j12 ej12 => ?_)
  refine lv_aload_n F.1 F.2.1 dL_law_199 rfl (lv_at hl 1 rfl) ?_
  refine lv_iload F.1 F.2.1 dL_law_200 (lv_at hl 0 rfl) ?_
  refine z_bipush F dL_law_202 (by decide) ?_
  refine z_iadd F dL_law_204 ?_
  refine l_sld F.1 F.2.1 hX hbl hZ hS (z := i + 6) (by omega) (by omega) (by omega) ha6 dL_law_205 ?_
  refine lv_i2l F.1 F.2.1 dL_law_206 rfl ?_
  refine lv_topl (fun j13 ej13 => ?_)
  refine lv_ldc2 (v := 4294967295) F.1 F.2.1 F.2.2.2.1 (F.2.2.2.2.1 _ (TBm (tk7 (List.mem_of_getElem? (i := 34) rfl)) rfl)) dL_law_207 ?_
  refine lv_land F.1 F.2.1 dL_law_210 ?_
  refine lv_topl (fun j14 ej14 => ?_)
  refine lv_lor F.1 F.2.1 dL_law_211 ?_
  refine lv_topl (fun j15 ej15 => ?_)
  refine g_calli (g_runV (As := [.long j5, .long j10, .long j15]) (rest := []) (ci := 6) F hl.1 hH hS hz (c_X6_feedf l (gW g (I, AI)) (hG (gZ g)) pA bA nA I R J AI AJ AR (gZ g + 0) j5 j10 j15 hv hx) (cwV 3 F.2.2.2.2.1 gTB_L_X6_feed rfl rfl rfl hdX6_feed ⟨Nat.le_of_ble_eq_true rfl, Nat.le_of_ble_eq_true rfl⟩) hx.1 (by decide) rfl rfl rfl (Nat.le_of_ble_eq_true rfl) dL_law_212 ⟨Nat.le_of_succ_le hcs.1, Nat.le_trans (Nat.le_add_right _ _) hcs.2⟩) hS (fun v1 I1 R1 J1 AI1 AJ1 AR1 H locs zv1 hp hH hS => ?_)
  dsimp only at hp
  obtain ⟨rfl, rfl, rfl, rfl, f11, f21, f31, dj1⟩ := hp
  have d1 : fdP cBs j5 j10 j15 (I (gZ g + 0) 1).toInt (I1 (gZ g + 0) 1).toInt v1 (AI (gZ g + 1)) (AI1 (gZ g + 1)) := dj1
  have f31 : ∀ b, b ≠ gZ g + 1 → AI1 b = AI b := f31
  have hv1 := l_feed1 hOK hv hx f11 f21 f31 (fdP_l d1 ⟨l_len0 hv hx, l_len9 hv hx⟩)
  have hmv := l_feed1m hmv hx f11 f31
  have hH : gH (gW g (I1, AI1)) I1 R J AI1 AJ AR H := gH_W hH
  have F := Fa (I1, AI1)
  refine lv_pop F.1 F.2.1 dL_law_215 rfl ?_
  refine lv_aload_n F.1 F.2.1 dL_law_216 rfl (lv_at hl 3 rfl) ?_
  refine lv_aload_n F.1 F.2.1 dL_law_217 rfl (lv_at hl 1 rfl) ?_
  refine lv_iload F.1 F.2.1 dL_law_218 (lv_at hl 0 rfl) ?_
  refine z_iconst F dL_law_220 ?_
  refine z_iadd F dL_law_221 ?_
  refine l_sld F.1 F.2.1 hX hbl hZ hS (z := i + 1) (by omega) (by omega) (by omega) ha1 dL_law_222 ?_
  refine lv_i2l F.1 F.2.1 dL_law_223 rfl ?_
  refine lv_topl (fun j17 ej17 => ?_)
  refine z_bipush F dL_law_224 (by decide) ?_
  refine lv_lshl F.1 F.2.1 dL_law_226 rfl ?_
  refine lv_topl (fun j18 ej18 => ?_)
  refine lv_aload_n F.1 F.2.1 dL_law_227 rfl (lv_at hl 1 rfl) ?_
  refine lv_iload F.1 F.2.1 dL_law_228 (lv_at hl 0 rfl) ?_
  refine z_iconst F dL_law_230 ?_
  refine z_iadd F dL_law_231 ?_
  refine l_sld F.1 F.2.1 hX hbl hZ hS (z := i + 2) (by omega) (by omega) (by omega) ha2 dL_law_232 ?_
  refine lv_i2l F.1 F.2.1 dL_law_233 rfl ?_
  refine lv_topl (fun j19 ej19 => ?_)
  refine lv_ldc2 (v := 4294967295) F.1 F.2.1 F.2.2.2.1 (F.2.2.2.2.1 _ (TBm (tk7 (List.mem_of_getElem? (i := 34) rfl)) rfl)) dL_law_234 ?_
  refine lv_land F.1 F.2.1 dL_law_237 ?_
  refine lv_topl (fun j20 ej20 => ?_)
  refine lv_lor F.1 F.2.1 dL_law_238 ?_
  refine lv_topl (fun j21 ej21 => ?_)
  refine lv_aload_n F.1 F.2.1 dL_law_239 rfl (lv_at hl 1 rfl) ?_
  refine lv_iload F.1 F.2.1 dL_law_240 (lv_at hl 0 rfl) ?_
  refine z_iconst F dL_law_242 ?_
  refine z_iadd F dL_law_243 ?_
  refine l_sld F.1 F.2.1 hX hbl hZ hS (z := i + 3) (by omega) (by omega) (by omega) ha3 dL_law_244 ?_
  refine lv_i2l F.1 F.2.1 dL_law_245 rfl ?_
  refine lv_topl (fun j22 ej22 => ?_)
  refine z_bipush F dL_law_246 (by decide) ?_
  refine lv_lshl F.1 F.2.1 dL_law_248 rfl ?_
  refine lv_topl (fun j23 ej23 => ?_)
  refine lv_aload_n F.1 F.2.1 dL_law_249 rfl (lv_at hl 1 rfl) ?_
  refine lv_iload F.1 F.2.1 dL_law_250 (lv_at hl 0 rfl) ?_
  refine z_iconst F dL_law_252 ?_
  refine z_iadd F dL_law_253 ?_
  refine l_sld F.1 F.2.1 hX hbl hZ hS (z := i + 4) (by omega) (by omega) (by omega) ha4 dL_law_254 ?_
  refine lv_i2l F.1 F.2.1 dL_law_255 rfl ?_
  refine lv_topl (fun j24 ej24 => ?_)
  refine lv_ldc2 (v := 4294967295) F.1 F.2.1 F.2.2.2.1 (F.2.2.2.2.1 _ (TBm (tk7 (List.mem_of_getElem? (i := 34) rfl)) rfl)) dL_law_256 ?_
  refine lv_land F.1 F.2.1 dL_law_259 ?_
  refine lv_topl (fun j25 ej25 => ?_)
  refine lv_lor F.1 F.2.1 dL_law_260 ?_
  refine lv_topl (fun j26 ej26 => ?_)
  refine lv_aload_n F.1 F.2.1 dL_law_261 rfl (lv_at hl 1 rfl) ?_
  refine lv_iload F.1 F.2.1 dL_law_262 (lv_at hl 0 rfl) ?_
  refine z_iconst F dL_law_264 ?_
  refine z_iadd F dL_law_265 ?_
  refine l_sld F.1 F.2.1 hX hbl hZ hS (z := i + 5) (by omega) (by omega) (by omega) ha5 dL_law_266 ?_
  refine lv_i2l F.1 F.2.1 dL_law_267 rfl ?_
  refine lv_topl (fun j27 ej27 => ?_)
  refine z_bipush F dL_law_268 (by decide) ?_
  refine lv_lshl F.1 F.2.1 dL_law_270 rfl ?_
  refine lv_topl (fun j28 ej28 => ?_)
  refine lv_aload_n F.1 F.2.1 dL_law_271 rfl (lv_at hl 1 rfl) ?_
  refine lv_iload F.1 F.2.1 dL_law_272 (lv_at hl 0 rfl) ?_
  refine z_bipush F dL_law_274 (by decide) ?_
  refine z_iadd F dL_law_276 ?_
  refine l_sld F.1 F.2.1 hX hbl hZ hS (z := i + 6) (by omega) (by omega) (by omega) ha6 dL_law_277 ?_
  refine lv_i2l F.1 F.2.1 dL_law_278 rfl ?_
  refine lv_topl (fun j29 ej29 => ?_)
  refine lv_ldc2 (v := 4294967295) F.1 F.2.1 F.2.2.2.1 (F.2.2.2.2.1 _ (TBm (tk7 (List.mem_of_getElem? (i := 34) rfl)) rfl)) dL_law_279 ?_
  refine lv_land F.1 F.2.1 dL_law_282 ?_
  refine lv_topl (fun j30 ej30 => ?_)
  refine lv_lor F.1 F.2.1 dL_law_283 ?_
  refine lv_topl (fun j31 ej31 => ?_)
  refine g_calli (g_runV (As := [.long j21, .long j26, .long j31]) (rest := []) (ci := 7) F hl.1 hH hS hz (c_X7_feedf l (gW g (I1, AI1)) (hGm (gZ g)) I1 R J AI1 AJ AR (gZ g + 205) j21 j26 j31 hmv (l_mo hOK)) (cwV 3 F.2.2.2.2.1 gTB_L_X7_feed rfl rfl rfl hdX7_feed ⟨Nat.le_of_ble_eq_true rfl, Nat.le_of_ble_eq_true rfl⟩) (l_mo hOK) (by decide) rfl rfl rfl (Nat.le_of_ble_eq_true rfl) dL_law_284 ⟨Nat.le_of_succ_le hcs.1, Nat.le_trans (Nat.le_add_right _ _) hcs.2⟩) hS (fun v2 I2 R2 J2 AI2 AJ2 AR2 H locs zv2 hp hH hS => ?_)
  dsimp only at hp
  obtain ⟨rfl, rfl, rfl, rfl, f12, f22, f32, dj2⟩ := hp
  have q0 : j21 = j5 := by rw [ej21, ej20, ej19, ej18, ej17, ej5, ej4, ej3, ej2, ej1]
  have q1 : j26 = j10 := by rw [ej26, ej25, ej24, ej23, ej22, ej10, ej9, ej8, ej7, ej6]
  have q2 : j31 = j15 := by rw [ej31, ej30, ej29, ej28, ej27, ej15, ej14, ej13, ej12, ej11]
  rw [q0, q1, q2] at dj2
  have d2 : fdP mBs j5 j10 j15 (I1 (gZ g + 205) 16).toInt (I2 (gZ g + 205) 16).toInt v2 (AI1 (gZ g + 215)) (AI2 (gZ g + 215)) := dj2
  have f32 : ∀ b, b ≠ gZ g + 215 → AI2 b = AI1 b := f32
  have hE8 : lE8 g I2 AR AI2 pA bA nA := lE_fd hOK (gInv_dn hv) hx hE9 (fun b h0 h5 => (f12 b h5).trans (f11 b h0)) (fun j hj => by rw [f12 (gZ g + 0) (by omega)]; exact f21 j hj) (fun j h6 h7 => by rw [f22 j h6 h7, f11 (gZ g + 205) (by omega)]) (fun b h1 h2 => (f32 b h2).trans (f31 b h1))
  have hE : lInv g I2 R AI2 AR := l_feed2 hOK hQ (l_len0 hv hx) hv1 hmv f11 f31 d1 f12 f22 f32 d2 hE8
  have hH : gH (gW g (I2, AI2)) I2 R J AI2 AJ AR H := gH_W hH
  have F := Fa (I2, AI2)
  refine lv_pop F.1 F.2.1 dL_law_287 rfl ?_
  refine z_goto (tgt := 1068) F dL_law_288 (by decide) ?_
  exact W.widen (Nat.le_add_right _ _) (Nat.le_add_right _ _) (K I2 R J AI2 AJ AR H locs ls hE hH hS (lv_sub hl [0, 1, 2, 3, 4] rfl))

set_option maxHeartbeats 4000000 in
set_option maxRecDepth 100000 in
theorem lc_1 {p : Program} {l : Launch} {e : Env} {s : State} {m : MethodId} {below : List Frame} {meth : Method} {c : Code} {g : gG} {b L : Nat} {xs : Nat → Int32} {i : Int} {cells slots : Nat} (C : lF p l s m c g b L xs) (hi0 : 0 ≤ i) (hi7 : i + 7 ≤ (L : Int)) (hcs : cells + 1 ≤ 601024 ∧ slots + 6 ≤ 7293034) (K : lK p l e s m below meth c g b i cells slots)
    {I : gI} {R : gR} {J : gJ} {AI : gI} {AJ : gJ} {AR : gR} {H : Heap} {locs : List Loc} {ls : Array Slot} (hI : lInv g I R AI AR) (hH : gH (gW g (I, AI)) I R J AI AJ AR H) (hS : va_S (gA g) s.heap H locs) (hl : lv_has ls 7 (lV g b i)) :
    W p l e room_1 s m #[Value.ref b] below meth c H locs cells slots (lw_Z below #[Value.ref b] s) (F0 m 291 ls []) := by
  obtain ⟨Fa, Ta, hOK, hZ, hX, hbl, hL, hst⟩ := C
  have F := Fa (I, AI)
  have hz : gZ g ≤ s.heap.size := Nat.le_of_eq hZ
  obtain ⟨hv, hmv, pA, q, bA, nA, hQ⟩ := hI
  have hx := hQ.1
  have hlen := hQ.2.2.2.1
  have hBq := hQ.2.2.2.2.1
  have hx0 : xS (gW g (I, AI)) (hG0 (gZ g)) R AR (gZ g + 0) pA bA nA := hx
  have h37 : hG0 (gZ g) 42 0 ≠ 1 := by show (0 : Nat) ≠ 1; decide
  have hE9 := hQ.2.2.2.2.2.2
  obtain ⟨nr, tbs8, cc, cl, ⟨q1, rfl, q3⟩, hQ8, hB8⟩ := id hE9
  have hP8 : lP8 g I AR AI pA nr (I pA 2).toInt cc cl := ⟨q1, rfl, q3⟩
  have hnb8 : (I (gZ g + 179) 3).toInt = (((I (gZ g + 179) 3).toInt.toNat : Nat) : Int) := (Int.toNat_of_nonneg hBq.2.1.1).symm
  have hln : (I (gZ g + 0) 1).toInt = (I (gZ g + 205) 16).toInt := hlen.1
  obtain ⟨a1, za1, ha1⟩ := l_val xs (i + 1).toNat
  refine lv_aload_n F.1 F.2.1 dL_law_291 rfl (lv_at hl 2 rfl) ?_
  refine lv_aload_n F.1 F.2.1 dL_law_292 rfl (lv_at hl 1 rfl) ?_
  refine lv_iload F.1 F.2.1 dL_law_293 (lv_at hl 0 rfl) ?_
  refine z_iconst F dL_law_295 ?_
  refine z_iadd F dL_law_296 ?_
  refine l_sld F.1 F.2.1 hX hbl hZ hS (z := i + 1) (by omega) (by omega) (by omega) ha1 dL_law_297 ?_
  refine g_calli (g_runV (As := [.int (iI a1)]) (rest := []) (ci := 6) F hl.1 hH hS hz (c_X6_endg l (gW g (I, AI)) (hG (gZ g)) pA bA nA I R J AI AJ AR (gZ g + 0) a1 za1 hv hx) (cwV 1 F.2.2.2.2.1 gTB_L_X6_end rfl rfl rfl hdX6_end ⟨Nat.le_of_ble_eq_true rfl, Nat.le_of_ble_eq_true rfl⟩) hx.1 (by decide) rfl rfl rfl (Nat.le_of_ble_eq_true rfl) dL_law_298 ⟨Nat.le_of_succ_le hcs.1, Nat.le_trans (Nat.le_add_right _ _) hcs.2⟩) hS (fun v1 I1 R1 J1 AI1 AJ1 AR1 H locs zv1 hp hH hS => ?_)
  dsimp only at hp
  obtain ⟨rfl, rfl, rfl, rfl, rfl, hv1, f11, dj1, fj⟩ := hp
  have hv0 : gInv (gW g (I, AI)) (hG0 (gZ g)) R AR I1 AI := gInv_dn hv1
  have hx1 : xS (gW g (I, AI)) (hG (gZ g)) R AR (gZ g + 0) pA bA nA := hx
  have hmv := l_mid (I1 := I1) (AI1 := AI) hmv hv0 (fun _ _ => rfl)
  have hmo := l_mo1 hOK hv0
  have hkC : kC8 g AR bA I AI I1 AI := kC_x hv0 hx f11 fj
  have hH : gH (gW g (I1, AI)) I1 R J AI AJ AR H := gH_W hH
  have F := Fa (I1, AI)
  refine lv_pop F.1 F.2.1 dL_law_301 rfl ?_
  refine lv_aload_n F.1 F.2.1 dL_law_302 rfl (lv_at hl 3 rfl) ?_
  refine lv_aload_n F.1 F.2.1 dL_law_303 rfl (lv_at hl 1 rfl) ?_
  refine lv_iload F.1 F.2.1 dL_law_304 (lv_at hl 0 rfl) ?_
  refine z_iconst F dL_law_306 ?_
  refine z_iadd F dL_law_307 ?_
  refine l_sld F.1 F.2.1 hX hbl hZ hS (z := i + 1) (by omega) (by omega) (by omega) ha1 dL_law_308 ?_
  refine g_calli (g_runV (As := [.int (iI a1)]) (rest := []) (ci := 7) F hl.1 hH hS hz (c_X7_endg l (gW g (I1, AI)) (hGm (gZ g)) (AI (hGm (gZ g) 50 0)) I1 R J AI AJ AR (gZ g + 205) a1 za1 hmv (l_mo hOK) rfl) (cwV 1 F.2.2.2.2.1 gTB_L_X7_end rfl rfl rfl hdX7_end ⟨Nat.le_of_ble_eq_true rfl, Nat.le_of_ble_eq_true rfl⟩) (l_mo hOK) (by decide) rfl rfl rfl (Nat.le_of_ble_eq_true rfl) dL_law_309 ⟨Nat.le_of_succ_le hcs.1, Nat.le_trans (Nat.le_add_right _ _) hcs.2⟩) hS (fun v2 I2 R2 J2 AI2 AJ2 AR2 H locs zv2 hp hH hS => ?_)
  dsimp only at hp
  obtain ⟨rfl, rfl, rfl, rfl, rfl, hmv2, k214, dj2, h8⟩ := hp
  rw [hmo] at dj2
  have hE8 : lE8 g I2 AR AI pA bA nA := lE_k8 hOK hv0 hx1 hE9 (fun b c hb _ h6 => f11 b (gO_ne hb hx.1 h6)) hkC hmv2 rfl k214.1 (s_all rfl) h8 (lB_m hOK hv1 hmv2)
  have hE : lInv g I2 R AI AR := l_end hOK hQ hv0 hx1 hQ.2.1 (fun b c hb _ h6 => f11 b (gO_ne hb hx.1 h6)) hmv2 rfl k214.1 (by omega) (by omega) (l_bk hOK hBq hv1 hmv2 k214.2) hE8
  have hH : gH (gW g (I2, AI)) I2 R J AI AJ AR H := gH_W hH
  have F := Fa (I2, AI)
  refine lv_pop F.1 F.2.1 dL_law_312 rfl ?_
  refine z_goto (tgt := 1068) F dL_law_313 (by decide) ?_
  exact W.widen (Nat.le_add_right _ _) (Nat.le_add_right _ _) (K I2 R J AI AJ AR H locs ls hE hH hS (lv_sub hl [0, 1, 2, 3, 4] rfl))

set_option maxHeartbeats 4000000 in
set_option maxRecDepth 100000 in
theorem lc_2 {p : Program} {l : Launch} {e : Env} {s : State} {m : MethodId} {below : List Frame} {meth : Method} {c : Code} {g : gG} {b L : Nat} {xs : Nat → Int32} {i : Int} {cells slots : Nat} (C : lF p l s m c g b L xs) (hi0 : 0 ≤ i) (hi7 : i + 7 ≤ (L : Int)) (hcs : cells + 1 ≤ 601024 ∧ slots + 6 ≤ 7293034) (K : lK p l e s m below meth c g b i cells slots)
    {I : gI} {R : gR} {J : gJ} {AI : gI} {AJ : gJ} {AR : gR} {H : Heap} {locs : List Loc} {ls : Array Slot} (hI : lInv g I R AI AR) (hH : gH (gW g (I, AI)) I R J AI AJ AR H) (hS : va_S (gA g) s.heap H locs) (hl : lv_has ls 7 (lV g b i)) :
    W p l e room_1 s m #[Value.ref b] below meth c H locs cells slots (lw_Z below #[Value.ref b] s) (F0 m 316 ls []) := by
  obtain ⟨Fa, Ta, hOK, hZ, hX, hbl, hL, hst⟩ := C
  have F := Fa (I, AI)
  have hz : gZ g ≤ s.heap.size := Nat.le_of_eq hZ
  obtain ⟨hv, hmv, pA, q, bA, nA, hQ⟩ := hI
  have hx := hQ.1
  have hlen := hQ.2.2.2.1
  have hBq := hQ.2.2.2.2.1
  have hx0 : xS (gW g (I, AI)) (hG0 (gZ g)) R AR (gZ g + 0) pA bA nA := hx
  have h37 : hG0 (gZ g) 42 0 ≠ 1 := by show (0 : Nat) ≠ 1; decide
  have hE9 := hQ.2.2.2.2.2.2
  obtain ⟨nr, tbs8, cc, cl, ⟨q1, rfl, q3⟩, hQ8, hB8⟩ := id hE9
  have hP8 : lP8 g I AR AI pA nr (I pA 2).toInt cc cl := ⟨q1, rfl, q3⟩
  have hnb8 : (I (gZ g + 179) 3).toInt = (((I (gZ g + 179) 3).toInt.toNat : Nat) : Int) := (Int.toNat_of_nonneg hBq.2.1.1).symm
  have hln : (I (gZ g + 0) 1).toInt = (I (gZ g + 205) 16).toInt := hlen.1
  refine lv_aload_n F.1 F.2.1 dL_law_316 rfl (lv_at hl 2 rfl) ?_
  refine g_calli (g_runV (As := []) (rest := []) (ci := 6) F hl.1 hH hS hz (c_X6_plang l (gW g (I, AI)) (hG0 (gZ g)) pA bA nA (lTx g AI) (I (gZ g + 0) 1).toInt.toNat q I R J AI AJ AR (gZ g + 0) (gInv_dn hv) hx0 h37 (fun _ => rfl) hlen.2.2 (Int.toNat_of_nonneg (l_len0 hv hx)).symm hQ.2.1 hQ.2.2.1 ⟨rfl, rfl⟩) (cwV 0 F.2.2.2.2.1 gTB_L_X6_plan rfl rfl rfl hdX6_plan ⟨Nat.le_of_ble_eq_true rfl, Nat.le_of_ble_eq_true rfl⟩) hx.1 (by decide) rfl rfl rfl (Nat.le_of_ble_eq_true rfl) dL_law_317 ⟨Nat.le_of_succ_le hcs.1, Nat.le_trans (Nat.le_add_right _ _) hcs.2⟩) hS (fun v1 I1 R1 J1 AI1 AJ1 AR1 H locs zv1 hp hH hS => ?_)
  dsimp only at hp
  obtain ⟨rfl, hv1, ⟨p1, b1, n1, hx1⟩, e01, e7, zz1, pl1, pc1⟩ := hp
  have hv0 : gInv (gW g (I, AI)) (hG0 (gZ g)) R1 AR I1 AI1 := hv1
  have hmv := l_mid (I1 := I1) (AI1 := AI1) hmv hv0 e7
  have hmo := l_mo1 hOK hv0
  have hH : gH (gW g (I1, AI1)) I1 R1 J1 AI1 AJ1 AR H := gH_W hH
  have F := Fa (I1, AI1)
  refine lv_pop F.1 F.2.1 dL_law_320 rfl ?_
  refine lv_aload_n F.1 F.2.1 dL_law_321 rfl (lv_at hl 3 rfl) ?_
  refine g_calli (g_runV (As := []) (rest := []) (ci := 7) F hl.1 hH hS hz (c_X7_plang l (gW g (I1, AI1)) (hGm (gZ g)) (AI1 (hGm (gZ g) 50 0)) (lTx g AI) (I (gZ g + 0) 1).toInt.toNat I1 R1 J1 AI1 AJ1 AR (gZ g + 205) hmv (l_mo hOK) rfl (show hGm (gZ g) 9 (gZ g + 215) ≠ 5 from hGm_o rfl (by decide)) (lTx_m hlen (l_t5 hv1 (o := 215) (by decide +kernel))) hlen.2.2 (by rw [hmo, ← hln]; exact (Int.toNat_of_nonneg (l_len0 hv hx)).symm)) (cwV 0 F.2.2.2.2.1 gTB_L_X7_plan rfl rfl rfl hdX7_plan ⟨Nat.le_of_ble_eq_true rfl, Nat.le_of_ble_eq_true rfl⟩) (l_mo hOK) (by decide) rfl rfl rfl (Nat.le_of_ble_eq_true rfl) dL_law_322 ⟨Nat.le_of_succ_le hcs.1, Nat.le_trans (Nat.le_add_right _ _) hcs.2⟩) hS (fun v2 I2 R2 J2 AI2 AJ2 AR2 H locs zv2 hp hH hS => ?_)
  dsimp only at hp
  obtain ⟨rfl, rfl, hmv2, e02, zz2, pl2, pn2, pk2⟩ := hp
  have evv : v2 = v1 := zz2.trans zz1.symm
  rw [evv] at pl2 pn2
  have hPB := lE_plb hOK hQ hv0 pl1 pc1 hmv2 pl2 pn2 pk2
  have hE : lInv g I2 R1 AI2 AR := l_plan hOK hQ hv0 e01 pl1 hmv2 e02 pl2 (l_len0 hv hx) (l_qO hOK hv hQ.2.1) hPB.1 hPB.2
  have hH : gH (gW g (I2, AI2)) I2 R1 J2 AI2 AJ2 AR H := gH_W hH
  have F := Fa (I2, AI2)
  refine lv_pop F.1 F.2.1 dL_law_325 rfl ?_
  refine z_goto (tgt := 1068) F dL_law_326 (by decide) ?_
  exact W.widen (Nat.le_add_right _ _) (Nat.le_add_right _ _) (K I2 R1 J2 AI2 AJ2 AR H locs ls hE hH hS (lv_sub hl [0, 1, 2, 3, 4] rfl))

set_option maxHeartbeats 4000000 in
set_option maxRecDepth 100000 in
theorem lc_3 {p : Program} {l : Launch} {e : Env} {s : State} {m : MethodId} {below : List Frame} {meth : Method} {c : Code} {g : gG} {b L : Nat} {xs : Nat → Int32} {i : Int} {cells slots : Nat} (C : lF p l s m c g b L xs) (hi0 : 0 ≤ i) (hi7 : i + 7 ≤ (L : Int)) (hcs : cells + 1 ≤ 601024 ∧ slots + 6 ≤ 7293034) (K : lK p l e s m below meth c g b i cells slots)
    {I : gI} {R : gR} {J : gJ} {AI : gI} {AJ : gJ} {AR : gR} {H : Heap} {locs : List Loc} {ls : Array Slot} (hI : lInv g I R AI AR) (hH : gH (gW g (I, AI)) I R J AI AJ AR H) (hS : va_S (gA g) s.heap H locs) (hl : lv_has ls 7 (lV g b i)) :
    W p l e room_1 s m #[Value.ref b] below meth c H locs cells slots (lw_Z below #[Value.ref b] s) (F0 m 329 ls []) := by
  obtain ⟨Fa, Ta, hOK, hZ, hX, hbl, hL, hst⟩ := C
  have F := Fa (I, AI)
  have hz : gZ g ≤ s.heap.size := Nat.le_of_eq hZ
  obtain ⟨hv, hmv, pA, q, bA, nA, hQ⟩ := hI
  have hx := hQ.1
  have hlen := hQ.2.2.2.1
  obtain ⟨nrp, tbp, clp, pe1, pe2, pe3, pe4, pe5⟩ := id hQ.2.2.2.2.2.1
  have hBq := hQ.2.2.2.2.1
  have hx0 : xS (gW g (I, AI)) (hG0 (gZ g)) R AR (gZ g + 0) pA bA nA := hx
  have h37 : hG0 (gZ g) 42 0 ≠ 1 := by show (0 : Nat) ≠ 1; decide
  have hE9 := hQ.2.2.2.2.2.2
  obtain ⟨nr, tbs8, cc, cl, ⟨q1, rfl, q3⟩, hQ8, hB8⟩ := id hE9
  have hP8 : lP8 g I AR AI pA nr (I pA 2).toInt cc cl := ⟨q1, rfl, q3⟩
  have hnb8 : (I (gZ g + 179) 3).toInt = (((I (gZ g + 179) 3).toInt.toNat : Nat) : Int) := (Int.toNat_of_nonneg hBq.2.1.1).symm
  have hln : (I (gZ g + 0) 1).toInt = (I (gZ g + 205) 16).toInt := hlen.1
  obtain ⟨a1, za1, ha1⟩ := l_val xs (i + 1).toNat
  obtain ⟨a2, za2, ha2⟩ := l_val xs (i + 2).toNat
  obtain ⟨a3, za3, ha3⟩ := l_val xs (i + 3).toNat
  obtain ⟨a4, za4, ha4⟩ := l_val xs (i + 4).toNat
  obtain ⟨a5, za5, ha5⟩ := l_val xs (i + 5).toNat
  obtain ⟨a6, za6, ha6⟩ := l_val xs (i + 6).toNat
  refine lv_aload_n F.1 F.2.1 dL_law_329 rfl (lv_at hl 2 rfl) ?_
  refine lv_aload_n F.1 F.2.1 dL_law_330 rfl (lv_at hl 1 rfl) ?_
  refine lv_iload F.1 F.2.1 dL_law_331 (lv_at hl 0 rfl) ?_
  refine z_iconst F dL_law_333 ?_
  refine z_iadd F dL_law_334 ?_
  refine l_sld F.1 F.2.1 hX hbl hZ hS (z := i + 1) (by omega) (by omega) (by omega) ha1 dL_law_335 ?_
  refine lv_aload_n F.1 F.2.1 dL_law_336 rfl (lv_at hl 1 rfl) ?_
  refine lv_iload F.1 F.2.1 dL_law_337 (lv_at hl 0 rfl) ?_
  refine z_iconst F dL_law_339 ?_
  refine z_iadd F dL_law_340 ?_
  refine l_sld F.1 F.2.1 hX hbl hZ hS (z := i + 2) (by omega) (by omega) (by omega) ha2 dL_law_341 ?_
  refine lv_aload_n F.1 F.2.1 dL_law_342 rfl (lv_at hl 1 rfl) ?_
  refine lv_iload F.1 F.2.1 dL_law_343 (lv_at hl 0 rfl) ?_
  refine z_iconst F dL_law_345 ?_
  refine z_iadd F dL_law_346 ?_
  refine l_sld F.1 F.2.1 hX hbl hZ hS (z := i + 3) (by omega) (by omega) (by omega) ha3 dL_law_347 ?_
  refine lv_aload_n F.1 F.2.1 dL_law_348 rfl (lv_at hl 1 rfl) ?_
  refine lv_iload F.1 F.2.1 dL_law_349 (lv_at hl 0 rfl) ?_
  refine z_iconst F dL_law_351 ?_
  refine z_iadd F dL_law_352 ?_
  refine l_sld F.1 F.2.1 hX hbl hZ hS (z := i + 4) (by omega) (by omega) (by omega) ha4 dL_law_353 ?_
  refine lv_aload_n F.1 F.2.1 dL_law_354 rfl (lv_at hl 1 rfl) ?_
  refine lv_iload F.1 F.2.1 dL_law_355 (lv_at hl 0 rfl) ?_
  refine z_iconst F dL_law_357 ?_
  refine z_iadd F dL_law_358 ?_
  refine l_sld F.1 F.2.1 hX hbl hZ hS (z := i + 5) (by omega) (by omega) (by omega) ha5 dL_law_359 ?_
  refine lv_aload_n F.1 F.2.1 dL_law_360 rfl (lv_at hl 1 rfl) ?_
  refine lv_iload F.1 F.2.1 dL_law_361 (lv_at hl 0 rfl) ?_
  refine z_bipush F dL_law_363 (by decide) ?_
  refine z_iadd F dL_law_365 ?_
  refine l_sld F.1 F.2.1 hX hbl hZ hS (z := i + 6) (by omega) (by omega) (by omega) ha6 dL_law_366 ?_
  refine g_calli (g_runV (As := [.int (iI a1), .int (iI a2), .int (iI a3), .int (iI a4), .int (iI a5), .int (iI a6)]) (rest := []) (ci := 6) F hl.1 hH hS hz (c_X6_changef l (gW g (I, AI)) (hG0 (gZ g)) pA bA nA (clp a1.toNat) I R J AI AJ AR (gZ g + 0) a1 a2 a3 a4 a5 a6 za1 za2 za3 za4 za5 za6 (gInv_dn hv) hx0 h37 (fun h0 h1 y hy => pe4 a1.toNat (by omega) y hy)) (cwV 6 F.2.2.2.2.1 gTB_L_X6_change rfl rfl rfl hdX6_change ⟨Nat.le_of_ble_eq_true rfl, Nat.le_of_ble_eq_true rfl⟩) hx.1 (by decide) rfl rfl rfl (Nat.le_of_ble_eq_true rfl) dL_law_367 ⟨Nat.le_of_succ_le hcs.1, Nat.le_trans (Nat.le_add_right _ _) hcs.2⟩) hS (fun v1 I1 R1 J1 AI1 AJ1 AR1 H locs zv1 hp hH hS => ?_)
  dsimp only at hp
  obtain ⟨rfl, rfl, rfl, rfl, hv1, rf, f11, f31, cp1⟩ := hp
  have hv0 : gInv (gW g (I, AI)) (hG0 (gZ g)) R AR I1 AI1 := hv1
  have hx1 : xS (gW g (I, AI)) (hG (gZ g)) R AR (gZ g + 0) pA bA nA := hx
  have hmv := l_mid (I1 := I1) (AI1 := AI1) hmv hv0 (fun _ _ => rfl)
  have hmo := l_mo1 hOK hv0
  have f11 : ∀ b, b ≠ gZ g + 179 → I1 b = I b := f11
  have f31 : ∀ b, b ≠ gZ g + 187 → b ≠ gZ g + 180 → AI1 b = AI b := f31
  have cp1 : chP (I pA 2).toInt a1 a6 v1 (I (gZ g + 179) 3).toInt (I1 (gZ g + 179) 3).toInt (AI (gZ g + 180)) (AI1 (gZ g + 180)) (cky a1 a2 a3 a4 a5 (clp a1.toNat)) := cp1
  have hH : gH (gW g (I1, AI1)) I1 R J AI1 AJ AR H := gH_W hH
  have F := Fa (I1, AI1)
  refine lv_pop F.1 F.2.1 dL_law_370 rfl ?_
  refine lv_aload_n F.1 F.2.1 dL_law_371 rfl (lv_at hl 3 rfl) ?_
  refine lv_aload_n F.1 F.2.1 dL_law_372 rfl (lv_at hl 1 rfl) ?_
  refine lv_iload F.1 F.2.1 dL_law_373 (lv_at hl 0 rfl) ?_
  refine z_iconst F dL_law_375 ?_
  refine z_iadd F dL_law_376 ?_
  refine l_sld F.1 F.2.1 hX hbl hZ hS (z := i + 1) (by omega) (by omega) (by omega) ha1 dL_law_377 ?_
  refine lv_aload_n F.1 F.2.1 dL_law_378 rfl (lv_at hl 1 rfl) ?_
  refine lv_iload F.1 F.2.1 dL_law_379 (lv_at hl 0 rfl) ?_
  refine z_iconst F dL_law_381 ?_
  refine z_iadd F dL_law_382 ?_
  refine l_sld F.1 F.2.1 hX hbl hZ hS (z := i + 2) (by omega) (by omega) (by omega) ha2 dL_law_383 ?_
  refine lv_aload_n F.1 F.2.1 dL_law_384 rfl (lv_at hl 1 rfl) ?_
  refine lv_iload F.1 F.2.1 dL_law_385 (lv_at hl 0 rfl) ?_
  refine z_iconst F dL_law_387 ?_
  refine z_iadd F dL_law_388 ?_
  refine l_sld F.1 F.2.1 hX hbl hZ hS (z := i + 3) (by omega) (by omega) (by omega) ha3 dL_law_389 ?_
  refine lv_aload_n F.1 F.2.1 dL_law_390 rfl (lv_at hl 1 rfl) ?_
  refine lv_iload F.1 F.2.1 dL_law_391 (lv_at hl 0 rfl) ?_
  refine z_iconst F dL_law_393 ?_
  refine z_iadd F dL_law_394 ?_
  refine l_sld F.1 F.2.1 hX hbl hZ hS (z := i + 4) (by omega) (by omega) (by omega) ha4 dL_law_395 ?_
  refine lv_aload_n F.1 F.2.1 dL_law_396 rfl (lv_at hl 1 rfl) ?_
  refine lv_iload F.1 F.2.1 dL_law_397 (lv_at hl 0 rfl) ?_
  refine z_iconst F dL_law_399 ?_
  refine z_iadd F dL_law_400 ?_
  refine l_sld F.1 F.2.1 hX hbl hZ hS (z := i + 5) (by omega) (by omega) (by omega) ha5 dL_law_401 ?_
  refine lv_aload_n F.1 F.2.1 dL_law_402 rfl (lv_at hl 1 rfl) ?_
  refine lv_iload F.1 F.2.1 dL_law_403 (lv_at hl 0 rfl) ?_
  refine z_bipush F dL_law_405 (by decide) ?_
  refine z_iadd F dL_law_407 ?_
  refine l_sld F.1 F.2.1 hX hbl hZ hS (z := i + 6) (by omega) (by omega) (by omega) ha6 dL_law_408 ?_
  refine g_calli (g_runV (As := [.int (iI a1), .int (iI a2), .int (iI a3), .int (iI a4), .int (iI a5), .int (iI a6)]) (rest := []) (ci := 7) F hl.1 hH hS hz (c_X7_changeg l (gW g (I1, AI1)) (hGc (gZ g)) (AI1 (hGc (gZ g) 50 0)) I1 R J AI1 AJ AR (gZ g + 205) a1 a2 a3 a4 a5 a6 za1 za2 za3 za4 za5 za6 (l_mc hmv) (l_mo hOK) rfl (l_h6 (o := 212) (by decide) (by decide +kernel)) (l_h6 (o := 213) (by decide) (by decide +kernel)) (l_h6 (o := 214) (by decide) (by decide +kernel))) (cwV 6 F.2.2.2.2.1 gTB_L_X7_change rfl rfl rfl hdX7_change ⟨Nat.le_of_ble_eq_true rfl, Nat.le_of_ble_eq_true rfl⟩) (l_mo hOK) (by decide) rfl rfl rfl (Nat.le_of_ble_eq_true rfl) dL_law_409 ⟨Nat.le_of_succ_le hcs.1, Nat.le_trans (Nat.le_add_right _ _) hcs.2⟩) hS (fun v2 I2 R2 J2 AI2 AJ2 AR2 H locs zv2 hp hH hS => ?_)
  dsimp only at hp
  obtain ⟨rfl, rfl, rfl, rfl, hmv2, ht2, mf, cp2, h8, f32⟩ := hp
  have hEE : v1 = v2 ∧ lInv g I2 R AI2 AR := l_chg hOK hQ pe1 pe2 pe3 pe5 hv0 f11 f31 cp1 hmv2 ht2 mf cp2 (lE_chg hOK (gInv_dn hv) hQ (by rw [pe1]; exact pe5) pe3.2 hv0 f11 f31 cp1 hmv2 ht2 mf h8 f32)
  obtain ⟨evv, hE⟩ := hEE
  have hH : gH (gW g (I2, AI2)) I2 R J AI2 AJ AR H := gH_W hH
  have F := Fa (I2, AI2)
  refine lv_pop F.1 F.2.1 dL_law_412 rfl ?_
  refine z_goto (tgt := 1068) F dL_law_413 (by decide) ?_
  exact W.widen (Nat.le_add_right _ _) (Nat.le_add_right _ _) (K I2 R J AI2 AJ AR H locs ls hE hH hS (lv_sub hl [0, 1, 2, 3, 4] rfl))

set_option maxHeartbeats 4000000 in
set_option maxRecDepth 100000 in
theorem lc_4 {p : Program} {l : Launch} {e : Env} {s : State} {m : MethodId} {below : List Frame} {meth : Method} {c : Code} {g : gG} {b L : Nat} {xs : Nat → Int32} {i : Int} {cells slots : Nat} (C : lF p l s m c g b L xs) (hi0 : 0 ≤ i) (hi7 : i + 7 ≤ (L : Int)) (hcs : cells + 1 ≤ 601024 ∧ slots + 6 ≤ 7293034) (K : lK p l e s m below meth c g b i cells slots)
    {I : gI} {R : gR} {J : gJ} {AI : gI} {AJ : gJ} {AR : gR} {H : Heap} {locs : List Loc} {ls : Array Slot} (hI : lInv g I R AI AR) (hH : gH (gW g (I, AI)) I R J AI AJ AR H) (hS : va_S (gA g) s.heap H locs) (hl : lv_has ls 7 (lV g b i)) :
    W p l e room_1 s m #[Value.ref b] below meth c H locs cells slots (lw_Z below #[Value.ref b] s) (F0 m 416 ls []) := by
  obtain ⟨Fa, Ta, hOK, hZ, hX, hbl, hL, hst⟩ := C
  have F := Fa (I, AI)
  have hz : gZ g ≤ s.heap.size := Nat.le_of_eq hZ
  obtain ⟨hv, hmv, pA, q, bA, nA, hQ⟩ := hI
  have hx := hQ.1
  have hlen := hQ.2.2.2.1
  have hBq := hQ.2.2.2.2.1
  have hx0 : xS (gW g (I, AI)) (hG0 (gZ g)) R AR (gZ g + 0) pA bA nA := hx
  have h37 : hG0 (gZ g) 42 0 ≠ 1 := by show (0 : Nat) ≠ 1; decide
  have hE9 := hQ.2.2.2.2.2.2
  obtain ⟨nr, tbs8, cc, cl, ⟨q1, rfl, q3⟩, hQ8, hB8⟩ := id hE9
  have hP8 : lP8 g I AR AI pA nr (I pA 2).toInt cc cl := ⟨q1, rfl, q3⟩
  have hnb8 : (I (gZ g + 179) 3).toInt = (((I (gZ g + 179) 3).toInt.toNat : Nat) : Int) := (Int.toNat_of_nonneg hBq.2.1.1).symm
  have hln : (I (gZ g + 0) 1).toInt = (I (gZ g + 205) 16).toInt := hlen.1
  obtain ⟨a1, za1, ha1⟩ := l_val xs (i + 1).toNat
  obtain ⟨a2, za2, ha2⟩ := l_val xs (i + 2).toNat
  refine lv_aload_n F.1 F.2.1 dL_law_416 rfl (lv_at hl 2 rfl) ?_
  refine lv_aload_n F.1 F.2.1 dL_law_417 rfl (lv_at hl 1 rfl) ?_
  refine lv_iload F.1 F.2.1 dL_law_418 (lv_at hl 0 rfl) ?_
  refine z_iconst F dL_law_420 ?_
  refine z_iadd F dL_law_421 ?_
  refine l_sld F.1 F.2.1 hX hbl hZ hS (z := i + 1) (by omega) (by omega) (by omega) ha1 dL_law_422 ?_
  refine lv_aload_n F.1 F.2.1 dL_law_423 rfl (lv_at hl 1 rfl) ?_
  refine lv_iload F.1 F.2.1 dL_law_424 (lv_at hl 0 rfl) ?_
  refine z_iconst F dL_law_426 ?_
  refine z_iadd F dL_law_427 ?_
  refine l_sld F.1 F.2.1 hX hbl hZ hS (z := i + 2) (by omega) (by omega) (by omega) ha2 dL_law_428 ?_
  refine lv_aload_n F.1 F.2.1 dL_law_429 rfl (lv_at hl 4 rfl) ?_
  refine g_calliX (g_runSXW (As := [.ref (gZ g + 0), .int (iI a1), .int (iI a2), .ref (gZ g + 222)]) (rest := []) F (Ta (I, AI)) hl.1 hH hS hz (c_L_pending l (gW g (I, AI)) (hG (gZ g)) pA bA nA I R J AI AJ AR (gZ g + 0) a1 a2 (gZ g + 222) za1 za2 hv hx (l_ou hOK) hst) (vx_cwSW 4 F.2.2.2.2.1 gTB_L_L_pending rfl rfl rfl hdL_pending.2 ⟨Nat.le_of_ble_eq_true rfl, Nat.le_of_ble_eq_true rfl⟩) rfl rfl (Nat.le_of_ble_eq_true rfl) dL_law_430 ⟨hcs.1, hcs.2⟩) hS (fun ce9 q9 I9 R9 J9 AI9 AJ9 AR9 H9 locs9 hp _ _ _ _ _ => False.elim hp) (fun v1 I1 R1 J1 AI1 AJ1 AR1 H locs zv1 hp hH hS => ?_)
  dsimp only at hp
  obtain ⟨rfl, rfl, rfl, rfl, rfl, hv1, an1⟩ := hp
  have hv0 : gInv (gW g (I, AI)) (hG0 (gZ g)) R AR I AI := gInv_dn hv1
  have hx1 : xS (gW g (I, AI)) (hG (gZ g)) R AR (gZ g + 0) pA bA nA := hx
  have hmv := l_mid (I1 := I) (AI1 := AI) hmv hv0 (fun _ _ => rfl)
  have hmo := l_mo1 hOK hv0
  have e6 : I (gZ g + 0) 1 = I (gZ g + 0) 1 := rfl
  have hkC : kC8 g AR bA I AI I AI := kC_r
  have hH : gH (gW g (I, AI)) I R J AI AJ1 AR H := gH_W hH
  have F := Fa (I, AI)
  refine lv_istore (lv' := [(5, .int (iI v1)), (4, .int (iI i)), (0, .ref b), (1, .ref (gZ g + 0)), (2, .ref (gZ g + 205)), (3, .ref (gZ g + 222))]) F.1 F.2.1 dL_law_433 hl (by decide) rfl (fun ls hl => ?_)
  refine lv_aload_n F.1 F.2.1 dL_law_435 rfl (lv_at hl 4 rfl) ?_
  refine lv_aload_n F.1 F.2.1 dL_law_436 rfl (lv_at hl 2 rfl) ?_
  refine lv_iload F.1 F.2.1 dL_law_437 (lv_at hl 1 rfl) ?_
  refine z_iconst F dL_law_439 ?_
  refine z_iadd F dL_law_440 ?_
  refine l_sld F.1 F.2.1 hX hbl hZ hS (z := i + 1) (by omega) (by omega) (by omega) ha1 dL_law_441 ?_
  refine lv_aload_n F.1 F.2.1 dL_law_442 rfl (lv_at hl 2 rfl) ?_
  refine lv_iload F.1 F.2.1 dL_law_443 (lv_at hl 1 rfl) ?_
  refine z_iconst F dL_law_445 ?_
  refine z_iadd F dL_law_446 ?_
  refine l_sld F.1 F.2.1 hX hbl hZ hS (z := i + 2) (by omega) (by omega) (by omega) ha2 dL_law_447 ?_
  refine g_calli (g_runV (As := [.int (iI a1), .int (iI a2)]) (rest := []) (ci := 7) F hl.1 hH hS hz (c_X7_pendingg l (gW g (I, AI)) (hGm (gZ g)) (AI (hGm (gZ g) 50 0)) I R J AI AJ1 AR (gZ g + 205) a1 a2 za1 za2 hmv (l_mo hOK) rfl) (cwV 2 F.2.2.2.2.1 gTB_L_X7_pending rfl rfl rfl hdX7_pending ⟨Nat.le_of_ble_eq_true rfl, Nat.le_of_ble_eq_true rfl⟩) (l_mo hOK) (by decide) rfl rfl rfl (Nat.le_of_ble_eq_true rfl) dL_law_448 ⟨hcs.1, hcs.2⟩) hS (fun v2 I2 R2 J2 AI2 AJ2 AR2 H locs zv2 hp hH hS => ?_)
  dsimp only at hp
  obtain ⟨rfl, rfl, rfl, rfl, rfl, hmv2, mf, h8⟩ := hp
  have hE8 : lE8 g I2 AR AI pA bA nA := lE_k8 hOK hv0 hx1 hE9 (fun _ _ _ _ _ => rfl) hkC hmv2 rfl (by rw [mf 2 (by decide) (by decide) (by decide) (by decide) (by decide)]) (s_all rfl) h8 (lB_m hOK hv1 hmv2)
  have hE : lInv g I2 R AI AR := l_end hOK hQ hv0 hx1 hQ.2.1 (fun _ _ _ _ _ => rfl) hmv2 rfl (by rw [mf 2 (by decide) (by decide) (by decide) (by decide) (by decide)]) (by rw [e6, mf 16 (by decide) (by decide) (by decide) (by decide) (by decide), hmo]; exact hln) (by rw [e6]; exact Int.le_refl _) (l_bk hOK hBq hv1 hmv2 (by rw [mf 14 (by decide) (by decide) (by decide) (by decide) (by decide)])) hE8
  have hH : gH (gW g (I2, AI)) I2 R J AI AJ1 AR H := gH_W hH
  have F := Fa (I2, AI)
  refine lv_istore (lv' := [(6, .int (iI v2)), (5, .int (iI v1)), (4, .int (iI i)), (0, .ref b), (1, .ref (gZ g + 0)), (2, .ref (gZ g + 205)), (3, .ref (gZ g + 222))]) F.1 F.2.1 dL_law_451 hl (by decide) rfl (fun ls hl => ?_)
  refine z_goto (tgt := 1068) F dL_law_453 (by decide) ?_
  exact K I2 R J AI AJ1 AR H locs ls hE hH hS (lv_sub hl [2, 3, 4, 5, 6] rfl)

set_option maxHeartbeats 4000000 in
set_option maxRecDepth 100000 in
theorem lc_5 {p : Program} {l : Launch} {e : Env} {s : State} {m : MethodId} {below : List Frame} {meth : Method} {c : Code} {g : gG} {b L : Nat} {xs : Nat → Int32} {i : Int} {cells slots : Nat} (C : lF p l s m c g b L xs) (hi0 : 0 ≤ i) (hi7 : i + 7 ≤ (L : Int)) (hcs : cells + 1 ≤ 601024 ∧ slots + 6 ≤ 7293034) (K : lK p l e s m below meth c g b i cells slots)
    {I : gI} {R : gR} {J : gJ} {AI : gI} {AJ : gJ} {AR : gR} {H : Heap} {locs : List Loc} {ls : Array Slot} (hI : lInv g I R AI AR) (hH : gH (gW g (I, AI)) I R J AI AJ AR H) (hS : va_S (gA g) s.heap H locs) (hl : lv_has ls 7 (lV g b i)) :
    W p l e room_1 s m #[Value.ref b] below meth c H locs cells slots (lw_Z below #[Value.ref b] s) (F0 m 456 ls []) := by
  obtain ⟨Fa, Ta, hOK, hZ, hX, hbl, hL, hst⟩ := C
  have F := Fa (I, AI)
  have hz : gZ g ≤ s.heap.size := Nat.le_of_eq hZ
  obtain ⟨hv, hmv, pA, q, bA, nA, hQ⟩ := hI
  have hx := hQ.1
  have hlen := hQ.2.2.2.1
  have hBq := hQ.2.2.2.2.1
  have hx0 : xS (gW g (I, AI)) (hG0 (gZ g)) R AR (gZ g + 0) pA bA nA := hx
  have h37 : hG0 (gZ g) 42 0 ≠ 1 := by show (0 : Nat) ≠ 1; decide
  have hE9 := hQ.2.2.2.2.2.2
  obtain ⟨nr, tbs8, cc, cl, ⟨q1, rfl, q3⟩, hQ8, hB8⟩ := id hE9
  have hP8 : lP8 g I AR AI pA nr (I pA 2).toInt cc cl := ⟨q1, rfl, q3⟩
  have hnb8 : (I (gZ g + 179) 3).toInt = (((I (gZ g + 179) 3).toInt.toNat : Nat) : Int) := (Int.toNat_of_nonneg hBq.2.1.1).symm
  have hln : (I (gZ g + 0) 1).toInt = (I (gZ g + 205) 16).toInt := hlen.1
  refine lv_aload_n F.1 F.2.1 dL_law_456 rfl (lv_at hl 2 rfl) ?_
  refine g_calli (g_runV (As := []) (rest := []) (ci := 6) F hl.1 hH hS hz (c_X6_cancelg l (gW g (I, AI)) (hG0 (gZ g)) pA bA nA I R J AI AJ AR (gZ g + 0) (gInv_dn hv) hx0 h37) (cwV 0 F.2.2.2.2.1 gTB_L_X6_cancel rfl rfl rfl hdX6_cancel ⟨Nat.le_of_ble_eq_true rfl, Nat.le_of_ble_eq_true rfl⟩) hx.1 (by decide) rfl rfl rfl (Nat.le_of_ble_eq_true rfl) dL_law_457 ⟨Nat.le_of_succ_le hcs.1, Nat.le_trans (Nat.le_add_right _ _) hcs.2⟩) hS (fun v1 I1 R1 J1 AI1 AJ1 AR1 H locs zv1 hp hH hS => ?_)
  dsimp only at hp
  obtain ⟨rfl, rfl, rfl, rfl, rfl, hv1, rf, zz1, b0, f11⟩ := hp
  have hv0 : gInv (gW g (I, AI)) (hG0 (gZ g)) R AR I1 AI := hv1
  have hx1 : xS (gW g (I, AI)) (hG (gZ g)) R AR (gZ g + 0) pA bA nA := hx
  have hmv := l_mid (I1 := I1) (AI1 := AI) hmv hv0 (fun _ _ => rfl)
  have hmo := l_mo1 hOK hv0
  have e6 : I1 (gZ g + 0) 1 = I (gZ g + 0) 1 := (congrFun (rf _ 6 hx.1 (by decide)) 1)
  have b0 : (I1 (gZ g + 179) 3).toInt = 0 := b0
  have zz1 : v1 = (I (gZ g + 179) 3).toInt := zz1
  have hb1 := hBq.1
  have hkC : kC8 g AR bA I AI I1 AI := kC_37 hv0 hx hQ8.2.2.2.1 (l_fz hOK).1 f11 (fun _ _ _ => rfl)
  have hH : gH (gW g (I1, AI)) I1 R J AI AJ AR H := gH_W hH
  have F := Fa (I1, AI)
  refine lv_pop F.1 F.2.1 dL_law_460 rfl ?_
  refine lv_aload_n F.1 F.2.1 dL_law_461 rfl (lv_at hl 3 rfl) ?_
  refine g_calli (g_runV (As := []) (rest := []) (ci := 7) F hl.1 hH hS hz (c_X7_cancelg l (gW g (I1, AI)) (hGm (gZ g)) (AI (hGm (gZ g) 50 0)) I1 R J AI AJ AR (gZ g + 205) hmv (l_mo hOK) rfl) (cwV 0 F.2.2.2.2.1 gTB_L_X7_cancel rfl rfl rfl hdX7_cancel ⟨Nat.le_of_ble_eq_true rfl, Nat.le_of_ble_eq_true rfl⟩) (l_mo hOK) (by decide) rfl rfl rfl (Nat.le_of_ble_eq_true rfl) dL_law_462 ⟨Nat.le_of_succ_le hcs.1, Nat.le_trans (Nat.le_add_right _ _) hcs.2⟩) hS (fun v2 I2 R2 J2 AI2 AJ2 AR2 H locs zv2 hp hH hS => ?_)
  dsimp only at hp
  obtain ⟨rfl, rfl, rfl, rfl, rfl, hmv2, mf, zz2, c0, h8⟩ := hp
  rw [hmo] at zz2
  have hE8 : lE8 g I2 AR AI pA bA nA := lE_k8 hOK hv0 hx1 hE9 (fun b c hb h4 _ => rf b c hb h4) hkC hmv2 rfl (by rw [mf 2 (by decide) (by decide) (by decide) (by decide) (by decide) (by decide)]) (s_all rfl) h8 (lB_m0 hOK hmv2 b0)
  have hE : lInv g I2 R AI AR := l_end hOK hQ hv0 hx1 hQ.2.1 (fun b c hb h4 _ => rf b c hb h4) hmv2 rfl (by rw [mf 2 (by decide) (by decide) (by decide) (by decide) (by decide) (by decide)]) (by rw [e6, mf 16 (by decide) (by decide) (by decide) (by decide) (by decide) (by decide), hmo]; exact hln) (by rw [e6]; exact Int.le_refl _) (l_b0 hOK hmv2 b0 c0) hE8
  have hH : gH (gW g (I2, AI)) I2 R J AI AJ AR H := gH_W hH
  have F := Fa (I2, AI)
  refine lv_pop F.1 F.2.1 dL_law_465 rfl ?_
  refine z_goto (tgt := 1068) F dL_law_466 (by decide) ?_
  exact W.widen (Nat.le_add_right _ _) (Nat.le_add_right _ _) (K I2 R J AI AJ AR H locs ls hE hH hS (lv_sub hl [0, 1, 2, 3, 4] rfl))
