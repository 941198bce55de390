set_option maxHeartbeats 4000000 in
set_option maxRecDepth 100000 in
theorem lc_6 {p : Program} {l : Launch} {e : Env} {s : State} {m : MethodId} {below : List Frame} {meth : Method} {c : Code} {g : gG} {b L : Nat} {xs : Nat → Int32} {i : Int} {cells slots : Nat} (C : lF p l s m c g b L xs) (hi0 : 0 ≤ i) (hi7 : i + 7 ≤ (L : Int)) (hcs : cells + 1 ≤ 601024 ∧ slots + 6 ≤ 7293034) (K : lK p l e s m below meth c g b i cells slots)
    {I : gI} {R : gR} {J : gJ} {AI : gI} {AJ : gJ} {AR : gR} {H : Heap} {locs : List Loc} {ls : Array Slot} (hI : lInv g I R AI AR) (hH : gH (gW g (I, AI)) I R J AI AJ AR H) (hS : va_S (gA g) s.heap H locs) (hl : lv_has ls 7 (lV g b i)) :
    W p l e room_1 s m #[Value.ref b] below meth c H locs cells slots (lw_Z below #[Value.ref b] s) (F0 m 469 ls []) := by
  obtain ⟨Fa, Ta, hOK, hZ, hX, hbl, hL, hst⟩ := C
  have F := Fa (I, AI)
  have hz : gZ g ≤ s.heap.size := Nat.le_of_eq hZ
  obtain ⟨hv, hmv, pA, q, bA, nA, hQ⟩ := hI
  have hx := hQ.1
  have hlen := hQ.2.2.2.1
  have hBq := hQ.2.2.2.2.1
  have hx0 : xS (gW g (I, AI)) (hG0 (gZ g)) R AR (gZ g + 0) pA bA nA := hx
  have h37 : hG0 (gZ g) 42 0 ≠ 1 := by show (0 : Nat) ≠ 1; decide
  have hE9 := hQ.2.2.2.2.2.2
  obtain ⟨nr, tbs8, cc, cl, ⟨q1, rfl, q3⟩, hQ8, hB8⟩ := id hE9
  have hP8 : lP8 g I AR AI pA nr (I pA 2).toInt cc cl := ⟨q1, rfl, q3⟩
  have hnb8 : (I (gZ g + 179) 3).toInt = (((I (gZ g + 179) 3).toInt.toNat : Nat) : Int) := (Int.toNat_of_nonneg hBq.2.1.1).symm
  have hln : (I (gZ g + 0) 1).toInt = (I (gZ g + 205) 16).toInt := hlen.1
  refine lv_aload_n F.1 F.2.1 dL_law_469 rfl (lv_at hl 2 rfl) ?_
  refine g_calli (g_runV (As := []) (rest := []) (ci := 6) F hl.1 hH hS hz (c_X6_commitg l (gW g (I, AI)) (hG0 (gZ g)) pA bA nA (I (gZ g + 179) 3).toInt.toNat nr cc cl I R J AI AJ AR (gZ g + 0) (gInv_dn hv) hx0 h37 hnb8 (bG_o hB8) hP8.1 hP8.2.2.1 hP8.2.2.2.1 (e_hcK hP8) (e_bgC hQ8) (bG_z hB8) (bG_t hB8) hQ8.2.2.2.1) (cwV 0 F.2.2.2.2.1 gTB_L_X6_commit rfl rfl rfl hdX6_commit ⟨Nat.le_of_ble_eq_true rfl, Nat.le_of_ble_eq_true rfl⟩) hx.1 (by decide) rfl rfl rfl (Nat.le_of_ble_eq_true rfl) dL_law_470 ⟨Nat.le_of_succ_le hcs.1, Nat.le_trans (Nat.le_add_right _ _) hcs.2⟩) hS (fun v1 I1 R1 J1 AI1 AJ1 AR1 H locs zv1 hp hH hS => ?_)
  dsimp only at hp
  obtain ⟨rfl, rfl, rfl, hv1, xf, ⟨b1, n1, hx1⟩, eR, b0, cm1, f38, fL⟩ := hp
  have hv0 : gInv (gW g (I, AI)) (hG0 (gZ g)) R1 AR I1 AI1 := hv1
  have hmv := l_mid (I1 := I1) (AI1 := AI1) hmv hv0 (fun q hq => funext fun k => eR q k (Or.inl (gO_ne hq hx.1 (by decide))))
  have hmo := l_mo1 hOK hv0
  have e6 : I1 (gZ g + 0) 1 = I (gZ g + 0) 1 := xf.2
  have b0 : (I1 (gZ g + 179) 3).toInt = 0 := b0
  have hH : gH (gW g (I1, AI1)) I1 R1 J AI1 AJ AR H := gH_W hH
  have F := Fa (I1, AI1)
  refine lv_pop F.1 F.2.1 dL_law_473 rfl ?_
  refine lv_aload_n F.1 F.2.1 dL_law_474 rfl (lv_at hl 3 rfl) ?_
  refine g_calli (g_runV (As := []) (rest := []) (ci := 7) F hl.1 hH hS hz (c_X7_commitf l (gW g (I1, AI1)) (hGm (gZ g)) (AI1 (hGm (gZ g) 50 0)) (I pA 2).toInt nr (I (gZ g + 179) 3).toInt.toNat cc cl (AI (gZ g + 180)) I1 R1 J AI1 AJ AR (gZ g + 205) hmv (l_mo hOK) rfl (m_mr hOK hv0 hP8) (m_pl hv0 hP8) (by rw [hmo, ← hBq.1]; exact hnb8) (m_bt hv0 hB8 hBq.2.1.1 hBq.2.2.1) (m_bg hv0 hQ8) (m_ps hv0 hQ8)) (cwV 0 F.2.2.2.2.1 gTB_L_X7_commit rfl rfl rfl hdX7_commit ⟨Nat.le_of_ble_eq_true rfl, Nat.le_of_ble_eq_true rfl⟩) (l_mo hOK) (by decide) rfl rfl rfl (Nat.le_of_ble_eq_true rfl) dL_law_475 ⟨Nat.le_of_succ_le hcs.1, Nat.le_trans (Nat.le_add_right _ _) hcs.2⟩) hS (fun v2 I2 R2 J2 AI2 AJ2 AR2 H locs zv2 hp hH hS => ?_)
  dsimp only at hp
  obtain ⟨rfl, rfl, rfl, rfl, hmv2, ht2, mf, c0, cm2⟩ := hp
  have hCM := lE_cm hOK (gInv_dn hv) hx hv0 hP8 hQ8 hB8 f38 cm1 (e_n1 hmv2) (e_n2 hmv2) cm2
  obtain ⟨evv, b1, n1, hx1, hQ9⟩ := hCM
  have hE8 : lE8 g I2 AR AI2 pA b1 n1 := ⟨nr, _, cc, cl, lP_k hOK hv0 hx1.2.2.1 hP8 xf.1 fL (e_n1 hmv2) (e_n2 hmv2) ht2 (by rw [mf 2 (by decide) (by decide) (by decide) (by decide) (by decide) (by decide)]), hQ9, (lB_m0 hOK hmv2 b0) _ _ hB8⟩
  have hE : lInv g I2 R1 AI2 AR := l_end hOK hQ hv0 hx1 ((eR (gZ g + 2) 1 (Or.inl (by omega))).trans hQ.2.1) xf.1 hmv2 ht2 (by rw [mf 2 (by decide) (by decide) (by decide) (by decide) (by decide) (by decide)]) (by rw [e6, mf 16 (by decide) (by decide) (by decide) (by decide) (by decide) (by decide), hmo]; exact hln) (by rw [e6]; exact Int.le_refl _) (l_b0 hOK hmv2 b0 c0) hE8
  have hH : gH (gW g (I2, AI2)) I2 R1 J AI2 AJ AR H := gH_W hH
  have F := Fa (I2, AI2)
  refine lv_pop F.1 F.2.1 dL_law_478 rfl ?_
  refine z_goto (tgt := 1068) F dL_law_479 (by decide) ?_
  exact W.widen (Nat.le_add_right _ _) (Nat.le_add_right _ _) (K I2 R1 J AI2 AJ AR H locs ls hE hH hS (lv_sub hl [0, 1, 2, 3, 4] rfl))

set_option maxHeartbeats 4000000 in
set_option maxRecDepth 100000 in
theorem lc_7 {p : Program} {l : Launch} {e : Env} {s : State} {m : MethodId} {below : List Frame} {meth : Method} {c : Code} {g : gG} {b L : Nat} {xs : Nat → Int32} {i : Int} {cells slots : Nat} (C : lF p l s m c g b L xs) (hi0 : 0 ≤ i) (hi7 : i + 7 ≤ (L : Int)) (hcs : cells + 1 ≤ 601024 ∧ slots + 6 ≤ 7293034) (K : lK p l e s m below meth c g b i cells slots)
    {I : gI} {R : gR} {J : gJ} {AI : gI} {AJ : gJ} {AR : gR} {H : Heap} {locs : List Loc} {ls : Array Slot} (hI : lInv g I R AI AR) (hH : gH (gW g (I, AI)) I R J AI AJ AR H) (hS : va_S (gA g) s.heap H locs) (hl : lv_has ls 7 (lV g b i)) :
    W p l e room_1 s m #[Value.ref b] below meth c H locs cells slots (lw_Z below #[Value.ref b] s) (F0 m 482 ls []) := by
  obtain ⟨Fa, Ta, hOK, hZ, hX, hbl, hL, hst⟩ := C
  have F := Fa (I, AI)
  have hz : gZ g ≤ s.heap.size := Nat.le_of_eq hZ
  obtain ⟨hv, hmv, pA, q, bA, nA, hQ⟩ := hI
  have hx := hQ.1
  have hlen := hQ.2.2.2.1
  have hBq := hQ.2.2.2.2.1
  have hx0 : xS (gW g (I, AI)) (hG0 (gZ g)) R AR (gZ g + 0) pA bA nA := hx
  have h37 : hG0 (gZ g) 42 0 ≠ 1 := by show (0 : Nat) ≠ 1; decide
  have hE9 := hQ.2.2.2.2.2.2
  obtain ⟨nr, tbs8, cc, cl, ⟨q1, rfl, q3⟩, hQ8, hB8⟩ := id hE9
  have hP8 : lP8 g I AR AI pA nr (I pA 2).toInt cc cl := ⟨q1, rfl, q3⟩
  have hnb8 : (I (gZ g + 179) 3).toInt = (((I (gZ g + 179) 3).toInt.toNat : Nat) : Int) := (Int.toNat_of_nonneg hBq.2.1.1).symm
  have hln : (I (gZ g + 0) 1).toInt = (I (gZ g + 205) 16).toInt := hlen.1
  obtain ⟨a1, za1, ha1⟩ := l_val xs (i + 1).toNat
  refine lv_aload_n F.1 F.2.1 dL_law_482 rfl (lv_at hl 2 rfl) ?_
  refine lv_aload_n F.1 F.2.1 dL_law_483 rfl (lv_at hl 1 rfl) ?_
  refine lv_iload F.1 F.2.1 dL_law_484 (lv_at hl 0 rfl) ?_
  refine z_iconst F dL_law_486 ?_
  refine z_iadd F dL_law_487 ?_
  refine l_sld F.1 F.2.1 hX hbl hZ hS (z := i + 1) (by omega) (by omega) (by omega) ha1 dL_law_488 ?_
  refine g_calli (g_runV (As := [.int (iI a1)]) (rest := []) (ci := 6) F hl.1 hH hS hz (c_X6_wouldg l (gW g (I, AI)) (hG (gZ g)) pA bA nA (I (gZ g + 179) 3).toInt.toNat nr cc cl I R J AI AJ AR (gZ g + 0) a1 za1 hv hx hnb8 (bG_o hB8) hP8.1 hP8.2.2.1 hP8.2.2.2.1 (e_hcK hP8) (e_bgC hQ8) (bG_z hB8) (bG_t hB8) hQ8.2.2.2.1) (cwV 1 F.2.2.2.2.1 gTB_L_X6_would rfl rfl rfl hdX6_would ⟨Nat.le_of_ble_eq_true rfl, Nat.le_of_ble_eq_true rfl⟩) hx.1 (by decide) rfl rfl rfl (Nat.le_of_ble_eq_true rfl) dL_law_489 ⟨Nat.le_of_succ_le hcs.1, Nat.le_trans (Nat.le_add_right _ _) hcs.2⟩) hS (fun v1 I1 R1 J1 AI1 AJ1 AR1 H locs zv1 hp hH hS => ?_)
  dsimp only at hp
  obtain ⟨rfl, rfl, rfl, rfl, hv1, rf, an1, ⟨cs1, cx1, c37, c37a, c38⟩, fL⟩ := hp
  have hv0 : gInv (gW g (I, AI)) (hG0 (gZ g)) R AR I1 AI1 := gInv_dn hv1
  have hx1 : xS (gW g (I, AI)) (hG (gZ g)) R AR (gZ g + 0) pA bA nA := hx
  have hmv := l_mid (I1 := I1) (AI1 := AI1) hmv hv0 (fun _ _ => rfl)
  have hmo := l_mo1 hOK hv0
  have e6 : I1 (gZ g + 0) 1 = I (gZ g + 0) 1 := (congrFun (rf _ 6 hx.1 (by decide)) 1)
  have hkC : kC8 g AR bA I AI I1 AI1 := kC_w fL cs1 cx1 c38
  have hH : gH (gW g (I1, AI1)) I1 R J AI1 AJ AR H := gH_W hH
  have F := Fa (I1, AI1)
  refine lv_pop F.1 F.2.1 dL_law_492 rfl ?_
  refine lv_aload_n F.1 F.2.1 dL_law_493 rfl (lv_at hl 3 rfl) ?_
  refine lv_aload_n F.1 F.2.1 dL_law_494 rfl (lv_at hl 1 rfl) ?_
  refine lv_iload F.1 F.2.1 dL_law_495 (lv_at hl 0 rfl) ?_
  refine z_iconst F dL_law_497 ?_
  refine z_iadd F dL_law_498 ?_
  refine l_sld F.1 F.2.1 hX hbl hZ hS (z := i + 1) (by omega) (by omega) (by omega) ha1 dL_law_499 ?_
  refine g_calli (g_runV (As := [.int (iI a1)]) (rest := []) (ci := 7) F hl.1 hH hS hz (c_X7_wouldf l (gW g (I1, AI1)) (hGm (gZ g)) (AI1 (hGm (gZ g) 50 0)) (I pA 2).toInt nr (I (gZ g + 179) 3).toInt.toNat cc cl (AI (gZ g + 180)) I1 R J AI1 AJ AR (gZ g + 205) a1 za1 hmv (l_mo hOK) rfl (m_mr hOK hv0 hP8) (m_pl hv0 hP8) (by rw [hmo, ← hBq.1]; exact hnb8) (m_bt hv0 hB8 hBq.2.1.1 hBq.2.2.1) (m_bg hv0 hQ8) (m_ps hv0 hQ8)) (cwV 1 F.2.2.2.2.1 gTB_L_X7_would rfl rfl rfl hdX7_would ⟨Nat.le_of_ble_eq_true rfl, Nat.le_of_ble_eq_true rfl⟩) (l_mo hOK) (by decide) rfl rfl rfl (Nat.le_of_ble_eq_true rfl) dL_law_500 ⟨Nat.le_of_succ_le hcs.1, Nat.le_trans (Nat.le_add_right _ _) hcs.2⟩) hS (fun v2 I2 R2 J2 AI2 AJ2 AR2 H locs zv2 hp hH hS => ?_)
  dsimp only at hp
  obtain ⟨rfl, rfl, rfl, rfl, hmv2, ht2, mf, an2, h8⟩ := hp
  have hE8 : lE8 g I2 AR AI2 pA bA nA := lE_k8 hOK hv0 hx1 hE9 (fun b c hb h4 _ => rf b c hb h4) hkC hmv2 ht2 (by rw [mf 2 (by decide) (by decide) (by decide) (by decide) (by decide)]) (by rcases an2 with ⟨_, _, e⟩ | ⟨_, _, _, d, _⟩; (· exact s_all e); (· exact s_sdK d.1)) h8 (lB_m hOK hv1 hmv2)
  have hE : lInv g I2 R AI2 AR := l_end hOK hQ hv0 hx1 hQ.2.1 (fun b c hb h4 _ => rf b c hb h4) hmv2 ht2 (by rw [mf 2 (by decide) (by decide) (by decide) (by decide) (by decide)]) (by rw [e6, mf 16 (by decide) (by decide) (by decide) (by decide) (by decide), hmo]; exact hln) (by rw [e6]; exact Int.le_refl _) (l_bk hOK hBq hv1 hmv2 (by rw [mf 14 (by decide) (by decide) (by decide) (by decide) (by decide)])) hE8
  have hH : gH (gW g (I2, AI2)) I2 R J AI2 AJ AR H := gH_W hH
  have F := Fa (I2, AI2)
  refine lv_pop F.1 F.2.1 dL_law_503 rfl ?_
  refine z_goto (tgt := 1068) F dL_law_504 (by decide) ?_
  exact W.widen (Nat.le_add_right _ _) (Nat.le_add_right _ _) (K I2 R J AI2 AJ AR H locs ls hE hH hS (lv_sub hl [0, 1, 2, 3, 4] rfl))

set_option maxHeartbeats 4000000 in
set_option maxRecDepth 100000 in
theorem lc_8 {p : Program} {l : Launch} {e : Env} {s : State} {m : MethodId} {below : List Frame} {meth : Method} {c : Code} {g : gG} {b L : Nat} {xs : Nat → Int32} {i : Int} {cells slots : Nat} (C : lF p l s m c g b L xs) (hi0 : 0 ≤ i) (hi7 : i + 7 ≤ (L : Int)) (hcs : cells + 1 ≤ 601024 ∧ slots + 6 ≤ 7293034) (K : lK p l e s m below meth c g b i cells slots)
    {I : gI} {R : gR} {J : gJ} {AI : gI} {AJ : gJ} {AR : gR} {H : Heap} {locs : List Loc} {ls : Array Slot} (hI : lInv g I R AI AR) (hH : gH (gW g (I, AI)) I R J AI AJ AR H) (hS : va_S (gA g) s.heap H locs) (hl : lv_has ls 7 (lV g b i)) :
    W p l e room_1 s m #[Value.ref b] below meth c H locs cells slots (lw_Z below #[Value.ref b] s) (F0 m 507 ls []) := by
  obtain ⟨Fa, Ta, hOK, hZ, hX, hbl, hL, hst⟩ := C
  have F := Fa (I, AI)
  have hz : gZ g ≤ s.heap.size := Nat.le_of_eq hZ
  obtain ⟨hv, hmv, pA, q, bA, nA, hQ⟩ := hI
  have hx := hQ.1
  have hlen := hQ.2.2.2.1
  have hBq := hQ.2.2.2.2.1
  have hx0 : xS (gW g (I, AI)) (hG0 (gZ g)) R AR (gZ g + 0) pA bA nA := hx
  have h37 : hG0 (gZ g) 42 0 ≠ 1 := by show (0 : Nat) ≠ 1; decide
  have hE9 := hQ.2.2.2.2.2.2
  obtain ⟨nr, tbs8, cc, cl, ⟨q1, rfl, q3⟩, hQ8, hB8⟩ := id hE9
  have hP8 : lP8 g I AR AI pA nr (I pA 2).toInt cc cl := ⟨q1, rfl, q3⟩
  have hnb8 : (I (gZ g + 179) 3).toInt = (((I (gZ g + 179) 3).toInt.toNat : Nat) : Int) := (Int.toNat_of_nonneg hBq.2.1.1).symm
  have hln : (I (gZ g + 0) 1).toInt = (I (gZ g + 205) 16).toInt := hlen.1
  refine lv_aload_n F.1 F.2.1 dL_law_507 rfl (lv_at hl 2 rfl) ?_
  have hv9 := gInv_dn hv
  refine g_calli (g_runV (As := []) (rest := []) (ci := 6) F hl.1 hH hS hz (c_X6_undog l (gW g (I, AI)) (hG (gZ g)) pA bA nA (rfC (hG (gZ g)) AR I AI (hG (gZ g) 36 0) (((I (gZ g + 0) 14).toInt + 7) % 8).toNat).1 nr cc cl I R J AI AJ AR (gZ g + 0) hv hx (Int.toNat_of_nonneg (e_len hv9 (isRA_o (e_36 hv9 hx.1) (by have := (e_14 hv9 hx.1); omega)).2.1)).symm (fun hu => bG_o (eS_un hP8.2.2.1.2.1 hP8.2.2.1.2.2 hQ8.1 hu rfl).1) hP8.1 hP8.2.2.1 hP8.2.2.2.1 (e_hcK hP8) (e_bgC hQ8) (fun hu => bG_z (eS_un hP8.2.2.1.2.1 hP8.2.2.1.2.2 hQ8.1 hu rfl).1) (fun hu => bG_t (eS_un hP8.2.2.1.2.1 hP8.2.2.1.2.2 hQ8.1 hu rfl).1) hQ8.2.2.2.1 (fun hu => ⟨_, (eS_un hP8.2.2.1.2.1 hP8.2.2.1.2.2 hQ8.1 hu rfl).2⟩)) (cwV 0 F.2.2.2.2.1 gTB_L_X6_undo rfl rfl rfl hdX6_undo ⟨Nat.le_of_ble_eq_true rfl, Nat.le_of_ble_eq_true rfl⟩) hx.1 (by decide) rfl rfl rfl (Nat.le_of_ble_eq_true rfl) dL_law_508 ⟨Nat.le_of_succ_le hcs.1, Nat.le_trans (Nat.le_add_right _ _) hcs.2⟩) hS (fun v1 I1 R1 J1 AI1 AJ1 AR1 H locs zv1 hp hH hS => ?_)
  dsimp only at hp
  obtain ⟨rfl, rfl, rfl, hv1, xf, ⟨b1, n1, hx1⟩, eR, _, an1, fL⟩ := hp
  have hv0 : gInv (gW g (I, AI)) (hG0 (gZ g)) R1 AR I1 AI1 := gInv_dn hv1
  have hmv := l_mid (I1 := I1) (AI1 := AI1) hmv hv0 (fun q hq => funext fun k => eR q k (Or.inl (gO_ne hq hx.1 (by decide))))
  have hmo := l_mo1 hOK hv0
  have e6 : I1 (gZ g + 0) 1 = I (gZ g + 0) 1 := xf.2
  have hH : gH (gW g (I1, AI1)) I1 R1 J AI1 AJ AR H := gH_W hH
  have F := Fa (I1, AI1)
  refine lv_pop F.1 F.2.1 dL_law_511 rfl ?_
  refine lv_aload_n F.1 F.2.1 dL_law_512 rfl (lv_at hl 3 rfl) ?_
  refine g_calli (g_runV (As := []) (rest := []) (ci := 7) F hl.1 hH hS hz (c_X7_undof l (gW g (I1, AI1)) (hGm (gZ g)) (AI1 (hGm (gZ g) 50 0)) I1 R1 J AI1 AJ AR (gZ g + 205) hmv (l_mo hOK) rfl) (cwV 0 F.2.2.2.2.1 gTB_L_X7_undo rfl rfl rfl hdX7_undo ⟨Nat.le_of_ble_eq_true rfl, Nat.le_of_ble_eq_true rfl⟩) (l_mo hOK) (by decide) rfl rfl rfl (Nat.le_of_ble_eq_true rfl) dL_law_513 ⟨Nat.le_of_succ_le hcs.1, Nat.le_trans (Nat.le_add_right _ _) hcs.2⟩) hS (fun v2 I2 R2 J2 AI2 AJ2 AR2 H locs zv2 hp hH hS => ?_)
  dsimp only at hp
  obtain ⟨rfl, rfl, rfl, rfl, hmv2, ht2, mf, an2, h8⟩ := hp
  have hUN : ∃ b1 n1, xS (gW g (I, AI)) (hG (gZ g)) R1 AR (gZ g + 0) pA b1 n1 ∧ lQ8 g I2 AR AI2 b1 n1 nr (I pA 2).toInt cc cl ∧ v1 = v2 := by
    have m8 := hQ8.2.1.1
    rw [← hmo] at m8
    rcases an1 with ⟨u1, u2, u3, u4, u5⟩ | ⟨u1, u2, u3, Fn, u4, u5⟩
    · rcases an2 with ⟨w1, w2, w3, w4⟩ | ⟨w1, _⟩
      · have hx9 : xS (gW g (I, AI)) (hG (gZ g)) R1 AR (gZ g + 0) pA bA nA := by rw [u5]; exact hx
        refine ⟨bA, nA, hx9, lQ_k hOK hv0 hx9 hP8 hQ8 (by rw [u3, u4]; exact cS_r) (by rw [u3]; exact ⟨rfl, rfl⟩) (by rw [u3]) (e_n1 hmv2) (e_n2 hmv2) (s_all w3) w4 ?_, by omega⟩
        rw [e_n1 hmv2 _ 6 hx.1 (by decide), u3, h8.1, h8.2, u3]; exact hQ8.2.1.2
      · exfalso; omega
    · rcases an2 with ⟨w1, _⟩ | ⟨w1, w2, w3, w4⟩
      · exfalso; omega
      · exact ⟨nA, bA, u3, lE_un hOK hv0 hx hP8 hQ8 u1 u3 u4 u5 (e_n1 hmv2) (e_n2 hmv2) w4 w3 h8, by omega⟩
  obtain ⟨b1, n1, hx1, hQ9, evv⟩ := hUN
  have hE8 : lE8 g I2 AR AI2 pA b1 n1 := ⟨nr, _, cc, cl, lP_k hOK hv0 hx1.2.2.1 hP8 xf.1 fL (e_n1 hmv2) (e_n2 hmv2) ht2 (by rw [mf 2 (by decide) (by decide) (by decide) (by decide) (by decide)]), hQ9, (lB_m hOK hv1 hmv2) _ _ hB8⟩
  have hE : lInv g I2 R1 AI2 AR := l_end hOK hQ hv0 hx1 ((eR (gZ g + 2) 1 (Or.inl (by omega))).trans hQ.2.1) xf.1 hmv2 ht2 (by rw [mf 2 (by decide) (by decide) (by decide) (by decide) (by decide)]) (by rw [e6, mf 16 (by decide) (by decide) (by decide) (by decide) (by decide), hmo]; exact hln) (by rw [e6]; exact Int.le_refl _) (l_bk hOK hBq hv1 hmv2 (by rw [mf 14 (by decide) (by decide) (by decide) (by decide) (by decide)])) hE8
  have hH : gH (gW g (I2, AI2)) I2 R1 J AI2 AJ AR H := gH_W hH
  have F := Fa (I2, AI2)
  refine lv_pop F.1 F.2.1 dL_law_516 rfl ?_
  refine z_goto (tgt := 1068) F dL_law_517 (by decide) ?_
  exact W.widen (Nat.le_add_right _ _) (Nat.le_add_right _ _) (K I2 R1 J AI2 AJ AR H locs ls hE hH hS (lv_sub hl [0, 1, 2, 3, 4] rfl))

set_option maxHeartbeats 4000000 in
set_option maxRecDepth 100000 in
theorem lc_9 {p : Program} {l : Launch} {e : Env} {s : State} {m : MethodId} {below : List Frame} {meth : Method} {c : Code} {g : gG} {b L : Nat} {xs : Nat → Int32} {i : Int} {cells slots : Nat} (C : lF p l s m c g b L xs) (hi0 : 0 ≤ i) (hi7 : i + 7 ≤ (L : Int)) (hcs : cells + 1 ≤ 601024 ∧ slots + 6 ≤ 7293034) (K : lK p l e s m below meth c g b i cells slots)
    {I : gI} {R : gR} {J : gJ} {AI : gI} {AJ : gJ} {AR : gR} {H : Heap} {locs : List Loc} {ls : Array Slot} (hI : lInv g I R AI AR) (hH : gH (gW g (I, AI)) I R J AI AJ AR H) (hS : va_S (gA g) s.heap H locs) (hl : lv_has ls 7 (lV g b i)) :
    W p l e room_1 s m #[Value.ref b] below meth c H locs cells slots (lw_Z below #[Value.ref b] s) (F0 m 520 ls []) := by
  obtain ⟨Fa, Ta, hOK, hZ, hX, hbl, hL, hst⟩ := C
  have F := Fa (I, AI)
  have hz : gZ g ≤ s.heap.size := Nat.le_of_eq hZ
  obtain ⟨hv, hmv, pA, q, bA, nA, hQ⟩ := hI
  have hx := hQ.1
  have hlen := hQ.2.2.2.1
  have hBq := hQ.2.2.2.2.1
  have hx0 : xS (gW g (I, AI)) (hG0 (gZ g)) R AR (gZ g + 0) pA bA nA := hx
  have h37 : hG0 (gZ g) 42 0 ≠ 1 := by show (0 : Nat) ≠ 1; decide
  have hE9 := hQ.2.2.2.2.2.2
  obtain ⟨nr, tbs8, cc, cl, ⟨q1, rfl, q3⟩, hQ8, hB8⟩ := id hE9
  have hP8 : lP8 g I AR AI pA nr (I pA 2).toInt cc cl := ⟨q1, rfl, q3⟩
  have hnb8 : (I (gZ g + 179) 3).toInt = (((I (gZ g + 179) 3).toInt.toNat : Nat) : Int) := (Int.toNat_of_nonneg hBq.2.1.1).symm
  have hln : (I (gZ g + 0) 1).toInt = (I (gZ g + 205) 16).toInt := hlen.1
  obtain ⟨a1, za1, ha1⟩ := l_val xs (i + 1).toNat
  refine lv_aload_n F.1 F.2.1 dL_law_520 rfl (lv_at hl 2 rfl) ?_
  refine lv_aload_n F.1 F.2.1 dL_law_521 rfl (lv_at hl 1 rfl) ?_
  refine lv_iload F.1 F.2.1 dL_law_522 (lv_at hl 0 rfl) ?_
  refine z_iconst F dL_law_524 ?_
  refine z_iadd F dL_law_525 ?_
  refine l_sld F.1 F.2.1 hX hbl hZ hS (z := i + 1) (by omega) (by omega) (by omega) ha1 dL_law_526 ?_
  refine g_calli (g_runV (As := [.int (iI a1)]) (rest := []) (ci := 6) F hl.1 hH hS hz (c_X6_sizef l (gW g (I, AI)) (hG (gZ g)) pA bA nA nr I R J AI AJ AR (gZ g + 0) a1 za1 hv hx hP8.1) (cwV 1 F.2.2.2.2.1 gTB_L_X6_size rfl rfl rfl hdX6_size ⟨Nat.le_of_ble_eq_true rfl, Nat.le_of_ble_eq_true rfl⟩) hx.1 (by decide) rfl rfl rfl (Nat.le_of_ble_eq_true rfl) dL_law_527 ⟨Nat.le_of_succ_le hcs.1, Nat.le_trans (Nat.le_add_right _ _) hcs.2⟩) hS (fun v1 I1 R1 J1 AI1 AJ1 AR1 H locs zv1 hp hH hS => ?_)
  dsimp only at hp
  obtain ⟨rfl, rfl, rfl, rfl, rfl, rfl, an1⟩ := hp
  have hv1 := hv
  have hv0 : gInv (gW g (I, AI)) (hG0 (gZ g)) R AR I AI := gInv_dn hv1
  have hx1 : xS (gW g (I, AI)) (hG (gZ g)) R AR (gZ g + 0) pA bA nA := hx
  have hmv := l_mid (I1 := I) (AI1 := AI) hmv hv0 (fun _ _ => rfl)
  have hmo := l_mo1 hOK hv0
  have e6 : I (gZ g + 0) 1 = I (gZ g + 0) 1 := rfl
  have hkC : kC8 g AR bA I AI I AI := kC_r
  have hH : gH (gW g (I, AI)) I R J AI AJ AR H := gH_W hH
  have F := Fa (I, AI)
  refine lv_pop F.1 F.2.1 dL_law_530 rfl ?_
  refine lv_aload_n F.1 F.2.1 dL_law_531 rfl (lv_at hl 3 rfl) ?_
  refine lv_aload_n F.1 F.2.1 dL_law_532 rfl (lv_at hl 1 rfl) ?_
  refine lv_iload F.1 F.2.1 dL_law_533 (lv_at hl 0 rfl) ?_
  refine z_iconst F dL_law_535 ?_
  refine z_iadd F dL_law_536 ?_
  refine l_sld F.1 F.2.1 hX hbl hZ hS (z := i + 1) (by omega) (by omega) (by omega) ha1 dL_law_537 ?_
  refine g_calli (g_runV (As := [.int (iI a1)]) (rest := []) (ci := 7) F hl.1 hH hS hz (c_X7_sizeg l (gW g (I, AI)) (hGm (gZ g)) (AI (hGm (gZ g) 50 0)) nr I R J AI AJ AR (gZ g + 205) a1 za1 hmv (l_mo hOK) rfl (m_mr hOK hv0 hP8)) (cwV 1 F.2.2.2.2.1 gTB_L_X7_size rfl rfl rfl hdX7_size ⟨Nat.le_of_ble_eq_true rfl, Nat.le_of_ble_eq_true rfl⟩) (l_mo hOK) (by decide) rfl rfl rfl (Nat.le_of_ble_eq_true rfl) dL_law_538 ⟨Nat.le_of_succ_le hcs.1, Nat.le_trans (Nat.le_add_right _ _) hcs.2⟩) hS (fun v2 I2 R2 J2 AI2 AJ2 AR2 H locs zv2 hp hH hS => ?_)
  dsimp only at hp
  obtain ⟨rfl, rfl, rfl, rfl, rfl, hmv2, mf, an2, h8⟩ := hp
  have hE8 : lE8 g I2 AR AI pA bA nA := lE_k8 hOK hv0 hx1 hE9 (fun _ _ _ _ _ => rfl) hkC hmv2 rfl (by rw [mf 2 (by decide) (by decide) (by decide) (by decide) (by decide)]) (s_all rfl) h8 (lB_m hOK hv1 hmv2)
  have hE : lInv g I2 R AI AR := l_end hOK hQ hv0 hx1 hQ.2.1 (fun _ _ _ _ _ => rfl) hmv2 rfl (by rw [mf 2 (by decide) (by decide) (by decide) (by decide) (by decide)]) (by rw [e6, mf 16 (by decide) (by decide) (by decide) (by decide) (by decide), hmo]; exact hln) (by rw [e6]; exact Int.le_refl _) (l_bk hOK hBq hv1 hmv2 (by rw [mf 14 (by decide) (by decide) (by decide) (by decide) (by decide)])) hE8
  have hH : gH (gW g (I2, AI)) I2 R J AI AJ AR H := gH_W hH
  have F := Fa (I2, AI)
  refine lv_pop F.1 F.2.1 dL_law_541 rfl ?_
  refine z_goto (tgt := 1068) F dL_law_542 (by decide) ?_
  exact W.widen (Nat.le_add_right _ _) (Nat.le_add_right _ _) (K I2 R J AI AJ AR H locs ls hE hH hS (lv_sub hl [0, 1, 2, 3, 4] rfl))

set_option maxHeartbeats 4000000 in
set_option maxRecDepth 100000 in
theorem lc_10 {p : Program} {l : Launch} {e : Env} {s : State} {m : MethodId} {below : List Frame} {meth : Method} {c : Code} {g : gG} {b L : Nat} {xs : Nat → Int32} {i : Int} {cells slots : Nat} (C : lF p l s m c g b L xs) (hi0 : 0 ≤ i) (hi7 : i + 7 ≤ (L : Int)) (hcs : cells + 1 ≤ 601024 ∧ slots + 6 ≤ 7293034) (K : lK p l e s m below meth c g b i cells slots)
    {I : gI} {R : gR} {J : gJ} {AI : gI} {AJ : gJ} {AR : gR} {H : Heap} {locs : List Loc} {ls : Array Slot} (hI : lInv g I R AI AR) (hH : gH (gW g (I, AI)) I R J AI AJ AR H) (hS : va_S (gA g) s.heap H locs) (hl : lv_has ls 7 (lV g b i)) :
    W p l e room_1 s m #[Value.ref b] below meth c H locs cells slots (lw_Z below #[Value.ref b] s) (F0 m 545 ls []) := by
  obtain ⟨Fa, Ta, hOK, hZ, hX, hbl, hL, hst⟩ := C
  have F := Fa (I, AI)
  have hz : gZ g ≤ s.heap.size := Nat.le_of_eq hZ
  obtain ⟨hv, hmv, pA, q, bA, nA, hQ⟩ := hI
  have hx := hQ.1
  have hlen := hQ.2.2.2.1
  have hBq := hQ.2.2.2.2.1
  have hx0 : xS (gW g (I, AI)) (hG0 (gZ g)) R AR (gZ g + 0) pA bA nA := hx
  have h37 : hG0 (gZ g) 42 0 ≠ 1 := by show (0 : Nat) ≠ 1; decide
  have hE9 := hQ.2.2.2.2.2.2
  obtain ⟨nr, tbs8, cc, cl, ⟨q1, rfl, q3⟩, hQ8, hB8⟩ := id hE9
  have hP8 : lP8 g I AR AI pA nr (I pA 2).toInt cc cl := ⟨q1, rfl, q3⟩
  have hnb8 : (I (gZ g + 179) 3).toInt = (((I (gZ g + 179) 3).toInt.toNat : Nat) : Int) := (Int.toNat_of_nonneg hBq.2.1.1).symm
  have hln : (I (gZ g + 0) 1).toInt = (I (gZ g + 205) 16).toInt := hlen.1
  obtain ⟨a1, za1, ha1⟩ := l_val xs (i + 1).toNat
  obtain ⟨a2, za2, ha2⟩ := l_val xs (i + 2).toNat
  obtain ⟨a3, za3, ha3⟩ := l_val xs (i + 3).toNat
  refine lv_aload_n F.1 F.2.1 dL_law_545 rfl (lv_at hl 2 rfl) ?_
  refine lv_aload_n F.1 F.2.1 dL_law_546 rfl (lv_at hl 1 rfl) ?_
  refine lv_iload F.1 F.2.1 dL_law_547 (lv_at hl 0 rfl) ?_
  refine z_iconst F dL_law_549 ?_
  refine z_iadd F dL_law_550 ?_
  refine l_sld F.1 F.2.1 hX hbl hZ hS (z := i + 1) (by omega) (by omega) (by omega) ha1 dL_law_551 ?_
  refine lv_aload_n F.1 F.2.1 dL_law_552 rfl (lv_at hl 1 rfl) ?_
  refine lv_iload F.1 F.2.1 dL_law_553 (lv_at hl 0 rfl) ?_
  refine z_iconst F dL_law_555 ?_
  refine z_iadd F dL_law_556 ?_
  refine l_sld F.1 F.2.1 hX hbl hZ hS (z := i + 2) (by omega) (by omega) (by omega) ha2 dL_law_557 ?_
  refine lv_aload_n F.1 F.2.1 dL_law_558 rfl (lv_at hl 1 rfl) ?_
  refine lv_iload F.1 F.2.1 dL_law_559 (lv_at hl 0 rfl) ?_
  refine z_iconst F dL_law_561 ?_
  refine z_iadd F dL_law_562 ?_
  refine l_sld F.1 F.2.1 hX hbl hZ hS (z := i + 3) (by omega) (by omega) (by omega) ha3 dL_law_563 ?_
  refine lv_aload_n F.1 F.2.1 dL_law_564 rfl (lv_at hl 4 rfl) ?_
  refine g_calliX (g_runSXW (As := [.ref (gZ g + 0), .int (iI a1), .int (iI a2), .int (iI a3), .ref (gZ g + 222)]) (rest := []) F (Ta (I, AI)) hl.1 hH hS hz (c_L_atf l (gW g (I, AI)) (hG (gZ g)) pA bA nA nr cc I R J AI AJ AR (gZ g + 0) a1 a2 a3 (gZ g + 222) za1 za2 za3 hv hx (l_ou hOK) hP8.1 hP8.2.2.2.1 hst) (vx_cwSW 5 F.2.2.2.2.1 gTB_L_L_at rfl rfl rfl hdL_at.2 ⟨Nat.le_of_ble_eq_true rfl, Nat.le_of_ble_eq_true rfl⟩) rfl rfl (Nat.le_of_ble_eq_true rfl) dL_law_565 ⟨hcs.1, hcs.2⟩) hS (fun ce9 q9 I9 R9 J9 AI9 AJ9 AR9 H9 locs9 hp _ _ _ _ _ => False.elim hp) (fun v1 I1 R1 J1 AI1 AJ1 AR1 H locs zv1 hp hH hS => ?_)
  dsimp only at hp
  obtain ⟨rfl, rfl, rfl, rfl, rfl, hv1, an1, an1, _⟩ := hp
  have hv0 : gInv (gW g (I, AI)) (hG0 (gZ g)) R AR I AI := gInv_dn hv1
  have hx1 : xS (gW g (I, AI)) (hG (gZ g)) R AR (gZ g + 0) pA bA nA := hx
  have hmv := l_mid (I1 := I) (AI1 := AI) hmv hv0 (fun _ _ => rfl)
  have hmo := l_mo1 hOK hv0
  have e6 : I (gZ g + 0) 1 = I (gZ g + 0) 1 := rfl
  have hkC : kC8 g AR bA I AI I AI := kC_r
  have hH : gH (gW g (I, AI)) I R J AI AJ1 AR H := gH_W hH
  have F := Fa (I, AI)
  refine lv_istore (lv' := [(5, .int (iI v1)), (4, .int (iI i)), (0, .ref b), (1, .ref (gZ g + 0)), (2, .ref (gZ g + 205)), (3, .ref (gZ g + 222))]) F.1 F.2.1 dL_law_568 hl (by decide) rfl (fun ls hl => ?_)
  refine lv_aload_n F.1 F.2.1 dL_law_570 rfl (lv_at hl 4 rfl) ?_
  refine lv_aload_n F.1 F.2.1 dL_law_571 rfl (lv_at hl 2 rfl) ?_
  refine lv_iload F.1 F.2.1 dL_law_572 (lv_at hl 1 rfl) ?_
  refine z_iconst F dL_law_574 ?_
  refine z_iadd F dL_law_575 ?_
  refine l_sld F.1 F.2.1 hX hbl hZ hS (z := i + 1) (by omega) (by omega) (by omega) ha1 dL_law_576 ?_
  refine lv_aload_n F.1 F.2.1 dL_law_577 rfl (lv_at hl 2 rfl) ?_
  refine lv_iload F.1 F.2.1 dL_law_578 (lv_at hl 1 rfl) ?_
  refine z_iconst F dL_law_580 ?_
  refine z_iadd F dL_law_581 ?_
  refine l_sld F.1 F.2.1 hX hbl hZ hS (z := i + 2) (by omega) (by omega) (by omega) ha2 dL_law_582 ?_
  refine lv_aload_n F.1 F.2.1 dL_law_583 rfl (lv_at hl 2 rfl) ?_
  refine lv_iload F.1 F.2.1 dL_law_584 (lv_at hl 1 rfl) ?_
  refine z_iconst F dL_law_586 ?_
  refine z_iadd F dL_law_587 ?_
  refine l_sld F.1 F.2.1 hX hbl hZ hS (z := i + 3) (by omega) (by omega) (by omega) ha3 dL_law_588 ?_
  refine g_calli (g_runV (As := [.int (iI a1), .int (iI a2), .int (iI a3)]) (rest := []) (ci := 7) F hl.1 hH hS hz (c_X7_atg l (gW g (I, AI)) (hGm (gZ g)) (AI (hGm (gZ g) 50 0)) nr I R J AI AJ1 AR (gZ g + 205) a1 a2 a3 za1 za2 za3 hmv (l_mo hOK) rfl (m_mr hOK hv0 hP8)) (cwV 3 F.2.2.2.2.1 gTB_L_X7_at rfl rfl rfl hdX7_at ⟨Nat.le_of_ble_eq_true rfl, Nat.le_of_ble_eq_true rfl⟩) (l_mo hOK) (by decide) rfl rfl rfl (Nat.le_of_ble_eq_true rfl) dL_law_589 ⟨hcs.1, hcs.2⟩) hS (fun v2 I2 R2 J2 AI2 AJ2 AR2 H locs zv2 hp hH hS => ?_)
  dsimp only at hp
  obtain ⟨rfl, rfl, rfl, rfl, rfl, hmv2, mf, an2, h8⟩ := hp
  have hE8 : lE8 g I2 AR AI pA bA nA := lE_k8 hOK hv0 hx1 hE9 (fun _ _ _ _ _ => rfl) hkC hmv2 rfl (by rw [mf 2 (by decide) (by decide) (by decide) (by decide) (by decide)]) (s_all rfl) h8 (lB_m hOK hv1 hmv2)
  have hE : lInv g I2 R AI AR := l_end hOK hQ hv0 hx1 hQ.2.1 (fun _ _ _ _ _ => rfl) hmv2 rfl (by rw [mf 2 (by decide) (by decide) (by decide) (by decide) (by decide)]) (by rw [e6, mf 16 (by decide) (by decide) (by decide) (by decide) (by decide), hmo]; exact hln) (by rw [e6]; exact Int.le_refl _) (l_bk hOK hBq hv1 hmv2 (by rw [mf 14 (by decide) (by decide) (by decide) (by decide) (by decide)])) hE8
  have hH : gH (gW g (I2, AI)) I2 R J AI AJ1 AR H := gH_W hH
  have F := Fa (I2, AI)
  refine lv_istore (lv' := [(6, .int (iI v2)), (5, .int (iI v1)), (4, .int (iI i)), (0, .ref b), (1, .ref (gZ g + 0)), (2, .ref (gZ g + 205)), (3, .ref (gZ g + 222))]) F.1 F.2.1 dL_law_592 hl (by decide) rfl (fun ls hl => ?_)
  refine z_goto (tgt := 1068) F dL_law_594 (by decide) ?_
  exact K I2 R J AI AJ1 AR H locs ls hE hH hS (lv_sub hl [2, 3, 4, 5, 6] rfl)

set_option maxHeartbeats 4000000 in
set_option maxRecDepth 100000 in
theorem lc_11 {p : Program} {l : Launch} {e : Env} {s : State} {m : MethodId} {below : List Frame} {meth : Method} {c : Code} {g : gG} {b L : Nat} {xs : Nat → Int32} {i : Int} {cells slots : Nat} (C : lF p l s m c g b L xs) (hi0 : 0 ≤ i) (hi7 : i + 7 ≤ (L : Int)) (hcs : cells + 1 ≤ 601024 ∧ slots + 6 ≤ 7293034) (K : lK p l e s m below meth c g b i cells slots)
    {I : gI} {R : gR} {J : gJ} {AI : gI} {AJ : gJ} {AR : gR} {H : Heap} {locs : List Loc} {ls : Array Slot} (hI : lInv g I R AI AR) (hH : gH (gW g (I, AI)) I R J AI AJ AR H) (hS : va_S (gA g) s.heap H locs) (hl : lv_has ls 7 (lV g b i)) :
    W p l e room_1 s m #[Value.ref b] below meth c H locs cells slots (lw_Z below #[Value.ref b] s) (F0 m 597 ls []) := by
  obtain ⟨Fa, Ta, hOK, hZ, hX, hbl, hL, hst⟩ := C
  have F := Fa (I, AI)
  have hz : gZ g ≤ s.heap.size := Nat.le_of_eq hZ
  obtain ⟨hv, hmv, pA, q, bA, nA, hQ⟩ := hI
  have hx := hQ.1
  have hlen := hQ.2.2.2.1
  have hBq := hQ.2.2.2.2.1
  have hx0 : xS (gW g (I, AI)) (hG0 (gZ g)) R AR (gZ g + 0) pA bA nA := hx
  have h37 : hG0 (gZ g) 42 0 ≠ 1 := by show (0 : Nat) ≠ 1; decide
  have hE9 := hQ.2.2.2.2.2.2
  obtain ⟨nr, tbs8, cc, cl, ⟨q1, rfl, q3⟩, hQ8, hB8⟩ := id hE9
  have hP8 : lP8 g I AR AI pA nr (I pA 2).toInt cc cl := ⟨q1, rfl, q3⟩
  have hnb8 : (I (gZ g + 179) 3).toInt = (((I (gZ g + 179) 3).toInt.toNat : Nat) : Int) := (Int.toNat_of_nonneg hBq.2.1.1).symm
  have hln : (I (gZ g + 0) 1).toInt = (I (gZ g + 205) 16).toInt := hlen.1
  obtain ⟨a1, za1, ha1⟩ := l_val xs (i + 1).toNat
  obtain ⟨a2, za2, ha2⟩ := l_val xs (i + 2).toNat
  obtain ⟨a3, za3, ha3⟩ := l_val xs (i + 3).toNat
  obtain ⟨a4, za4, ha4⟩ := l_val xs (i + 4).toNat
  obtain ⟨a5, za5, ha5⟩ := l_val xs (i + 5).toNat
  refine lv_aload_n F.1 F.2.1 dL_law_597 rfl (lv_at hl 2 rfl) ?_
  refine lv_aload_n F.1 F.2.1 dL_law_598 rfl (lv_at hl 1 rfl) ?_
  refine lv_iload F.1 F.2.1 dL_law_599 (lv_at hl 0 rfl) ?_
  refine z_iconst F dL_law_601 ?_
  refine z_iadd F dL_law_602 ?_
  refine l_sld F.1 F.2.1 hX hbl hZ hS (z := i + 1) (by omega) (by omega) (by omega) ha1 dL_law_603 ?_
  refine lv_aload_n F.1 F.2.1 dL_law_604 rfl (lv_at hl 1 rfl) ?_
  refine lv_iload F.1 F.2.1 dL_law_605 (lv_at hl 0 rfl) ?_
  refine z_iconst F dL_law_607 ?_
  refine z_iadd F dL_law_608 ?_
  refine l_sld F.1 F.2.1 hX hbl hZ hS (z := i + 2) (by omega) (by omega) (by omega) ha2 dL_law_609 ?_
  refine lv_aload_n F.1 F.2.1 dL_law_610 rfl (lv_at hl 1 rfl) ?_
  refine lv_iload F.1 F.2.1 dL_law_611 (lv_at hl 0 rfl) ?_
  refine z_iconst F dL_law_613 ?_
  refine z_iadd F dL_law_614 ?_
  refine l_sld F.1 F.2.1 hX hbl hZ hS (z := i + 3) (by omega) (by omega) (by omega) ha3 dL_law_615 ?_
  refine lv_aload_n F.1 F.2.1 dL_law_616 rfl (lv_at hl 1 rfl) ?_
  refine lv_iload F.1 F.2.1 dL_law_617 (lv_at hl 0 rfl) ?_
  refine z_iconst F dL_law_619 ?_
  refine z_iadd F dL_law_620 ?_
  refine l_sld F.1 F.2.1 hX hbl hZ hS (z := i + 4) (by omega) (by omega) (by omega) ha4 dL_law_621 ?_
  refine lv_aload_n F.1 F.2.1 dL_law_622 rfl (lv_at hl 1 rfl) ?_
  refine lv_iload F.1 F.2.1 dL_law_623 (lv_at hl 0 rfl) ?_
  refine z_iconst F dL_law_625 ?_
  refine z_iadd F dL_law_626 ?_
  refine l_sld F.1 F.2.1 hX hbl hZ hS (z := i + 5) (by omega) (by omega) (by omega) ha5 dL_law_627 ?_
  refine lv_aload_n F.1 F.2.1 dL_law_628 rfl (lv_at hl 4 rfl) ?_
  refine g_calliX (g_runSXW (As := [.ref (gZ g + 0), .int (iI a1), .int (iI a2), .int (iI a3), .int (iI a4), .int (iI a5), .ref (gZ g + 222)]) (rest := []) F (Ta (I, AI)) hl.1 hH hS hz (c_L_countg l (gW g (I, AI)) (hG (gZ g)) pA bA nA nr cc cl I R J AI AJ AR (gZ g + 0) a1 a2 a3 a4 a5 (gZ g + 222) za1 za2 za3 za4 za5 hv hx (l_ou hOK) hP8.1 hP8.2.2.2.1 (e_bgC hQ8) hst) (vx_cwSW 7 F.2.2.2.2.1 gTB_L_L_count rfl rfl rfl hdL_count.2 ⟨Nat.le_of_ble_eq_true rfl, Nat.le_of_ble_eq_true rfl⟩) rfl rfl (Nat.le_of_ble_eq_true rfl) dL_law_629 ⟨hcs.1, hcs.2⟩) hS (fun ce9 q9 I9 R9 J9 AI9 AJ9 AR9 H9 locs9 hp _ _ _ _ _ => False.elim hp) (fun v1 I1 R1 J1 AI1 AJ1 AR1 H locs zv1 hp hH hS => ?_)
  dsimp only at hp
  obtain ⟨rfl, rfl, rfl, rfl, hv1, an1, an1, _, f31⟩ := hp
  have hv0 : gInv (gW g (I, AI)) (hG0 (gZ g)) R AR I AI1 := gInv_dn hv1
  have hx1 : xS (gW g (I, AI)) (hG (gZ g)) R AR (gZ g + 0) pA bA nA := hx
  have hmv := l_mid (I1 := I) (AI1 := AI1) hmv hv0 (fun _ _ => rfl)
  have hmo := l_mo1 hOK hv0
  have e6 : I (gZ g + 0) 1 = I (gZ g + 0) 1 := rfl
  have hkC : kC8 g AR bA I AI I AI1 := kC_29 hv0 hx f31
  have hH : gH (gW g (I, AI1)) I R J AI1 AJ1 AR H := gH_W hH
  have F := Fa (I, AI1)
  refine lv_istore (lv' := [(5, .int (iI v1)), (4, .int (iI i)), (0, .ref b), (1, .ref (gZ g + 0)), (2, .ref (gZ g + 205)), (3, .ref (gZ g + 222))]) F.1 F.2.1 dL_law_632 hl (by decide) rfl (fun ls hl => ?_)
  refine lv_aload_n F.1 F.2.1 dL_law_634 rfl (lv_at hl 4 rfl) ?_
  refine lv_aload_n F.1 F.2.1 dL_law_635 rfl (lv_at hl 2 rfl) ?_
  refine lv_iload F.1 F.2.1 dL_law_636 (lv_at hl 1 rfl) ?_
  refine z_iconst F dL_law_638 ?_
  refine z_iadd F dL_law_639 ?_
  refine l_sld F.1 F.2.1 hX hbl hZ hS (z := i + 1) (by omega) (by omega) (by omega) ha1 dL_law_640 ?_
  refine lv_aload_n F.1 F.2.1 dL_law_641 rfl (lv_at hl 2 rfl) ?_
  refine lv_iload F.1 F.2.1 dL_law_642 (lv_at hl 1 rfl) ?_
  refine z_iconst F dL_law_644 ?_
  refine z_iadd F dL_law_645 ?_
  refine l_sld F.1 F.2.1 hX hbl hZ hS (z := i + 2) (by omega) (by omega) (by omega) ha2 dL_law_646 ?_
  refine lv_aload_n F.1 F.2.1 dL_law_647 rfl (lv_at hl 2 rfl) ?_
  refine lv_iload F.1 F.2.1 dL_law_648 (lv_at hl 1 rfl) ?_
  refine z_iconst F dL_law_650 ?_
  refine z_iadd F dL_law_651 ?_
  refine l_sld F.1 F.2.1 hX hbl hZ hS (z := i + 3) (by omega) (by omega) (by omega) ha3 dL_law_652 ?_
  refine lv_aload_n F.1 F.2.1 dL_law_653 rfl (lv_at hl 2 rfl) ?_
  refine lv_iload F.1 F.2.1 dL_law_654 (lv_at hl 1 rfl) ?_
  refine z_iconst F dL_law_656 ?_
  refine z_iadd F dL_law_657 ?_
  refine l_sld F.1 F.2.1 hX hbl hZ hS (z := i + 4) (by omega) (by omega) (by omega) ha4 dL_law_658 ?_
  refine lv_aload_n F.1 F.2.1 dL_law_659 rfl (lv_at hl 2 rfl) ?_
  refine lv_iload F.1 F.2.1 dL_law_660 (lv_at hl 1 rfl) ?_
  refine z_iconst F dL_law_662 ?_
  refine z_iadd F dL_law_663 ?_
  refine l_sld F.1 F.2.1 hX hbl hZ hS (z := i + 5) (by omega) (by omega) (by omega) ha5 dL_law_664 ?_
  refine g_calli (g_runV (As := [.int (iI a1), .int (iI a2), .int (iI a3), .int (iI a4), .int (iI a5)]) (rest := []) (ci := 7) F hl.1 hH hS hz (c_X7_countg l (gW g (I, AI1)) (hGm (gZ g)) (AI1 (hGm (gZ g) 50 0)) nr cl I R J AI1 AJ1 AR (gZ g + 205) a1 a2 a3 a4 a5 za1 za2 za3 za4 za5 hmv (l_mo hOK) rfl (m_mr hOK hv0 hP8) (m_bg hv0 hQ8)) (cwV 5 F.2.2.2.2.1 gTB_L_X7_count rfl rfl rfl hdX7_count ⟨Nat.le_of_ble_eq_true rfl, Nat.le_of_ble_eq_true rfl⟩) (l_mo hOK) (by decide) rfl rfl rfl (Nat.le_of_ble_eq_true rfl) dL_law_665 ⟨hcs.1, hcs.2⟩) hS (fun v2 I2 R2 J2 AI2 AJ2 AR2 H locs zv2 hp hH hS => ?_)
  dsimp only at hp
  obtain ⟨rfl, rfl, rfl, rfl, hmv2, ht2, mf, an2, h8, f32⟩ := hp
  have hE8 : lE8 g I2 AR AI2 pA bA nA := lE_k8 hOK hv0 hx1 hE9 (fun _ _ _ _ _ => rfl) hkC hmv2 ht2 (by rw [mf 2 (by decide) (by decide) (by decide) (by decide) (by decide)]) (s_g (fun b _ _ _ a _ => f32 b a)) h8 (lB_m hOK hv1 hmv2)
  have hE : lInv g I2 R AI2 AR := l_end hOK hQ hv0 hx1 hQ.2.1 (fun _ _ _ _ _ => rfl) hmv2 ht2 (by rw [mf 2 (by decide) (by decide) (by decide) (by decide) (by decide)]) (by rw [e6, mf 16 (by decide) (by decide) (by decide) (by decide) (by decide), hmo]; exact hln) (by rw [e6]; exact Int.le_refl _) (l_bk hOK hBq hv1 hmv2 (by rw [mf 14 (by decide) (by decide) (by decide) (by decide) (by decide)])) hE8
  have hH : gH (gW g (I2, AI2)) I2 R J AI2 AJ1 AR H := gH_W hH
  have F := Fa (I2, AI2)
  refine lv_istore (lv' := [(6, .int (iI v2)), (5, .int (iI v1)), (4, .int (iI i)), (0, .ref b), (1, .ref (gZ g + 0)), (2, .ref (gZ g + 205)), (3, .ref (gZ g + 222))]) F.1 F.2.1 dL_law_668 hl (by decide) rfl (fun ls hl => ?_)
  refine z_goto (tgt := 1068) F dL_law_670 (by decide) ?_
  exact K I2 R J AI2 AJ1 AR H locs ls hE hH hS (lv_sub hl [2, 3, 4, 5, 6] rfl)
