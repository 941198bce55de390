set_option maxHeartbeats 4000000 in
set_option maxRecDepth 100000 in
theorem lc_17 {p : Program} {l : Launch} {e : Env} {s : State} {m : MethodId} {below : List Frame} {meth : Method} {c : Code} {g : gG} {b L : Nat} {xs : Nat → Int32} {i : Int} {cells slots : Nat} (C : lF p l s m c g b L xs) (hi0 : 0 ≤ i) (hi7 : i + 7 ≤ (L : Int)) (hcs : cells + 1 ≤ 601024 ∧ slots + 6 ≤ 7293034) (K : lK p l e s m below meth c g b i cells slots)
    {I : gI} {R : gR} {J : gJ} {AI : gI} {AJ : gJ} {AR : gR} {H : Heap} {locs : List Loc} {ls : Array Slot} (hI : lInv g I R AI AR) (hH : gH (gW g (I, AI)) I R J AI AJ AR H) (hS : va_S (gA g) s.heap H locs) (hl : lv_has ls 7 (lV g b i)) :
    W p l e room_1 s m #[Value.ref b] below meth c H locs cells slots (lw_Z below #[Value.ref b] s) (F0 m 904 ls []) := by
  obtain ⟨Fa, Ta, hOK, hZ, hX, hbl, hL, hst⟩ := C
  have F := Fa (I, AI)
  have hz : gZ g ≤ s.heap.size := Nat.le_of_eq hZ
  obtain ⟨hv, hmv, pA, q, bA, nA, hQ⟩ := hI
  have hx := hQ.1
  have hlen := hQ.2.2.2.1
  have hBq := hQ.2.2.2.2.1
  have hx0 : xS (gW g (I, AI)) (hG0 (gZ g)) R AR (gZ g + 0) pA bA nA := hx
  have h37 : hG0 (gZ g) 42 0 ≠ 1 := by show (0 : Nat) ≠ 1; decide
  have hE9 := hQ.2.2.2.2.2.2
  obtain ⟨nr, tbs8, cc, cl, ⟨q1, rfl, q3⟩, hQ8, hB8⟩ := id hE9
  have hP8 : lP8 g I AR AI pA nr (I pA 2).toInt cc cl := ⟨q1, rfl, q3⟩
  have hnb8 : (I (gZ g + 179) 3).toInt = (((I (gZ g + 179) 3).toInt.toNat : Nat) : Int) := (Int.toNat_of_nonneg hBq.2.1.1).symm
  have hln : (I (gZ g + 0) 1).toInt = (I (gZ g + 205) 16).toInt := hlen.1
  obtain ⟨a1, za1, ha1⟩ := l_val xs (i + 1).toNat
  refine lv_aload_n F.1 F.2.1 dL_law_904 rfl (lv_at hl 2 rfl) ?_
  refine lv_aload_n F.1 F.2.1 dL_law_905 rfl (lv_at hl 1 rfl) ?_
  refine lv_iload F.1 F.2.1 dL_law_906 (lv_at hl 0 rfl) ?_
  refine z_iconst F dL_law_908 ?_
  refine z_iadd F dL_law_909 ?_
  refine l_sld F.1 F.2.1 hX hbl hZ hS (z := i + 1) (by omega) (by omega) (by omega) ha1 dL_law_910 ?_
  refine g_calli (g_runV (As := [.int (iI a1)]) (rest := []) (ci := 6) F hl.1 hH hS hz (c_X6_roundsf l (gW g (I, AI)) (hG (gZ g)) pA bA nA nr cc I R J AI AJ AR (gZ g + 0) a1 za1 hv hx hP8.1 hP8.2.2.2.1) (cwV 1 F.2.2.2.2.1 gTB_L_X6_rounds rfl rfl rfl hdX6_rounds ⟨Nat.le_of_ble_eq_true rfl, Nat.le_of_ble_eq_true rfl⟩) hx.1 (by decide) rfl rfl rfl (Nat.le_of_ble_eq_true rfl) dL_law_911 ⟨Nat.le_of_succ_le hcs.1, Nat.le_trans (Nat.le_add_right _ _) hcs.2⟩) hS (fun v1 I1 R1 J1 AI1 AJ1 AR1 H locs zv1 hp hH hS => ?_)
  dsimp only at hp
  obtain ⟨rfl, rfl, rfl, rfl, rfl, rfl, an1⟩ := hp
  have hv1 := hv
  have hv0 : gInv (gW g (I, AI)) (hG0 (gZ g)) R AR I AI := gInv_dn hv1
  have hx1 : xS (gW g (I, AI)) (hG (gZ g)) R AR (gZ g + 0) pA bA nA := hx
  have hmv := l_mid (I1 := I) (AI1 := AI) hmv hv0 (fun _ _ => rfl)
  have hmo := l_mo1 hOK hv0
  have e6 : I (gZ g + 0) 1 = I (gZ g + 0) 1 := rfl
  have hkC : kC8 g AR bA I AI I AI := kC_r
  have hH : gH (gW g (I, AI)) I R J AI AJ AR H := gH_W hH
  have F := Fa (I, AI)
  refine lv_pop F.1 F.2.1 dL_law_914 rfl ?_
  refine lv_aload_n F.1 F.2.1 dL_law_915 rfl (lv_at hl 3 rfl) ?_
  refine lv_aload_n F.1 F.2.1 dL_law_916 rfl (lv_at hl 1 rfl) ?_
  refine lv_iload F.1 F.2.1 dL_law_917 (lv_at hl 0 rfl) ?_
  refine z_iconst F dL_law_919 ?_
  refine z_iadd F dL_law_920 ?_
  refine l_sld F.1 F.2.1 hX hbl hZ hS (z := i + 1) (by omega) (by omega) (by omega) ha1 dL_law_921 ?_
  refine g_calli (g_runV (As := [.int (iI a1)]) (rest := []) (ci := 7) F hl.1 hH hS hz (c_X7_roundsg l (gW g (I, AI)) (hGm (gZ g)) (AI (hGm (gZ g) 50 0)) nr I R J AI AJ AR (gZ g + 205) a1 za1 hmv (l_mo hOK) rfl (m_mr hOK hv0 hP8)) (cwV 1 F.2.2.2.2.1 gTB_L_X7_rounds rfl rfl rfl hdX7_rounds ⟨Nat.le_of_ble_eq_true rfl, Nat.le_of_ble_eq_true rfl⟩) (l_mo hOK) (by decide) rfl rfl rfl (Nat.le_of_ble_eq_true rfl) dL_law_922 ⟨Nat.le_of_succ_le hcs.1, Nat.le_trans (Nat.le_add_right _ _) hcs.2⟩) hS (fun v2 I2 R2 J2 AI2 AJ2 AR2 H locs zv2 hp hH hS => ?_)
  dsimp only at hp
  obtain ⟨rfl, rfl, rfl, rfl, rfl, hmv2, mf, an2, h8⟩ := hp
  have hE8 : lE8 g I2 AR AI pA bA nA := lE_k8 hOK hv0 hx1 hE9 (fun _ _ _ _ _ => rfl) hkC hmv2 rfl (by rw [mf 2 (by decide) (by decide) (by decide) (by decide) (by decide)]) (s_all rfl) h8 (lB_m hOK hv1 hmv2)
  have hE : lInv g I2 R AI AR := l_end hOK hQ hv0 hx1 hQ.2.1 (fun _ _ _ _ _ => rfl) hmv2 rfl (by rw [mf 2 (by decide) (by decide) (by decide) (by decide) (by decide)]) (by rw [e6, mf 16 (by decide) (by decide) (by decide) (by decide) (by decide), hmo]; exact hln) (by rw [e6]; exact Int.le_refl _) (l_bk hOK hBq hv1 hmv2 (by rw [mf 14 (by decide) (by decide) (by decide) (by decide) (by decide)])) hE8
  have hH : gH (gW g (I2, AI)) I2 R J AI AJ AR H := gH_W hH
  have F := Fa (I2, AI)
  refine lv_pop F.1 F.2.1 dL_law_925 rfl ?_
  refine z_goto (tgt := 1068) F dL_law_926 (by decide) ?_
  exact W.widen (Nat.le_add_right _ _) (Nat.le_add_right _ _) (K I2 R J AI AJ AR H locs ls hE hH hS (lv_sub hl [0, 1, 2, 3, 4] rfl))

set_option maxHeartbeats 4000000 in
set_option maxRecDepth 100000 in
theorem lc_18 {p : Program} {l : Launch} {e : Env} {s : State} {m : MethodId} {below : List Frame} {meth : Method} {c : Code} {g : gG} {b L : Nat} {xs : Nat → Int32} {i : Int} {cells slots : Nat} (C : lF p l s m c g b L xs) (hi0 : 0 ≤ i) (hi7 : i + 7 ≤ (L : Int)) (hcs : cells + 1 ≤ 601024 ∧ slots + 6 ≤ 7293034) (K : lK p l e s m below meth c g b i cells slots)
    {I : gI} {R : gR} {J : gJ} {AI : gI} {AJ : gJ} {AR : gR} {H : Heap} {locs : List Loc} {ls : Array Slot} (hI : lInv g I R AI AR) (hH : gH (gW g (I, AI)) I R J AI AJ AR H) (hS : va_S (gA g) s.heap H locs) (hl : lv_has ls 7 (lV g b i)) :
    W p l e room_1 s m #[Value.ref b] below meth c H locs cells slots (lw_Z below #[Value.ref b] s) (F0 m 929 ls []) := by
  obtain ⟨Fa, Ta, hOK, hZ, hX, hbl, hL, hst⟩ := C
  have F := Fa (I, AI)
  have hz : gZ g ≤ s.heap.size := Nat.le_of_eq hZ
  obtain ⟨hv, hmv, pA, q, bA, nA, hQ⟩ := hI
  have hx := hQ.1
  have hlen := hQ.2.2.2.1
  have hBq := hQ.2.2.2.2.1
  have hx0 : xS (gW g (I, AI)) (hG0 (gZ g)) R AR (gZ g + 0) pA bA nA := hx
  have h37 : hG0 (gZ g) 42 0 ≠ 1 := by show (0 : Nat) ≠ 1; decide
  have hE9 := hQ.2.2.2.2.2.2
  obtain ⟨nr, tbs8, cc, cl, ⟨q1, rfl, q3⟩, hQ8, hB8⟩ := id hE9
  have hP8 : lP8 g I AR AI pA nr (I pA 2).toInt cc cl := ⟨q1, rfl, q3⟩
  have hnb8 : (I (gZ g + 179) 3).toInt = (((I (gZ g + 179) 3).toInt.toNat : Nat) : Int) := (Int.toNat_of_nonneg hBq.2.1.1).symm
  have hln : (I (gZ g + 0) 1).toInt = (I (gZ g + 205) 16).toInt := hlen.1
  obtain ⟨a1, za1, ha1⟩ := l_val xs (i + 1).toNat
  refine lv_aload_n F.1 F.2.1 dL_law_929 rfl (lv_at hl 2 rfl) ?_
  refine lv_aload_n F.1 F.2.1 dL_law_930 rfl (lv_at hl 1 rfl) ?_
  refine lv_iload F.1 F.2.1 dL_law_931 (lv_at hl 0 rfl) ?_
  refine z_iconst F dL_law_933 ?_
  refine z_iadd F dL_law_934 ?_
  refine l_sld F.1 F.2.1 hX hbl hZ hS (z := i + 1) (by omega) (by omega) (by omega) ha1 dL_law_935 ?_
  refine g_calli (g_runV (As := [.int (iI a1)]) (rest := []) (ci := 6) F hl.1 hH hS hz (c_X6_differsg l (gW g (I, AI)) (hG (gZ g)) pA bA nA nr cc cl I R J AI AJ AR (gZ g + 0) a1 za1 hv hx hP8.1 hP8.2.2.1 hP8.2.2.2.1 (e_hcK hP8) (e_bgC hQ8) hQ8.2.2.2.1 hQ8.2.2.2.2 ⟨_, eS_df hP8.2.2.1.2.1 hQ8.1⟩) (cwV 1 F.2.2.2.2.1 gTB_L_X6_differs rfl rfl rfl hdX6_differs ⟨Nat.le_of_ble_eq_true rfl, Nat.le_of_ble_eq_true rfl⟩) hx.1 (by decide) rfl rfl rfl (Nat.le_of_ble_eq_true rfl) dL_law_936 ⟨Nat.le_of_succ_le hcs.1, Nat.le_trans (Nat.le_add_right _ _) hcs.2⟩) hS (fun v1 I1 R1 J1 AI1 AJ1 AR1 H locs zv1 hp hH hS => ?_)
  dsimp only at hp
  obtain ⟨rfl, rfl, rfl, rfl, hv1, rf, an1, ⟨cs1, cx1, c37, c37a, c38⟩, fL⟩ := hp
  have hv0 : gInv (gW g (I, AI)) (hG0 (gZ g)) R AR I1 AI1 := gInv_dn hv1
  have hx1 : xS (gW g (I, AI)) (hG (gZ g)) R AR (gZ g + 0) pA bA nA := hx
  have hmv := l_mid (I1 := I1) (AI1 := AI1) hmv hv0 (fun _ _ => rfl)
  have hmo := l_mo1 hOK hv0
  have e6 : I1 (gZ g + 0) 1 = I (gZ g + 0) 1 := (congrFun (rf _ 6 hx.1 (by decide)) 1)
  have hkC : kC8 g AR bA I AI I1 AI1 := kC_w fL cs1 cx1 c38
  have hH : gH (gW g (I1, AI1)) I1 R J AI1 AJ AR H := gH_W hH
  have F := Fa (I1, AI1)
  refine lv_pop F.1 F.2.1 dL_law_939 rfl ?_
  refine lv_aload_n F.1 F.2.1 dL_law_940 rfl (lv_at hl 3 rfl) ?_
  refine lv_aload_n F.1 F.2.1 dL_law_941 rfl (lv_at hl 1 rfl) ?_
  refine lv_iload F.1 F.2.1 dL_law_942 (lv_at hl 0 rfl) ?_
  refine z_iconst F dL_law_944 ?_
  refine z_iadd F dL_law_945 ?_
  refine l_sld F.1 F.2.1 hX hbl hZ hS (z := i + 1) (by omega) (by omega) (by omega) ha1 dL_law_946 ?_
  refine g_calli (g_runV (As := [.int (iI a1)]) (rest := []) (ci := 7) F hl.1 hH hS hz (c_X7_differsg l (gW g (I1, AI1)) (hGm (gZ g)) (AI1 (hGm (gZ g) 50 0)) (I pA 2).toInt nr cc cl I1 R J AI1 AJ AR (gZ g + 205) a1 za1 hmv (l_mo hOK) rfl (m_mr hOK hv0 hP8) (m_pl hv0 hP8) (m_bg hv0 hQ8) (m_vw hv0 hQ8)) (cwV 1 F.2.2.2.2.1 gTB_L_X7_differs rfl rfl rfl hdX7_differs ⟨Nat.le_of_ble_eq_true rfl, Nat.le_of_ble_eq_true rfl⟩) (l_mo hOK) (by decide) rfl rfl rfl (Nat.le_of_ble_eq_true rfl) dL_law_947 ⟨Nat.le_of_succ_le hcs.1, Nat.le_trans (Nat.le_add_right _ _) hcs.2⟩) hS (fun v2 I2 R2 J2 AI2 AJ2 AR2 H locs zv2 hp hH hS => ?_)
  dsimp only at hp
  obtain ⟨rfl, rfl, rfl, rfl, hmv2, ht2, mf, an2, h8⟩ := hp
  have hE8 : lE8 g I2 AR AI2 pA bA nA := lE_k8 hOK hv0 hx1 hE9 (fun b c hb h4 _ => rf b c hb h4) hkC hmv2 ht2 (by rw [mf 2 (by decide) (by decide) (by decide) (by decide) (by decide)]) (by rcases an2 with ⟨_, _, e⟩ | ⟨_, _, d, _⟩; (· exact s_all e); (· exact s_sdK d)) h8 (lB_m hOK hv1 hmv2)
  have hE : lInv g I2 R AI2 AR := l_end hOK hQ hv0 hx1 hQ.2.1 (fun b c hb h4 _ => rf b c hb h4) hmv2 ht2 (by rw [mf 2 (by decide) (by decide) (by decide) (by decide) (by decide)]) (by rw [e6, mf 16 (by decide) (by decide) (by decide) (by decide) (by decide), hmo]; exact hln) (by rw [e6]; exact Int.le_refl _) (l_bk hOK hBq hv1 hmv2 (by rw [mf 14 (by decide) (by decide) (by decide) (by decide) (by decide)])) hE8
  have hH : gH (gW g (I2, AI2)) I2 R J AI2 AJ AR H := gH_W hH
  have F := Fa (I2, AI2)
  refine lv_pop F.1 F.2.1 dL_law_950 rfl ?_
  refine z_goto (tgt := 1068) F dL_law_951 (by decide) ?_
  exact W.widen (Nat.le_add_right _ _) (Nat.le_add_right _ _) (K I2 R J AI2 AJ AR H locs ls hE hH hS (lv_sub hl [0, 1, 2, 3, 4] rfl))

set_option maxHeartbeats 4000000 in
set_option maxRecDepth 100000 in
theorem lc_19 {p : Program} {l : Launch} {e : Env} {s : State} {m : MethodId} {below : List Frame} {meth : Method} {c : Code} {g : gG} {b L : Nat} {xs : Nat → Int32} {i : Int} {cells slots : Nat} (C : lF p l s m c g b L xs) (hi0 : 0 ≤ i) (hi7 : i + 7 ≤ (L : Int)) (hcs : cells + 1 ≤ 601024 ∧ slots + 6 ≤ 7293034) (K : lK p l e s m below meth c g b i cells slots)
    {I : gI} {R : gR} {J : gJ} {AI : gI} {AJ : gJ} {AR : gR} {H : Heap} {locs : List Loc} {ls : Array Slot} (hI : lInv g I R AI AR) (hH : gH (gW g (I, AI)) I R J AI AJ AR H) (hS : va_S (gA g) s.heap H locs) (hl : lv_has ls 7 (lV g b i)) :
    W p l e room_1 s m #[Value.ref b] below meth c H locs cells slots (lw_Z below #[Value.ref b] s) (F0 m 954 ls []) := by
  obtain ⟨Fa, Ta, hOK, hZ, hX, hbl, hL, hst⟩ := C
  have F := Fa (I, AI)
  have hz : gZ g ≤ s.heap.size := Nat.le_of_eq hZ
  obtain ⟨hv, hmv, pA, q, bA, nA, hQ⟩ := hI
  have hx := hQ.1
  have hlen := hQ.2.2.2.1
  have hBq := hQ.2.2.2.2.1
  have hx0 : xS (gW g (I, AI)) (hG0 (gZ g)) R AR (gZ g + 0) pA bA nA := hx
  have h37 : hG0 (gZ g) 42 0 ≠ 1 := by show (0 : Nat) ≠ 1; decide
  have hE9 := hQ.2.2.2.2.2.2
  obtain ⟨nr, tbs8, cc, cl, ⟨q1, rfl, q3⟩, hQ8, hB8⟩ := id hE9
  have hP8 : lP8 g I AR AI pA nr (I pA 2).toInt cc cl := ⟨q1, rfl, q3⟩
  have hnb8 : (I (gZ g + 179) 3).toInt = (((I (gZ g + 179) 3).toInt.toNat : Nat) : Int) := (Int.toNat_of_nonneg hBq.2.1.1).symm
  have hln : (I (gZ g + 0) 1).toInt = (I (gZ g + 205) 16).toInt := hlen.1
  obtain ⟨a1, za1, ha1⟩ := l_val xs (i + 1).toNat
  obtain ⟨a2, za2, ha2⟩ := l_val xs (i + 2).toNat
  refine lv_aload_n F.1 F.2.1 dL_law_954 rfl (lv_at hl 2 rfl) ?_
  refine lv_aload_n F.1 F.2.1 dL_law_955 rfl (lv_at hl 1 rfl) ?_
  refine lv_iload F.1 F.2.1 dL_law_956 (lv_at hl 0 rfl) ?_
  refine z_iconst F dL_law_958 ?_
  refine z_iadd F dL_law_959 ?_
  refine l_sld F.1 F.2.1 hX hbl hZ hS (z := i + 1) (by omega) (by omega) (by omega) ha1 dL_law_960 ?_
  refine lv_aload_n F.1 F.2.1 dL_law_961 rfl (lv_at hl 1 rfl) ?_
  refine lv_iload F.1 F.2.1 dL_law_962 (lv_at hl 0 rfl) ?_
  refine z_iconst F dL_law_964 ?_
  refine z_iadd F dL_law_965 ?_
  refine l_sld F.1 F.2.1 hX hbl hZ hS (z := i + 2) (by omega) (by omega) (by omega) ha2 dL_law_966 ?_
  refine g_calli (g_runV (As := [.int (iI a1), .int (iI a2)]) (rest := []) (ci := 6) F hl.1 hH hS hz (c_X6_of l (gW g (I, AI)) (hG (gZ g)) pA bA nA I R J AI AJ AR (gZ g + 0) a1 a2 za1 za2 hv hx) (cwV 2 F.2.2.2.2.1 gTB_L_X6_of rfl rfl rfl hdX6_of ⟨Nat.le_of_ble_eq_true rfl, Nat.le_of_ble_eq_true rfl⟩) hx.1 (by decide) rfl rfl rfl (Nat.le_of_ble_eq_true rfl) dL_law_967 ⟨Nat.le_of_succ_le hcs.1, Nat.le_trans (Nat.le_add_right _ _) hcs.2⟩) hS (fun v1 I1 R1 J1 AI1 AJ1 AR1 H locs zv1 hp hH hS => ?_)
  dsimp only at hp
  obtain ⟨rfl, rfl, rfl, rfl, rfl, rfl⟩ := hp
  have hv1 := hv
  have hv0 : gInv (gW g (I, AI)) (hG0 (gZ g)) R AR I AI := gInv_dn hv1
  have hx1 : xS (gW g (I, AI)) (hG (gZ g)) R AR (gZ g + 0) pA bA nA := hx
  have hmv := l_mid (I1 := I) (AI1 := AI) hmv hv0 (fun _ _ => rfl)
  have hmo := l_mo1 hOK hv0
  have e6 : I (gZ g + 0) 1 = I (gZ g + 0) 1 := rfl
  have hkC : kC8 g AR bA I AI I AI := kC_r
  have hH : gH (gW g (I, AI)) I R J AI AJ AR H := gH_W hH
  have F := Fa (I, AI)
  refine lv_pop F.1 F.2.1 dL_law_970 rfl ?_
  refine lv_aload_n F.1 F.2.1 dL_law_971 rfl (lv_at hl 3 rfl) ?_
  refine lv_aload_n F.1 F.2.1 dL_law_972 rfl (lv_at hl 1 rfl) ?_
  refine lv_iload F.1 F.2.1 dL_law_973 (lv_at hl 0 rfl) ?_
  refine z_iconst F dL_law_975 ?_
  refine z_iadd F dL_law_976 ?_
  refine l_sld F.1 F.2.1 hX hbl hZ hS (z := i + 1) (by omega) (by omega) (by omega) ha1 dL_law_977 ?_
  refine lv_aload_n F.1 F.2.1 dL_law_978 rfl (lv_at hl 1 rfl) ?_
  refine lv_iload F.1 F.2.1 dL_law_979 (lv_at hl 0 rfl) ?_
  refine z_iconst F dL_law_981 ?_
  refine z_iadd F dL_law_982 ?_
  refine l_sld F.1 F.2.1 hX hbl hZ hS (z := i + 2) (by omega) (by omega) (by omega) ha2 dL_law_983 ?_
  refine g_calli (g_runV (As := [.int (iI a1), .int (iI a2)]) (rest := []) (ci := 7) F hl.1 hH hS hz (c_X7_ofg l (gW g (I, AI)) (hGm (gZ g)) (AI (hGm (gZ g) 50 0)) I R J AI AJ AR (gZ g + 205) a1 a2 za1 za2 hmv (l_mo hOK) rfl) (cwV 2 F.2.2.2.2.1 gTB_L_X7_of rfl rfl rfl hdX7_of ⟨Nat.le_of_ble_eq_true rfl, Nat.le_of_ble_eq_true rfl⟩) (l_mo hOK) (by decide) rfl rfl rfl (Nat.le_of_ble_eq_true rfl) dL_law_984 ⟨Nat.le_of_succ_le hcs.1, Nat.le_trans (Nat.le_add_right _ _) hcs.2⟩) hS (fun v2 I2 R2 J2 AI2 AJ2 AR2 H locs zv2 hp hH hS => ?_)
  dsimp only at hp
  obtain ⟨rfl, rfl, rfl, rfl, rfl, hmv2, mf, h8⟩ := hp
  have hE8 : lE8 g I2 AR AI pA bA nA := lE_k8 hOK hv0 hx1 hE9 (fun _ _ _ _ _ => rfl) hkC hmv2 rfl (by rw [mf 2 (by decide) (by decide) (by decide) (by decide) (by decide)]) (s_all rfl) h8 (lB_m hOK hv1 hmv2)
  have hE : lInv g I2 R AI AR := l_end hOK hQ hv0 hx1 hQ.2.1 (fun _ _ _ _ _ => rfl) hmv2 rfl (by rw [mf 2 (by decide) (by decide) (by decide) (by decide) (by decide)]) (by rw [e6, mf 16 (by decide) (by decide) (by decide) (by decide) (by decide), hmo]; exact hln) (by rw [e6]; exact Int.le_refl _) (l_bk hOK hBq hv1 hmv2 (by rw [mf 14 (by decide) (by decide) (by decide) (by decide) (by decide)])) hE8
  have hH : gH (gW g (I2, AI)) I2 R J AI AJ AR H := gH_W hH
  have F := Fa (I2, AI)
  refine lv_pop F.1 F.2.1 dL_law_987 rfl ?_
  refine z_goto (tgt := 1068) F dL_law_988 (by decide) ?_
  exact W.widen (Nat.le_add_right _ _) (Nat.le_add_right _ _) (K I2 R J AI AJ AR H locs ls hE hH hS (lv_sub hl [0, 1, 2, 3, 4] rfl))

set_option maxHeartbeats 4000000 in
set_option maxRecDepth 100000 in
theorem lc_20 {p : Program} {l : Launch} {e : Env} {s : State} {m : MethodId} {below : List Frame} {meth : Method} {c : Code} {g : gG} {b L : Nat} {xs : Nat → Int32} {i : Int} {cells slots : Nat} (C : lF p l s m c g b L xs) (hi0 : 0 ≤ i) (hi7 : i + 7 ≤ (L : Int)) (hcs : cells + 1 ≤ 601024 ∧ slots + 6 ≤ 7293034) (K : lK p l e s m below meth c g b i cells slots)
    {I : gI} {R : gR} {J : gJ} {AI : gI} {AJ : gJ} {AR : gR} {H : Heap} {locs : List Loc} {ls : Array Slot} (hI : lInv g I R AI AR) (hH : gH (gW g (I, AI)) I R J AI AJ AR H) (hS : va_S (gA g) s.heap H locs) (hl : lv_has ls 7 (lV g b i)) :
    W p l e room_1 s m #[Value.ref b] below meth c H locs cells slots (lw_Z below #[Value.ref b] s) (F0 m 991 ls []) := by
  obtain ⟨Fa, Ta, hOK, hZ, hX, hbl, hL, hst⟩ := C
  have F := Fa (I, AI)
  have hz : gZ g ≤ s.heap.size := Nat.le_of_eq hZ
  obtain ⟨hv, hmv, pA, q, bA, nA, hQ⟩ := hI
  have hx := hQ.1
  have hlen := hQ.2.2.2.1
  have hBq := hQ.2.2.2.2.1
  have hx0 : xS (gW g (I, AI)) (hG0 (gZ g)) R AR (gZ g + 0) pA bA nA := hx
  have h37 : hG0 (gZ g) 42 0 ≠ 1 := by show (0 : Nat) ≠ 1; decide
  have hE9 := hQ.2.2.2.2.2.2
  obtain ⟨nr, tbs8, cc, cl, ⟨q1, rfl, q3⟩, hQ8, hB8⟩ := id hE9
  have hP8 : lP8 g I AR AI pA nr (I pA 2).toInt cc cl := ⟨q1, rfl, q3⟩
  have hnb8 : (I (gZ g + 179) 3).toInt = (((I (gZ g + 179) 3).toInt.toNat : Nat) : Int) := (Int.toNat_of_nonneg hBq.2.1.1).symm
  have hln : (I (gZ g + 0) 1).toInt = (I (gZ g + 205) 16).toInt := hlen.1
  obtain ⟨a1, za1, ha1⟩ := l_val xs (i + 1).toNat
  obtain ⟨a2, za2, ha2⟩ := l_val xs (i + 2).toNat
  obtain ⟨a3, za3, ha3⟩ := l_val xs (i + 3).toNat
  refine lv_aload_n F.1 F.2.1 dL_law_991 rfl (lv_at hl 2 rfl) ?_
  refine lv_aload_n F.1 F.2.1 dL_law_992 rfl (lv_at hl 1 rfl) ?_
  refine lv_iload F.1 F.2.1 dL_law_993 (lv_at hl 0 rfl) ?_
  refine z_iconst F dL_law_995 ?_
  refine z_iadd F dL_law_996 ?_
  refine l_sld F.1 F.2.1 hX hbl hZ hS (z := i + 1) (by omega) (by omega) (by omega) ha1 dL_law_997 ?_
  refine lv_aload_n F.1 F.2.1 dL_law_998 rfl (lv_at hl 1 rfl) ?_
  refine lv_iload F.1 F.2.1 dL_law_999 (lv_at hl 0 rfl) ?_
  refine z_iconst F dL_law_1001 ?_
  refine z_iadd F dL_law_1002 ?_
  refine l_sld F.1 F.2.1 hX hbl hZ hS (z := i + 2) (by omega) (by omega) (by omega) ha2 dL_law_1003 ?_
  refine lv_aload_n F.1 F.2.1 dL_law_1004 rfl (lv_at hl 1 rfl) ?_
  refine lv_iload F.1 F.2.1 dL_law_1005 (lv_at hl 0 rfl) ?_
  refine z_iconst F dL_law_1007 ?_
  refine z_iadd F dL_law_1008 ?_
  refine l_sld F.1 F.2.1 hX hbl hZ hS (z := i + 3) (by omega) (by omega) (by omega) ha3 dL_law_1009 ?_
  refine lv_aload_n F.1 F.2.1 dL_law_1010 rfl (lv_at hl 4 rfl) ?_
  refine g_calliX (g_runSXW (As := [.ref (gZ g + 0), .int (iI a1), .int (iI a2), .int (iI a3), .ref (gZ g + 222)]) (rest := []) F (Ta (I, AI)) hl.1 hH hS hz (c_L_columng l (gW g (I, AI)) (hG (gZ g)) pA bA nA I R J AI AJ AR (gZ g + 0) a1 a2 a3 (gZ g + 222) za1 za2 za3 hv hx (l_ou hOK) hst) (vx_cwSW 5 F.2.2.2.2.1 gTB_L_L_column rfl rfl rfl hdL_column.2 ⟨Nat.le_of_ble_eq_true rfl, Nat.le_of_ble_eq_true rfl⟩) rfl rfl (Nat.le_of_ble_eq_true rfl) dL_law_1011 ⟨hcs.1, hcs.2⟩) hS (fun ce9 q9 I9 R9 J9 AI9 AJ9 AR9 H9 locs9 hp _ _ _ _ _ => False.elim hp) (fun v1 I1 R1 J1 AI1 AJ1 AR1 H locs zv1 hp hH hS => ?_)
  dsimp only at hp
  obtain ⟨rfl, rfl, rfl, hv1, rf, an1, f11, f31⟩ := hp
  have hv0 : gInv (gW g (I, AI)) (hG0 (gZ g)) R AR I1 AI1 := gInv_dn hv1
  have hx1 : xS (gW g (I, AI)) (hG (gZ g)) R AR (gZ g + 0) pA bA nA := hx
  have hmv := l_mid (I1 := I1) (AI1 := AI1) hmv hv0 (fun _ _ => rfl)
  have hmo := l_mo1 hOK hv0
  have e6 : I1 (gZ g + 0) 1 = I (gZ g + 0) 1 := (congrFun (rf _ 6 hx.1 (by decide)) 1)
  have hkC : kC8 g AR bA I AI I1 AI1 := kC_40 hv0 hx hQ8.2.2.2.1 f11 f31
  have hH : gH (gW g (I1, AI1)) I1 R J AI1 AJ1 AR H := gH_W hH
  have F := Fa (I1, AI1)
  refine lv_istore (lv' := [(5, .int (iI v1)), (4, .int (iI i)), (0, .ref b), (1, .ref (gZ g + 0)), (2, .ref (gZ g + 205)), (3, .ref (gZ g + 222))]) F.1 F.2.1 dL_law_1014 hl (by decide) rfl (fun ls hl => ?_)
  refine lv_aload_n F.1 F.2.1 dL_law_1016 rfl (lv_at hl 4 rfl) ?_
  refine lv_aload_n F.1 F.2.1 dL_law_1017 rfl (lv_at hl 2 rfl) ?_
  refine lv_iload F.1 F.2.1 dL_law_1018 (lv_at hl 1 rfl) ?_
  refine z_iconst F dL_law_1020 ?_
  refine z_iadd F dL_law_1021 ?_
  refine l_sld F.1 F.2.1 hX hbl hZ hS (z := i + 1) (by omega) (by omega) (by omega) ha1 dL_law_1022 ?_
  refine lv_aload_n F.1 F.2.1 dL_law_1023 rfl (lv_at hl 2 rfl) ?_
  refine lv_iload F.1 F.2.1 dL_law_1024 (lv_at hl 1 rfl) ?_
  refine z_iconst F dL_law_1026 ?_
  refine z_iadd F dL_law_1027 ?_
  refine l_sld F.1 F.2.1 hX hbl hZ hS (z := i + 2) (by omega) (by omega) (by omega) ha2 dL_law_1028 ?_
  refine lv_aload_n F.1 F.2.1 dL_law_1029 rfl (lv_at hl 2 rfl) ?_
  refine lv_iload F.1 F.2.1 dL_law_1030 (lv_at hl 1 rfl) ?_
  refine z_iconst F dL_law_1032 ?_
  refine z_iadd F dL_law_1033 ?_
  refine l_sld F.1 F.2.1 hX hbl hZ hS (z := i + 3) (by omega) (by omega) (by omega) ha3 dL_law_1034 ?_
  refine g_calli (g_runV (As := [.int (iI a1), .int (iI a2), .int (iI a3)]) (rest := []) (ci := 7) F hl.1 hH hS hz (c_X7_column_g l (gW g (I1, AI1)) (hGm (gZ g)) (AI1 (hGm (gZ g) 50 0)) nr I1 R J AI1 AJ1 AR (gZ g + 205) a1 a2 a3 za1 za2 za3 hmv (l_mo hOK) rfl (m_mr hOK hv0 hP8)) (cwV 3 F.2.2.2.2.1 gTB_L_X7_column_ rfl rfl rfl hdX7_column_ ⟨Nat.le_of_ble_eq_true rfl, Nat.le_of_ble_eq_true rfl⟩) (l_mo hOK) (by decide) rfl rfl rfl (Nat.le_of_ble_eq_true rfl) dL_law_1035 ⟨hcs.1, hcs.2⟩) hS (fun v2 I2 R2 J2 AI2 AJ2 AR2 H locs zv2 hp hH hS => ?_)
  dsimp only at hp
  obtain ⟨rfl, rfl, rfl, rfl, rfl, hmv2, mf, an2, h8⟩ := hp
  have hE8 : lE8 g I2 AR AI1 pA bA nA := lE_k8 hOK hv0 hx1 hE9 (fun b c hb h4 _ => rf b c hb h4) hkC hmv2 rfl (by rw [mf 2 (by decide) (by decide) (by decide) (by decide) (by decide)]) (s_all rfl) h8 (lB_m hOK hv1 hmv2)
  have hE : lInv g I2 R AI1 AR := l_end hOK hQ hv0 hx1 hQ.2.1 (fun b c hb h4 _ => rf b c hb h4) hmv2 rfl (by rw [mf 2 (by decide) (by decide) (by decide) (by decide) (by decide)]) (by rw [e6, mf 16 (by decide) (by decide) (by decide) (by decide) (by decide), hmo]; exact hln) (by rw [e6]; exact Int.le_refl _) (l_bk hOK hBq hv1 hmv2 (by rw [mf 14 (by decide) (by decide) (by decide) (by decide) (by decide)])) hE8
  have hH : gH (gW g (I2, AI1)) I2 R J AI1 AJ1 AR H := gH_W hH
  have F := Fa (I2, AI1)
  refine lv_istore (lv' := [(6, .int (iI v2)), (5, .int (iI v1)), (4, .int (iI i)), (0, .ref b), (1, .ref (gZ g + 0)), (2, .ref (gZ g + 205)), (3, .ref (gZ g + 222))]) F.1 F.2.1 dL_law_1038 hl (by decide) rfl (fun ls hl => ?_)
  refine z_goto (tgt := 1068) F dL_law_1040 (by decide) ?_
  exact K I2 R J AI1 AJ1 AR H locs ls hE hH hS (lv_sub hl [2, 3, 4, 5, 6] rfl)

set_option maxHeartbeats 4000000 in
set_option maxRecDepth 100000 in
theorem lc_21 {p : Program} {l : Launch} {e : Env} {s : State} {m : MethodId} {below : List Frame} {meth : Method} {c : Code} {g : gG} {b L : Nat} {xs : Nat → Int32} {i : Int} {cells slots : Nat} (C : lF p l s m c g b L xs) (hi0 : 0 ≤ i) (hi7 : i + 7 ≤ (L : Int)) (hcs : cells + 1 ≤ 601024 ∧ slots + 6 ≤ 7293034) (K : lK p l e s m below meth c g b i cells slots)
    {I : gI} {R : gR} {J : gJ} {AI : gI} {AJ : gJ} {AR : gR} {H : Heap} {locs : List Loc} {ls : Array Slot} (hI : lInv g I R AI AR) (hH : gH (gW g (I, AI)) I R J AI AJ AR H) (hS : va_S (gA g) s.heap H locs) (hl : lv_has ls 7 (lV g b i)) :
    W p l e room_1 s m #[Value.ref b] below meth c H locs cells slots (lw_Z below #[Value.ref b] s) (F0 m 1043 ls []) := by
  obtain ⟨Fa, Ta, hOK, hZ, hX, hbl, hL, hst⟩ := C
  have F := Fa (I, AI)
  have hz : gZ g ≤ s.heap.size := Nat.le_of_eq hZ
  obtain ⟨hv, hmv, pA, q, bA, nA, hQ⟩ := hI
  have hx := hQ.1
  have hlen := hQ.2.2.2.1
  have hBq := hQ.2.2.2.2.1
  have hx0 : xS (gW g (I, AI)) (hG0 (gZ g)) R AR (gZ g + 0) pA bA nA := hx
  have h37 : hG0 (gZ g) 42 0 ≠ 1 := by show (0 : Nat) ≠ 1; decide
  have hE9 := hQ.2.2.2.2.2.2
  obtain ⟨nr, tbs8, cc, cl, ⟨q1, rfl, q3⟩, hQ8, hB8⟩ := id hE9
  have hP8 : lP8 g I AR AI pA nr (I pA 2).toInt cc cl := ⟨q1, rfl, q3⟩
  have hnb8 : (I (gZ g + 179) 3).toInt = (((I (gZ g + 179) 3).toInt.toNat : Nat) : Int) := (Int.toNat_of_nonneg hBq.2.1.1).symm
  have hln : (I (gZ g + 0) 1).toInt = (I (gZ g + 205) 16).toInt := hlen.1
  obtain ⟨a1, za1, ha1⟩ := l_val xs (i + 1).toNat
  refine lv_aload_n F.1 F.2.1 dL_law_1043 rfl (lv_at hl 2 rfl) ?_
  refine lv_aload_n F.1 F.2.1 dL_law_1044 rfl (lv_at hl 1 rfl) ?_
  refine lv_iload F.1 F.2.1 dL_law_1045 (lv_at hl 0 rfl) ?_
  refine z_iconst F dL_law_1047 ?_
  refine z_iadd F dL_law_1048 ?_
  refine l_sld F.1 F.2.1 hX hbl hZ hS (z := i + 1) (by omega) (by omega) (by omega) ha1 dL_law_1049 ?_
  refine g_calli (g_runV (As := [.int (iI a1)]) (rest := []) (ci := 6) F hl.1 hH hS hz (c_X6_toldf l (gW g (I, AI)) (hG (gZ g)) pA bA nA nr cc I R J AI AJ AR (gZ g + 0) a1 za1 hv hx hP8.1 hP8.2.2.1 hP8.2.2.2.1) (cwV 1 F.2.2.2.2.1 gTB_L_X6_told rfl rfl rfl hdX6_told ⟨Nat.le_of_ble_eq_true rfl, Nat.le_of_ble_eq_true rfl⟩) hx.1 (by decide) rfl rfl rfl (Nat.le_of_ble_eq_true rfl) dL_law_1050 ⟨Nat.le_of_succ_le hcs.1, Nat.le_trans (Nat.le_add_right _ _) hcs.2⟩) hS (fun v1 I1 R1 J1 AI1 AJ1 AR1 H locs zv1 hp hH hS => ?_)
  dsimp only at hp
  obtain ⟨rfl, rfl, rfl, rfl, rfl, rfl, an1⟩ := hp
  have hv1 := hv
  have hv0 : gInv (gW g (I, AI)) (hG0 (gZ g)) R AR I AI := gInv_dn hv1
  have hx1 : xS (gW g (I, AI)) (hG (gZ g)) R AR (gZ g + 0) pA bA nA := hx
  have hmv := l_mid (I1 := I) (AI1 := AI) hmv hv0 (fun _ _ => rfl)
  have hmo := l_mo1 hOK hv0
  have e6 : I (gZ g + 0) 1 = I (gZ g + 0) 1 := rfl
  have hkC : kC8 g AR bA I AI I AI := kC_r
  have hH : gH (gW g (I, AI)) I R J AI AJ AR H := gH_W hH
  have F := Fa (I, AI)
  refine lv_pop F.1 F.2.1 dL_law_1053 rfl ?_
  refine lv_aload_n F.1 F.2.1 dL_law_1054 rfl (lv_at hl 3 rfl) ?_
  refine lv_aload_n F.1 F.2.1 dL_law_1055 rfl (lv_at hl 1 rfl) ?_
  refine lv_iload F.1 F.2.1 dL_law_1056 (lv_at hl 0 rfl) ?_
  refine z_iconst F dL_law_1058 ?_
  refine z_iadd F dL_law_1059 ?_
  refine l_sld F.1 F.2.1 hX hbl hZ hS (z := i + 1) (by omega) (by omega) (by omega) ha1 dL_law_1060 ?_
  refine g_calli (g_runV (As := [.int (iI a1)]) (rest := []) (ci := 7) F hl.1 hH hS hz (c_X7_toldg l (gW g (I, AI)) (hGm (gZ g)) (AI (hGm (gZ g) 50 0)) (I pA 2).toInt nr cc cl I R J AI AJ AR (gZ g + 205) a1 za1 hmv (l_mo hOK) rfl (m_mr hOK hv0 hP8) (m_pl hv0 hP8) (m_bg hv0 hQ8) (m_b9 hv0 hQ8)) (cwV 1 F.2.2.2.2.1 gTB_L_X7_told rfl rfl rfl hdX7_told ⟨Nat.le_of_ble_eq_true rfl, Nat.le_of_ble_eq_true rfl⟩) (l_mo hOK) (by decide) rfl rfl rfl (Nat.le_of_ble_eq_true rfl) dL_law_1061 ⟨Nat.le_of_succ_le hcs.1, Nat.le_trans (Nat.le_add_right _ _) hcs.2⟩) hS (fun v2 I2 R2 J2 AI2 AJ2 AR2 H locs zv2 hp hH hS => ?_)
  dsimp only at hp
  obtain ⟨rfl, rfl, rfl, rfl, hmv2, ht2, mf, an2, an2, f32, h8⟩ := hp
  have hE8 : lE8 g I2 AR AI2 pA bA nA := lE_k8 hOK hv0 hx1 hE9 (fun _ _ _ _ _ => rfl) hkC hmv2 ht2 (by rw [mf 2 (by decide) (by decide) (by decide) (by decide) (by decide)]) (s_g (fun b _ _ _ _ a => f32 b a)) h8 (lB_m hOK hv1 hmv2)
  have hE : lInv g I2 R AI2 AR := l_end hOK hQ hv0 hx1 hQ.2.1 (fun _ _ _ _ _ => rfl) hmv2 ht2 (by rw [mf 2 (by decide) (by decide) (by decide) (by decide) (by decide)]) (by rw [e6, mf 16 (by decide) (by decide) (by decide) (by decide) (by decide), hmo]; exact hln) (by rw [e6]; exact Int.le_refl _) (l_bk hOK hBq hv1 hmv2 (by rw [mf 14 (by decide) (by decide) (by decide) (by decide) (by decide)])) hE8
  have hH : gH (gW g (I2, AI2)) I2 R J AI2 AJ AR H := gH_W hH
  have F := Fa (I2, AI2)
  refine lv_pop F.1 F.2.1 dL_law_1064 rfl ?_
  refine z_goto (tgt := 1068) F dL_law_1065 (by decide) ?_
  exact W.widen (Nat.le_add_right _ _) (Nat.le_add_right _ _) (K I2 R J AI2 AJ AR H locs ls hE hH hS (lv_sub hl [0, 1, 2, 3, 4] rfl))
