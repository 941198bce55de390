set_option maxHeartbeats 4000000 in
set_option maxRecDepth 100000 in
theorem lc_12 {p : Program} {l : Launch} {e : Env} {s : State} {m : MethodId} {below : List Frame} {meth : Method} {c : Code} {g : gG} {b L : Nat} {xs : Nat → Int32} {i : Int} {cells slots : Nat} (C : lF p l s m c g b L xs) (hi0 : 0 ≤ i) (hi7 : i + 7 ≤ (L : Int)) (hcs : cells + 1 ≤ 601024 ∧ slots + 6 ≤ 7293034) (K : lK p l e s m below meth c g b i cells slots)
    {I : gI} {R : gR} {J : gJ} {AI : gI} {AJ : gJ} {AR : gR} {H : Heap} {locs : List Loc} {ls : Array Slot} (hI : lInv g I R AI AR) (hH : gH (gW g (I, AI)) I R J AI AJ AR H) (hS : va_S (gA g) s.heap H locs) (hl : lv_has ls 7 (lV g b i)) :
    W p l e room_1 s m #[Value.ref b] below meth c H locs cells slots (lw_Z below #[Value.ref b] s) (F0 m 673 ls []) := by
  obtain ⟨Fa, Ta, hOK, hZ, hX, hbl, hL, hst⟩ := C
  have F := Fa (I, AI)
  have hz : gZ g ≤ s.heap.size := Nat.le_of_eq hZ
  obtain ⟨hv, hmv, pA, q, bA, nA, hQ⟩ := hI
  have hx := hQ.1
  have hlen := hQ.2.2.2.1
  have hBq := hQ.2.2.2.2.1
  have hx0 : xS (gW g (I, AI)) (hG0 (gZ g)) R AR (gZ g + 0) pA bA nA := hx
  have h37 : hG0 (gZ g) 42 0 ≠ 1 := by show (0 : Nat) ≠ 1; decide
  have hE9 := hQ.2.2.2.2.2.2
  obtain ⟨nr, tbs8, cc, cl, ⟨q1, rfl, q3⟩, hQ8, hB8⟩ := id hE9
  have hP8 : lP8 g I AR AI pA nr (I pA 2).toInt cc cl := ⟨q1, rfl, q3⟩
  have hnb8 : (I (gZ g + 179) 3).toInt = (((I (gZ g + 179) 3).toInt.toNat : Nat) : Int) := (Int.toNat_of_nonneg hBq.2.1.1).symm
  have hln : (I (gZ g + 0) 1).toInt = (I (gZ g + 205) 16).toInt := hlen.1
  obtain ⟨a1, za1, ha1⟩ := l_val xs (i + 1).toNat
  refine lv_aload_n F.1 F.2.1 dL_law_673 rfl (lv_at hl 2 rfl) ?_
  refine lv_aload_n F.1 F.2.1 dL_law_674 rfl (lv_at hl 1 rfl) ?_
  refine lv_iload F.1 F.2.1 dL_law_675 (lv_at hl 0 rfl) ?_
  refine z_iconst F dL_law_677 ?_
  refine z_iadd F dL_law_678 ?_
  refine l_sld F.1 F.2.1 hX hbl hZ hS (z := i + 1) (by omega) (by omega) (by omega) ha1 dL_law_679 ?_
  refine lv_aload_n F.1 F.2.1 dL_law_680 rfl (lv_at hl 4 rfl) ?_
  refine g_calliX (g_runSXW (As := [.ref (gZ g + 0), .int (iI a1), .ref (gZ g + 222)]) (rest := []) F (Ta (I, AI)) hl.1 hH hS hz (c_L_totalf l (gW g (I, AI)) (hG (gZ g)) pA bA nA nr I R J AI AJ AR (gZ g + 0) a1 (gZ g + 222) za1 hv hx (l_ou hOK) hP8.1 hst) (vx_cwSW 3 F.2.2.2.2.1 gTB_L_L_total rfl rfl rfl hdL_total.2 ⟨Nat.le_of_ble_eq_true rfl, Nat.le_of_ble_eq_true rfl⟩) rfl rfl (Nat.le_of_ble_eq_true rfl) dL_law_681 ⟨hcs.1, hcs.2⟩) hS (fun ce9 q9 I9 R9 J9 AI9 AJ9 AR9 H9 locs9 hp _ _ _ _ _ => False.elim hp) (fun v1 I1 R1 J1 AI1 AJ1 AR1 H locs zv1 hp hH hS => ?_)
  dsimp only at hp
  obtain ⟨rfl, rfl, rfl, rfl, rfl, hv1, an1, an1, _⟩ := hp
  have hv0 : gInv (gW g (I, AI)) (hG0 (gZ g)) R AR I AI := gInv_dn hv1
  have hx1 : xS (gW g (I, AI)) (hG (gZ g)) R AR (gZ g + 0) pA bA nA := hx
  have hmv := l_mid (I1 := I) (AI1 := AI) hmv hv0 (fun _ _ => rfl)
  have hmo := l_mo1 hOK hv0
  have e6 : I (gZ g + 0) 1 = I (gZ g + 0) 1 := rfl
  have hkC : kC8 g AR bA I AI I AI := kC_r
  have hH : gH (gW g (I, AI)) I R J AI AJ1 AR H := gH_W hH
  have F := Fa (I, AI)
  refine lv_istore (lv' := [(5, .int (iI v1)), (4, .int (iI i)), (0, .ref b), (1, .ref (gZ g + 0)), (2, .ref (gZ g + 205)), (3, .ref (gZ g + 222))]) F.1 F.2.1 dL_law_684 hl (by decide) rfl (fun ls hl => ?_)
  refine lv_aload_n F.1 F.2.1 dL_law_686 rfl (lv_at hl 4 rfl) ?_
  refine lv_aload_n F.1 F.2.1 dL_law_687 rfl (lv_at hl 2 rfl) ?_
  refine lv_iload F.1 F.2.1 dL_law_688 (lv_at hl 1 rfl) ?_
  refine z_iconst F dL_law_690 ?_
  refine z_iadd F dL_law_691 ?_
  refine l_sld F.1 F.2.1 hX hbl hZ hS (z := i + 1) (by omega) (by omega) (by omega) ha1 dL_law_692 ?_
  refine g_calli (g_runV (As := [.int (iI a1)]) (rest := []) (ci := 7) F hl.1 hH hS hz (c_X7_totalg l (gW g (I, AI)) (hGm (gZ g)) (AI (hGm (gZ g) 50 0)) nr I R J AI AJ1 AR (gZ g + 205) a1 za1 hmv (l_mo hOK) rfl (m_mr hOK hv0 hP8)) (cwV 1 F.2.2.2.2.1 gTB_L_X7_total rfl rfl rfl hdX7_total ⟨Nat.le_of_ble_eq_true rfl, Nat.le_of_ble_eq_true rfl⟩) (l_mo hOK) (by decide) rfl rfl rfl (Nat.le_of_ble_eq_true rfl) dL_law_693 ⟨hcs.1, hcs.2⟩) hS (fun v2 I2 R2 J2 AI2 AJ2 AR2 H locs zv2 hp hH hS => ?_)
  dsimp only at hp
  obtain ⟨rfl, rfl, rfl, rfl, rfl, hmv2, mf, an2, h8⟩ := hp
  have hE8 : lE8 g I2 AR AI pA bA nA := lE_k8 hOK hv0 hx1 hE9 (fun _ _ _ _ _ => rfl) hkC hmv2 rfl (by rw [mf 2 (by decide) (by decide) (by decide) (by decide) (by decide)]) (s_all rfl) h8 (lB_m hOK hv1 hmv2)
  have hE : lInv g I2 R AI AR := l_end hOK hQ hv0 hx1 hQ.2.1 (fun _ _ _ _ _ => rfl) hmv2 rfl (by rw [mf 2 (by decide) (by decide) (by decide) (by decide) (by decide)]) (by rw [e6, mf 16 (by decide) (by decide) (by decide) (by decide) (by decide), hmo]; exact hln) (by rw [e6]; exact Int.le_refl _) (l_bk hOK hBq hv1 hmv2 (by rw [mf 14 (by decide) (by decide) (by decide) (by decide) (by decide)])) hE8
  have hH : gH (gW g (I2, AI)) I2 R J AI AJ1 AR H := gH_W hH
  have F := Fa (I2, AI)
  have evt : v1 = (I2 (gZ g + 205) 17).toInt ∧ (v1 = 0 → AJ1 (gZ g + 222) 0 = (iI v2).toInt64) := an_total hv0 hQ8 an1 an2
  refine lv_istore (lv' := [(6, .int (iI v2)), (5, .int (iI v1)), (4, .int (iI i)), (0, .ref b), (1, .ref (gZ g + 0)), (2, .ref (gZ g + 205)), (3, .ref (gZ g + 222))]) F.1 F.2.1 dL_law_696 hl (by decide) rfl (fun ls hl => ?_)
  refine lv_aload_n F.1 F.2.1 dL_law_698 rfl (lv_at hl 5 rfl) ?_
  refine g_calli (g_runV (As := []) (rest := []) (ci := 7) F hl.1 hH hS hz (c_X7_thrown l (gW g (I2, AI)) (hGm (gZ g)) (AI (hGm (gZ g) 50 0)) I2 R J AI AJ1 AR (gZ g + 205) hE.2.1 (l_mo hOK) rfl) (cwV 0 F.2.2.2.2.1 gTB_L_X7_thrown rfl rfl rfl hdX7_thrown ⟨Nat.le_of_ble_eq_true rfl, Nat.le_of_ble_eq_true rfl⟩) (l_mo hOK) (by decide) rfl rfl rfl (Nat.le_of_ble_eq_true rfl) dL_law_699 ⟨hcs.1, hcs.2⟩) hS (fun v3 I3 R3 J3 AI3 AJ3 AR3 H locs zv3 hp hH hS => ?_)
  dsimp only at hp
  obtain ⟨rfl, rfl, rfl, rfl, rfl, rfl, an3⟩ := hp
  have ev3 : v3 = (I2 (gZ g + 205) 17).toInt := an3
  refine lv_iload F.1 F.2.1 dL_law_702 (lv_at hl 1 rfl) ?_
  refine z_icmp_eq (tgt := 709) F dL_law_704 (by decide) zv3 zv1 (fun _ => ?_) (fun hne => absurd (show v3 = v1 by omega) hne)
  refine lv_iload F.1 F.2.1 dL_law_709 (lv_at hl 1 rfl) ?_
  refine z_if_ne (tgt := 726) F dL_law_711 (by decide) zv1 (fun ck => ?_) (fun ck => ?_)
  · skip
    refine z_goto (tgt := 1068) F dL_law_726 (by decide) ?_
    exact K I2 R J AI AJ1 AR H locs ls hE hH hS (lv_sub hl [2, 3, 4, 5, 6] rfl)
  refine lv_aload_n F.1 F.2.1 dL_law_714 rfl (lv_at hl 6 rfl) ?_
  refine z_iconst F dL_law_715 ?_
  refine g_lald F hH (l_ou hOK) (z := 0) (by decide) (by decide) (by decide) dL_law_716 ?_
  refine lv_iload F.1 F.2.1 dL_law_717 (lv_at hl 0 rfl) ?_
  refine lv_i2l F.1 F.2.1 dL_law_719 rfl ?_
  refine lv_topl (fun j4 ej4 => ?_)
  refine W.lcmp F.1 F.2.1 dL_law_720 ?_
  refine z_top (fun vl zvl evl => ?_)
  have lvl : vl = 0 ↔ (AJ1 (gZ g + 222) (0 : Int).toNat) = j4 := by rw [evl]; exact z_lcmp
  refine z_if_eq (tgt := 726) F dL_law_721 (by decide) zvl (fun _ => ?_) (fun hne => absurd (lvl.mpr ((evt.2 ck).trans (by rw [ej4]))) hne)
  refine z_goto (tgt := 1068) F dL_law_726 (by decide) ?_
  exact K I2 R J AI AJ1 AR H locs ls hE hH hS (lv_sub hl [2, 3, 4, 5, 6] rfl)

set_option maxHeartbeats 4000000 in
set_option maxRecDepth 100000 in
theorem lc_13 {p : Program} {l : Launch} {e : Env} {s : State} {m : MethodId} {below : List Frame} {meth : Method} {c : Code} {g : gG} {b L : Nat} {xs : Nat → Int32} {i : Int} {cells slots : Nat} (C : lF p l s m c g b L xs) (hi0 : 0 ≤ i) (hi7 : i + 7 ≤ (L : Int)) (hcs : cells + 1 ≤ 601024 ∧ slots + 6 ≤ 7293034) (K : lK p l e s m below meth c g b i cells slots)
    {I : gI} {R : gR} {J : gJ} {AI : gI} {AJ : gJ} {AR : gR} {H : Heap} {locs : List Loc} {ls : Array Slot} (hI : lInv g I R AI AR) (hH : gH (gW g (I, AI)) I R J AI AJ AR H) (hS : va_S (gA g) s.heap H locs) (hl : lv_has ls 7 (lV g b i)) :
    W p l e room_1 s m #[Value.ref b] below meth c H locs cells slots (lw_Z below #[Value.ref b] s) (F0 m 729 ls []) := by
  obtain ⟨Fa, Ta, hOK, hZ, hX, hbl, hL, hst⟩ := C
  have F := Fa (I, AI)
  have hz : gZ g ≤ s.heap.size := Nat.le_of_eq hZ
  obtain ⟨hv, hmv, pA, q, bA, nA, hQ⟩ := hI
  have hx := hQ.1
  have hlen := hQ.2.2.2.1
  have hBq := hQ.2.2.2.2.1
  have hx0 : xS (gW g (I, AI)) (hG0 (gZ g)) R AR (gZ g + 0) pA bA nA := hx
  have h37 : hG0 (gZ g) 42 0 ≠ 1 := by show (0 : Nat) ≠ 1; decide
  have hE9 := hQ.2.2.2.2.2.2
  obtain ⟨nr, tbs8, cc, cl, ⟨q1, rfl, q3⟩, hQ8, hB8⟩ := id hE9
  have hP8 : lP8 g I AR AI pA nr (I pA 2).toInt cc cl := ⟨q1, rfl, q3⟩
  have hnb8 : (I (gZ g + 179) 3).toInt = (((I (gZ g + 179) 3).toInt.toNat : Nat) : Int) := (Int.toNat_of_nonneg hBq.2.1.1).symm
  have hln : (I (gZ g + 0) 1).toInt = (I (gZ g + 205) 16).toInt := hlen.1
  obtain ⟨a1, za1, ha1⟩ := l_val xs (i + 1).toNat
  refine lv_aload_n F.1 F.2.1 dL_law_729 rfl (lv_at hl 2 rfl) ?_
  refine lv_aload_n F.1 F.2.1 dL_law_730 rfl (lv_at hl 1 rfl) ?_
  refine lv_iload F.1 F.2.1 dL_law_731 (lv_at hl 0 rfl) ?_
  refine z_iconst F dL_law_733 ?_
  refine z_iadd F dL_law_734 ?_
  refine l_sld F.1 F.2.1 hX hbl hZ hS (z := i + 1) (by omega) (by omega) (by omega) ha1 dL_law_735 ?_
  refine g_calli (g_runV (As := [.int (iI a1)]) (rest := []) (ci := 6) F hl.1 hH hS hz (c_X6_movedf l (gW g (I, AI)) (hG (gZ g)) pA bA nA nr I R J AI AJ AR (gZ g + 0) a1 za1 hv hx hP8.1) (cwV 1 F.2.2.2.2.1 gTB_L_X6_moved rfl rfl rfl hdX6_moved ⟨Nat.le_of_ble_eq_true rfl, Nat.le_of_ble_eq_true rfl⟩) hx.1 (by decide) rfl rfl rfl (Nat.le_of_ble_eq_true rfl) dL_law_736 ⟨Nat.le_of_succ_le hcs.1, Nat.le_trans (Nat.le_add_right _ _) hcs.2⟩) hS (fun v1 I1 R1 J1 AI1 AJ1 AR1 H locs zv1 hp hH hS => ?_)
  dsimp only at hp
  obtain ⟨rfl, rfl, rfl, rfl, rfl, rfl, an1⟩ := hp
  have hv1 := hv
  have hv0 : gInv (gW g (I, AI)) (hG0 (gZ g)) R AR I AI := gInv_dn hv1
  have hx1 : xS (gW g (I, AI)) (hG (gZ g)) R AR (gZ g + 0) pA bA nA := hx
  have hmv := l_mid (I1 := I) (AI1 := AI) hmv hv0 (fun _ _ => rfl)
  have hmo := l_mo1 hOK hv0
  have e6 : I (gZ g + 0) 1 = I (gZ g + 0) 1 := rfl
  have hkC : kC8 g AR bA I AI I AI := kC_r
  have hH : gH (gW g (I, AI)) I R J AI AJ AR H := gH_W hH
  have F := Fa (I, AI)
  refine lv_pop F.1 F.2.1 dL_law_739 rfl ?_
  refine lv_aload_n F.1 F.2.1 dL_law_740 rfl (lv_at hl 3 rfl) ?_
  refine lv_aload_n F.1 F.2.1 dL_law_741 rfl (lv_at hl 1 rfl) ?_
  refine lv_iload F.1 F.2.1 dL_law_742 (lv_at hl 0 rfl) ?_
  refine z_iconst F dL_law_744 ?_
  refine z_iadd F dL_law_745 ?_
  refine l_sld F.1 F.2.1 hX hbl hZ hS (z := i + 1) (by omega) (by omega) (by omega) ha1 dL_law_746 ?_
  refine g_calli (g_runV (As := [.int (iI a1)]) (rest := []) (ci := 7) F hl.1 hH hS hz (c_X7_movedg l (gW g (I, AI)) (hGm (gZ g)) (AI (hGm (gZ g) 50 0)) nr cl I R J AI AJ AR (gZ g + 205) a1 za1 hmv (l_mo hOK) rfl (m_mr hOK hv0 hP8) (m_bg hv0 hQ8) (m_b9 hv0 hQ8)) (cwV 1 F.2.2.2.2.1 gTB_L_X7_moved rfl rfl rfl hdX7_moved ⟨Nat.le_of_ble_eq_true rfl, Nat.le_of_ble_eq_true rfl⟩) (l_mo hOK) (by decide) rfl rfl rfl (Nat.le_of_ble_eq_true rfl) dL_law_747 ⟨Nat.le_of_succ_le hcs.1, Nat.le_trans (Nat.le_add_right _ _) hcs.2⟩) hS (fun v2 I2 R2 J2 AI2 AJ2 AR2 H locs zv2 hp hH hS => ?_)
  dsimp only at hp
  obtain ⟨rfl, rfl, rfl, rfl, hmv2, ht2, mf, an2, f32, h8⟩ := hp
  have hE8 : lE8 g I2 AR AI2 pA bA nA := lE_k8 hOK hv0 hx1 hE9 (fun _ _ _ _ _ => rfl) hkC hmv2 ht2 (by rw [mf 2 (by decide) (by decide) (by decide) (by decide) (by decide)]) (s_g (fun b _ _ _ _ a => f32 b a)) h8 (lB_m hOK hv1 hmv2)
  have hE : lInv g I2 R AI2 AR := l_end hOK hQ hv0 hx1 hQ.2.1 (fun _ _ _ _ _ => rfl) hmv2 ht2 (by rw [mf 2 (by decide) (by decide) (by decide) (by decide) (by decide)]) (by rw [e6, mf 16 (by decide) (by decide) (by decide) (by decide) (by decide), hmo]; exact hln) (by rw [e6]; exact Int.le_refl _) (l_bk hOK hBq hv1 hmv2 (by rw [mf 14 (by decide) (by decide) (by decide) (by decide) (by decide)])) hE8
  have hH : gH (gW g (I2, AI2)) I2 R J AI2 AJ AR H := gH_W hH
  have F := Fa (I2, AI2)
  refine lv_pop F.1 F.2.1 dL_law_750 rfl ?_
  refine z_goto (tgt := 1068) F dL_law_751 (by decide) ?_
  exact W.widen (Nat.le_add_right _ _) (Nat.le_add_right _ _) (K I2 R J AI2 AJ AR H locs ls hE hH hS (lv_sub hl [0, 1, 2, 3, 4] rfl))

set_option maxHeartbeats 4000000 in
set_option maxRecDepth 100000 in
theorem lc_14 {p : Program} {l : Launch} {e : Env} {s : State} {m : MethodId} {below : List Frame} {meth : Method} {c : Code} {g : gG} {b L : Nat} {xs : Nat → Int32} {i : Int} {cells slots : Nat} (C : lF p l s m c g b L xs) (hi0 : 0 ≤ i) (hi7 : i + 7 ≤ (L : Int)) (hcs : cells + 1 ≤ 601024 ∧ slots + 6 ≤ 7293034) (K : lK p l e s m below meth c g b i cells slots)
    {I : gI} {R : gR} {J : gJ} {AI : gI} {AJ : gJ} {AR : gR} {H : Heap} {locs : List Loc} {ls : Array Slot} (hI : lInv g I R AI AR) (hH : gH (gW g (I, AI)) I R J AI AJ AR H) (hS : va_S (gA g) s.heap H locs) (hl : lv_has ls 7 (lV g b i)) :
    W p l e room_1 s m #[Value.ref b] below meth c H locs cells slots (lw_Z below #[Value.ref b] s) (F0 m 754 ls []) := by
  obtain ⟨Fa, Ta, hOK, hZ, hX, hbl, hL, hst⟩ := C
  have F := Fa (I, AI)
  have hz : gZ g ≤ s.heap.size := Nat.le_of_eq hZ
  obtain ⟨hv, hmv, pA, q, bA, nA, hQ⟩ := hI
  have hx := hQ.1
  have hlen := hQ.2.2.2.1
  have hBq := hQ.2.2.2.2.1
  have hx0 : xS (gW g (I, AI)) (hG0 (gZ g)) R AR (gZ g + 0) pA bA nA := hx
  have h37 : hG0 (gZ g) 42 0 ≠ 1 := by show (0 : Nat) ≠ 1; decide
  have hE9 := hQ.2.2.2.2.2.2
  obtain ⟨nr, tbs8, cc, cl, ⟨q1, rfl, q3⟩, hQ8, hB8⟩ := id hE9
  have hP8 : lP8 g I AR AI pA nr (I pA 2).toInt cc cl := ⟨q1, rfl, q3⟩
  have hnb8 : (I (gZ g + 179) 3).toInt = (((I (gZ g + 179) 3).toInt.toNat : Nat) : Int) := (Int.toNat_of_nonneg hBq.2.1.1).symm
  have hln : (I (gZ g + 0) 1).toInt = (I (gZ g + 205) 16).toInt := hlen.1
  obtain ⟨a1, za1, ha1⟩ := l_val xs (i + 1).toNat
  obtain ⟨a2, za2, ha2⟩ := l_val xs (i + 2).toNat
  obtain ⟨a3, za3, ha3⟩ := l_val xs (i + 3).toNat
  refine lv_aload_n F.1 F.2.1 dL_law_754 rfl (lv_at hl 2 rfl) ?_
  refine lv_aload_n F.1 F.2.1 dL_law_755 rfl (lv_at hl 1 rfl) ?_
  refine lv_iload F.1 F.2.1 dL_law_756 (lv_at hl 0 rfl) ?_
  refine z_iconst F dL_law_758 ?_
  refine z_iadd F dL_law_759 ?_
  refine l_sld F.1 F.2.1 hX hbl hZ hS (z := i + 1) (by omega) (by omega) (by omega) ha1 dL_law_760 ?_
  refine lv_aload_n F.1 F.2.1 dL_law_761 rfl (lv_at hl 1 rfl) ?_
  refine lv_iload F.1 F.2.1 dL_law_762 (lv_at hl 0 rfl) ?_
  refine z_iconst F dL_law_764 ?_
  refine z_iadd F dL_law_765 ?_
  refine l_sld F.1 F.2.1 hX hbl hZ hS (z := i + 2) (by omega) (by omega) (by omega) ha2 dL_law_766 ?_
  refine lv_aload_n F.1 F.2.1 dL_law_767 rfl (lv_at hl 1 rfl) ?_
  refine lv_iload F.1 F.2.1 dL_law_768 (lv_at hl 0 rfl) ?_
  refine z_iconst F dL_law_770 ?_
  refine z_iadd F dL_law_771 ?_
  refine l_sld F.1 F.2.1 hX hbl hZ hS (z := i + 3) (by omega) (by omega) (by omega) ha3 dL_law_772 ?_
  refine lv_aload_n F.1 F.2.1 dL_law_773 rfl (lv_at hl 4 rfl) ?_
  refine g_calliX (g_runSXW (As := [.ref (gZ g + 0), .int (iI a1), .int (iI a2), .int (iI a3), .ref (gZ g + 222)]) (rest := []) F (Ta (I, AI)) hl.1 hH hS hz (c_L_movedAtf l (gW g (I, AI)) (hG (gZ g)) pA bA nA nr cc I R J AI AJ AR (gZ g + 0) a1 a2 a3 (gZ g + 222) za1 za2 za3 hv hx (l_ou hOK) hP8.1 hP8.2.2.2.1 hst) (vx_cwSW 5 F.2.2.2.2.1 gTB_L_L_movedAt rfl rfl rfl hdL_movedAt.2 ⟨Nat.le_of_ble_eq_true rfl, Nat.le_of_ble_eq_true rfl⟩) rfl rfl (Nat.le_of_ble_eq_true rfl) dL_law_774 ⟨hcs.1, hcs.2⟩) hS (fun ce9 q9 I9 R9 J9 AI9 AJ9 AR9 H9 locs9 hp _ _ _ _ _ => False.elim hp) (fun v1 I1 R1 J1 AI1 AJ1 AR1 H locs zv1 hp hH hS => ?_)
  dsimp only at hp
  obtain ⟨rfl, rfl, rfl, rfl, rfl, hv1, an1, an1, _⟩ := hp
  have hv0 : gInv (gW g (I, AI)) (hG0 (gZ g)) R AR I AI := gInv_dn hv1
  have hx1 : xS (gW g (I, AI)) (hG (gZ g)) R AR (gZ g + 0) pA bA nA := hx
  have hmv := l_mid (I1 := I) (AI1 := AI) hmv hv0 (fun _ _ => rfl)
  have hmo := l_mo1 hOK hv0
  have e6 : I (gZ g + 0) 1 = I (gZ g + 0) 1 := rfl
  have hkC : kC8 g AR bA I AI I AI := kC_r
  have hH : gH (gW g (I, AI)) I R J AI AJ1 AR H := gH_W hH
  have F := Fa (I, AI)
  refine lv_istore (lv' := [(5, .int (iI v1)), (4, .int (iI i)), (0, .ref b), (1, .ref (gZ g + 0)), (2, .ref (gZ g + 205)), (3, .ref (gZ g + 222))]) F.1 F.2.1 dL_law_777 hl (by decide) rfl (fun ls hl => ?_)
  refine lv_aload_n F.1 F.2.1 dL_law_779 rfl (lv_at hl 4 rfl) ?_
  refine lv_aload_n F.1 F.2.1 dL_law_780 rfl (lv_at hl 2 rfl) ?_
  refine lv_iload F.1 F.2.1 dL_law_781 (lv_at hl 1 rfl) ?_
  refine z_iconst F dL_law_783 ?_
  refine z_iadd F dL_law_784 ?_
  refine l_sld F.1 F.2.1 hX hbl hZ hS (z := i + 1) (by omega) (by omega) (by omega) ha1 dL_law_785 ?_
  refine lv_aload_n F.1 F.2.1 dL_law_786 rfl (lv_at hl 2 rfl) ?_
  refine lv_iload F.1 F.2.1 dL_law_787 (lv_at hl 1 rfl) ?_
  refine z_iconst F dL_law_789 ?_
  refine z_iadd F dL_law_790 ?_
  refine l_sld F.1 F.2.1 hX hbl hZ hS (z := i + 2) (by omega) (by omega) (by omega) ha2 dL_law_791 ?_
  refine lv_aload_n F.1 F.2.1 dL_law_792 rfl (lv_at hl 2 rfl) ?_
  refine lv_iload F.1 F.2.1 dL_law_793 (lv_at hl 1 rfl) ?_
  refine z_iconst F dL_law_795 ?_
  refine z_iadd F dL_law_796 ?_
  refine l_sld F.1 F.2.1 hX hbl hZ hS (z := i + 3) (by omega) (by omega) (by omega) ha3 dL_law_797 ?_
  refine g_calli (g_runV (As := [.int (iI a1), .int (iI a2), .int (iI a3)]) (rest := []) (ci := 7) F hl.1 hH hS hz (c_X7_movedAtg l (gW g (I, AI)) (hGm (gZ g)) (AI (hGm (gZ g) 50 0)) nr cl I R J AI AJ1 AR (gZ g + 205) a1 a2 a3 za1 za2 za3 hmv (l_mo hOK) rfl (m_mr hOK hv0 hP8) (m_bg hv0 hQ8) (m_b9 hv0 hQ8)) (cwV 3 F.2.2.2.2.1 gTB_L_X7_movedAt rfl rfl rfl hdX7_movedAt ⟨Nat.le_of_ble_eq_true rfl, Nat.le_of_ble_eq_true rfl⟩) (l_mo hOK) (by decide) rfl rfl rfl (Nat.le_of_ble_eq_true rfl) dL_law_798 ⟨hcs.1, hcs.2⟩) hS (fun v2 I2 R2 J2 AI2 AJ2 AR2 H locs zv2 hp hH hS => ?_)
  dsimp only at hp
  obtain ⟨rfl, rfl, rfl, rfl, hmv2, ht2, mf, an2, f32, h8⟩ := hp
  have hE8 : lE8 g I2 AR AI2 pA bA nA := lE_k8 hOK hv0 hx1 hE9 (fun _ _ _ _ _ => rfl) hkC hmv2 ht2 (by rw [mf 2 (by decide) (by decide) (by decide) (by decide) (by decide)]) (s_g (fun b _ _ _ _ a => f32 b a)) h8 (lB_m hOK hv1 hmv2)
  have hE : lInv g I2 R AI2 AR := l_end hOK hQ hv0 hx1 hQ.2.1 (fun _ _ _ _ _ => rfl) hmv2 ht2 (by rw [mf 2 (by decide) (by decide) (by decide) (by decide) (by decide)]) (by rw [e6, mf 16 (by decide) (by decide) (by decide) (by decide) (by decide), hmo]; exact hln) (by rw [e6]; exact Int.le_refl _) (l_bk hOK hBq hv1 hmv2 (by rw [mf 14 (by decide) (by decide) (by decide) (by decide) (by decide)])) hE8
  have hH : gH (gW g (I2, AI2)) I2 R J AI2 AJ1 AR H := gH_W hH
  have F := Fa (I2, AI2)
  refine lv_istore (lv' := [(6, .int (iI v2)), (5, .int (iI v1)), (4, .int (iI i)), (0, .ref b), (1, .ref (gZ g + 0)), (2, .ref (gZ g + 205)), (3, .ref (gZ g + 222))]) F.1 F.2.1 dL_law_801 hl (by decide) rfl (fun ls hl => ?_)
  refine z_goto (tgt := 1068) F dL_law_803 (by decide) ?_
  exact K I2 R J AI2 AJ1 AR H locs ls hE hH hS (lv_sub hl [2, 3, 4, 5, 6] rfl)

set_option maxHeartbeats 4000000 in
set_option maxRecDepth 100000 in
theorem lc_15 {p : Program} {l : Launch} {e : Env} {s : State} {m : MethodId} {below : List Frame} {meth : Method} {c : Code} {g : gG} {b L : Nat} {xs : Nat → Int32} {i : Int} {cells slots : Nat} (C : lF p l s m c g b L xs) (hi0 : 0 ≤ i) (hi7 : i + 7 ≤ (L : Int)) (hcs : cells + 1 ≤ 601024 ∧ slots + 6 ≤ 7293034) (K : lK p l e s m below meth c g b i cells slots)
    {I : gI} {R : gR} {J : gJ} {AI : gI} {AJ : gJ} {AR : gR} {H : Heap} {locs : List Loc} {ls : Array Slot} (hI : lInv g I R AI AR) (hH : gH (gW g (I, AI)) I R J AI AJ AR H) (hS : va_S (gA g) s.heap H locs) (hl : lv_has ls 7 (lV g b i)) :
    W p l e room_1 s m #[Value.ref b] below meth c H locs cells slots (lw_Z below #[Value.ref b] s) (F0 m 806 ls []) := by
  obtain ⟨Fa, Ta, hOK, hZ, hX, hbl, hL, hst⟩ := C
  have F := Fa (I, AI)
  have hz : gZ g ≤ s.heap.size := Nat.le_of_eq hZ
  obtain ⟨hv, hmv, pA, q, bA, nA, hQ⟩ := hI
  have hx := hQ.1
  have hlen := hQ.2.2.2.1
  have hBq := hQ.2.2.2.2.1
  have hx0 : xS (gW g (I, AI)) (hG0 (gZ g)) R AR (gZ g + 0) pA bA nA := hx
  have h37 : hG0 (gZ g) 42 0 ≠ 1 := by show (0 : Nat) ≠ 1; decide
  have hE9 := hQ.2.2.2.2.2.2
  obtain ⟨nr, tbs8, cc, cl, ⟨q1, rfl, q3⟩, hQ8, hB8⟩ := id hE9
  have hP8 : lP8 g I AR AI pA nr (I pA 2).toInt cc cl := ⟨q1, rfl, q3⟩
  have hnb8 : (I (gZ g + 179) 3).toInt = (((I (gZ g + 179) 3).toInt.toNat : Nat) : Int) := (Int.toNat_of_nonneg hBq.2.1.1).symm
  have hln : (I (gZ g + 0) 1).toInt = (I (gZ g + 205) 16).toInt := hlen.1
  obtain ⟨a1, za1, ha1⟩ := l_val xs (i + 1).toNat
  refine lv_aload_n F.1 F.2.1 dL_law_806 rfl (lv_at hl 2 rfl) ?_
  refine lv_aload_n F.1 F.2.1 dL_law_807 rfl (lv_at hl 1 rfl) ?_
  refine lv_iload F.1 F.2.1 dL_law_808 (lv_at hl 0 rfl) ?_
  refine z_iconst F dL_law_810 ?_
  refine z_iadd F dL_law_811 ?_
  refine l_sld F.1 F.2.1 hX hbl hZ hS (z := i + 1) (by omega) (by omega) (by omega) ha1 dL_law_812 ?_
  refine g_calli (g_runV (As := [.int (iI a1)]) (rest := []) (ci := 6) F hl.1 hH hS hz (c_X6_camef l (gW g (I, AI)) (hG (gZ g)) pA bA nA nr cc I R J AI AJ AR (gZ g + 0) a1 za1 hv hx hP8.1 hP8.2.2.1 hP8.2.2.2.1) (cwV 1 F.2.2.2.2.1 gTB_L_X6_came rfl rfl rfl hdX6_came ⟨Nat.le_of_ble_eq_true rfl, Nat.le_of_ble_eq_true rfl⟩) hx.1 (by decide) rfl rfl rfl (Nat.le_of_ble_eq_true rfl) dL_law_813 ⟨Nat.le_of_succ_le hcs.1, Nat.le_trans (Nat.le_add_right _ _) hcs.2⟩) hS (fun v1 I1 R1 J1 AI1 AJ1 AR1 H locs zv1 hp hH hS => ?_)
  dsimp only at hp
  obtain ⟨rfl, rfl, rfl, rfl, rfl, rfl, an1⟩ := hp
  have hv1 := hv
  have hv0 : gInv (gW g (I, AI)) (hG0 (gZ g)) R AR I AI := gInv_dn hv1
  have hx1 : xS (gW g (I, AI)) (hG (gZ g)) R AR (gZ g + 0) pA bA nA := hx
  have hmv := l_mid (I1 := I) (AI1 := AI) hmv hv0 (fun _ _ => rfl)
  have hmo := l_mo1 hOK hv0
  have e6 : I (gZ g + 0) 1 = I (gZ g + 0) 1 := rfl
  have hkC : kC8 g AR bA I AI I AI := kC_r
  have hH : gH (gW g (I, AI)) I R J AI AJ AR H := gH_W hH
  have F := Fa (I, AI)
  refine lv_pop F.1 F.2.1 dL_law_816 rfl ?_
  refine lv_aload_n F.1 F.2.1 dL_law_817 rfl (lv_at hl 3 rfl) ?_
  refine lv_aload_n F.1 F.2.1 dL_law_818 rfl (lv_at hl 1 rfl) ?_
  refine lv_iload F.1 F.2.1 dL_law_819 (lv_at hl 0 rfl) ?_
  refine z_iconst F dL_law_821 ?_
  refine z_iadd F dL_law_822 ?_
  refine l_sld F.1 F.2.1 hX hbl hZ hS (z := i + 1) (by omega) (by omega) (by omega) ha1 dL_law_823 ?_
  refine g_calli (g_runV (As := [.int (iI a1)]) (rest := []) (ci := 7) F hl.1 hH hS hz (c_X7_cameg l (gW g (I, AI)) (hGm (gZ g)) (AI (hGm (gZ g) 50 0)) (I pA 2).toInt nr cc cl I R J AI AJ AR (gZ g + 205) a1 za1 hmv (l_mo hOK) rfl (m_mr hOK hv0 hP8) (m_pl hv0 hP8) (m_bg hv0 hQ8) (m_b9 hv0 hQ8)) (cwV 1 F.2.2.2.2.1 gTB_L_X7_came rfl rfl rfl hdX7_came ⟨Nat.le_of_ble_eq_true rfl, Nat.le_of_ble_eq_true rfl⟩) (l_mo hOK) (by decide) rfl rfl rfl (Nat.le_of_ble_eq_true rfl) dL_law_824 ⟨Nat.le_of_succ_le hcs.1, Nat.le_trans (Nat.le_add_right _ _) hcs.2⟩) hS (fun v2 I2 R2 J2 AI2 AJ2 AR2 H locs zv2 hp hH hS => ?_)
  dsimp only at hp
  obtain ⟨rfl, rfl, rfl, rfl, hmv2, ht2, mf, an2, f32, h8⟩ := hp
  have hE8 : lE8 g I2 AR AI2 pA bA nA := lE_k8 hOK hv0 hx1 hE9 (fun _ _ _ _ _ => rfl) hkC hmv2 ht2 (by rw [mf 2 (by decide) (by decide) (by decide) (by decide) (by decide)]) (s_g (fun b _ _ _ _ a => f32 b a)) h8 (lB_m hOK hv1 hmv2)
  have hE : lInv g I2 R AI2 AR := l_end hOK hQ hv0 hx1 hQ.2.1 (fun _ _ _ _ _ => rfl) hmv2 ht2 (by rw [mf 2 (by decide) (by decide) (by decide) (by decide) (by decide)]) (by rw [e6, mf 16 (by decide) (by decide) (by decide) (by decide) (by decide), hmo]; exact hln) (by rw [e6]; exact Int.le_refl _) (l_bk hOK hBq hv1 hmv2 (by rw [mf 14 (by decide) (by decide) (by decide) (by decide) (by decide)])) hE8
  have hH : gH (gW g (I2, AI2)) I2 R J AI2 AJ AR H := gH_W hH
  have F := Fa (I2, AI2)
  refine lv_pop F.1 F.2.1 dL_law_827 rfl ?_
  refine z_goto (tgt := 1068) F dL_law_828 (by decide) ?_
  exact W.widen (Nat.le_add_right _ _) (Nat.le_add_right _ _) (K I2 R J AI2 AJ AR H locs ls hE hH hS (lv_sub hl [0, 1, 2, 3, 4] rfl))

set_option maxHeartbeats 4000000 in
set_option maxRecDepth 100000 in
theorem lc_16 {p : Program} {l : Launch} {e : Env} {s : State} {m : MethodId} {below : List Frame} {meth : Method} {c : Code} {g : gG} {b L : Nat} {xs : Nat → Int32} {i : Int} {cells slots : Nat} (C : lF p l s m c g b L xs) (hi0 : 0 ≤ i) (hi7 : i + 7 ≤ (L : Int)) (hcs : cells + 1 ≤ 601024 ∧ slots + 6 ≤ 7293034) (K : lK p l e s m below meth c g b i cells slots)
    {I : gI} {R : gR} {J : gJ} {AI : gI} {AJ : gJ} {AR : gR} {H : Heap} {locs : List Loc} {ls : Array Slot} (hI : lInv g I R AI AR) (hH : gH (gW g (I, AI)) I R J AI AJ AR H) (hS : va_S (gA g) s.heap H locs) (hl : lv_has ls 7 (lV g b i)) :
    W p l e room_1 s m #[Value.ref b] below meth c H locs cells slots (lw_Z below #[Value.ref b] s) (F0 m 831 ls []) := by
  obtain ⟨Fa, Ta, hOK, hZ, hX, hbl, hL, hst⟩ := C
  have F := Fa (I, AI)
  have hz : gZ g ≤ s.heap.size := Nat.le_of_eq hZ
  obtain ⟨hv, hmv, pA, q, bA, nA, hQ⟩ := hI
  have hx := hQ.1
  have hlen := hQ.2.2.2.1
  have hBq := hQ.2.2.2.2.1
  have hx0 : xS (gW g (I, AI)) (hG0 (gZ g)) R AR (gZ g + 0) pA bA nA := hx
  have h37 : hG0 (gZ g) 42 0 ≠ 1 := by show (0 : Nat) ≠ 1; decide
  have hE9 := hQ.2.2.2.2.2.2
  obtain ⟨nr, tbs8, cc, cl, ⟨q1, rfl, q3⟩, hQ8, hB8⟩ := id hE9
  have hP8 : lP8 g I AR AI pA nr (I pA 2).toInt cc cl := ⟨q1, rfl, q3⟩
  have hnb8 : (I (gZ g + 179) 3).toInt = (((I (gZ g + 179) 3).toInt.toNat : Nat) : Int) := (Int.toNat_of_nonneg hBq.2.1.1).symm
  have hln : (I (gZ g + 0) 1).toInt = (I (gZ g + 205) 16).toInt := hlen.1
  obtain ⟨a1, za1, ha1⟩ := l_val xs (i + 1).toNat
  obtain ⟨a2, za2, ha2⟩ := l_val xs (i + 2).toNat
  obtain ⟨a3, za3, ha3⟩ := l_val xs (i + 3).toNat
  obtain ⟨a4, za4, ha4⟩ := l_val xs (i + 4).toNat
  obtain ⟨a5, za5, ha5⟩ := l_val xs (i + 5).toNat
  refine lv_aload_n F.1 F.2.1 dL_law_831 rfl (lv_at hl 2 rfl) ?_
  refine lv_aload_n F.1 F.2.1 dL_law_832 rfl (lv_at hl 1 rfl) ?_
  refine lv_iload F.1 F.2.1 dL_law_833 (lv_at hl 0 rfl) ?_
  refine z_iconst F dL_law_835 ?_
  refine z_iadd F dL_law_836 ?_
  refine l_sld F.1 F.2.1 hX hbl hZ hS (z := i + 1) (by omega) (by omega) (by omega) ha1 dL_law_837 ?_
  refine lv_aload_n F.1 F.2.1 dL_law_838 rfl (lv_at hl 1 rfl) ?_
  refine lv_iload F.1 F.2.1 dL_law_839 (lv_at hl 0 rfl) ?_
  refine z_iconst F dL_law_841 ?_
  refine z_iadd F dL_law_842 ?_
  refine l_sld F.1 F.2.1 hX hbl hZ hS (z := i + 2) (by omega) (by omega) (by omega) ha2 dL_law_843 ?_
  refine lv_aload_n F.1 F.2.1 dL_law_844 rfl (lv_at hl 1 rfl) ?_
  refine lv_iload F.1 F.2.1 dL_law_845 (lv_at hl 0 rfl) ?_
  refine z_iconst F dL_law_847 ?_
  refine z_iadd F dL_law_848 ?_
  refine l_sld F.1 F.2.1 hX hbl hZ hS (z := i + 3) (by omega) (by omega) (by omega) ha3 dL_law_849 ?_
  refine lv_aload_n F.1 F.2.1 dL_law_850 rfl (lv_at hl 1 rfl) ?_
  refine lv_iload F.1 F.2.1 dL_law_851 (lv_at hl 0 rfl) ?_
  refine z_iconst F dL_law_853 ?_
  refine z_iadd F dL_law_854 ?_
  refine l_sld F.1 F.2.1 hX hbl hZ hS (z := i + 4) (by omega) (by omega) (by omega) ha4 dL_law_855 ?_
  refine lv_aload_n F.1 F.2.1 dL_law_856 rfl (lv_at hl 1 rfl) ?_
  refine lv_iload F.1 F.2.1 dL_law_857 (lv_at hl 0 rfl) ?_
  refine z_iconst F dL_law_859 ?_
  refine z_iadd F dL_law_860 ?_
  refine l_sld F.1 F.2.1 hX hbl hZ hS (z := i + 5) (by omega) (by omega) (by omega) ha5 dL_law_861 ?_
  refine g_calli (g_runV (As := [.int (iI a1), .int (iI a2), .int (iI a3), .int (iI a4), .int (iI a5)]) (rest := []) (ci := 6) F hl.1 hH hS hz (c_X6_roundg l (gW g (I, AI)) (hG (gZ g)) pA bA nA nr cc cl I R J AI AJ AR (gZ g + 0) a1 a2 a3 a4 a5 za1 za2 za3 za4 za5 hv hx hP8.1 hP8.2.2.2.1 (e_bgC hQ8)) (cwV 5 F.2.2.2.2.1 gTB_L_X6_round rfl rfl rfl hdX6_round ⟨Nat.le_of_ble_eq_true rfl, Nat.le_of_ble_eq_true rfl⟩) hx.1 (by decide) rfl rfl rfl (Nat.le_of_ble_eq_true rfl) dL_law_862 ⟨Nat.le_of_succ_le hcs.1, Nat.le_trans (Nat.le_add_right _ _) hcs.2⟩) hS (fun v1 I1 R1 J1 AI1 AJ1 AR1 H locs zv1 hp hH hS => ?_)
  dsimp only at hp
  obtain ⟨rfl, rfl, rfl, rfl, rfl, hv1, an1, f31⟩ := hp
  have hv0 : gInv (gW g (I, AI)) (hG0 (gZ g)) R AR I AI1 := gInv_dn hv1
  have hx1 : xS (gW g (I, AI)) (hG (gZ g)) R AR (gZ g + 0) pA bA nA := hx
  have hmv := l_mid (I1 := I) (AI1 := AI1) hmv hv0 (fun _ _ => rfl)
  have hmo := l_mo1 hOK hv0
  have e6 : I (gZ g + 0) 1 = I (gZ g + 0) 1 := rfl
  have hkC : kC8 g AR bA I AI I AI1 := kC_29 hv0 hx f31
  have hH : gH (gW g (I, AI1)) I R J AI1 AJ AR H := gH_W hH
  have F := Fa (I, AI1)
  refine lv_pop F.1 F.2.1 dL_law_865 rfl ?_
  refine lv_aload_n F.1 F.2.1 dL_law_866 rfl (lv_at hl 3 rfl) ?_
  refine lv_aload_n F.1 F.2.1 dL_law_867 rfl (lv_at hl 1 rfl) ?_
  refine lv_iload F.1 F.2.1 dL_law_868 (lv_at hl 0 rfl) ?_
  refine z_iconst F dL_law_870 ?_
  refine z_iadd F dL_law_871 ?_
  refine l_sld F.1 F.2.1 hX hbl hZ hS (z := i + 1) (by omega) (by omega) (by omega) ha1 dL_law_872 ?_
  refine lv_aload_n F.1 F.2.1 dL_law_873 rfl (lv_at hl 1 rfl) ?_
  refine lv_iload F.1 F.2.1 dL_law_874 (lv_at hl 0 rfl) ?_
  refine z_iconst F dL_law_876 ?_
  refine z_iadd F dL_law_877 ?_
  refine l_sld F.1 F.2.1 hX hbl hZ hS (z := i + 2) (by omega) (by omega) (by omega) ha2 dL_law_878 ?_
  refine lv_aload_n F.1 F.2.1 dL_law_879 rfl (lv_at hl 1 rfl) ?_
  refine lv_iload F.1 F.2.1 dL_law_880 (lv_at hl 0 rfl) ?_
  refine z_iconst F dL_law_882 ?_
  refine z_iadd F dL_law_883 ?_
  refine l_sld F.1 F.2.1 hX hbl hZ hS (z := i + 3) (by omega) (by omega) (by omega) ha3 dL_law_884 ?_
  refine lv_aload_n F.1 F.2.1 dL_law_885 rfl (lv_at hl 1 rfl) ?_
  refine lv_iload F.1 F.2.1 dL_law_886 (lv_at hl 0 rfl) ?_
  refine z_iconst F dL_law_888 ?_
  refine z_iadd F dL_law_889 ?_
  refine l_sld F.1 F.2.1 hX hbl hZ hS (z := i + 4) (by omega) (by omega) (by omega) ha4 dL_law_890 ?_
  refine lv_aload_n F.1 F.2.1 dL_law_891 rfl (lv_at hl 1 rfl) ?_
  refine lv_iload F.1 F.2.1 dL_law_892 (lv_at hl 0 rfl) ?_
  refine z_iconst F dL_law_894 ?_
  refine z_iadd F dL_law_895 ?_
  refine l_sld F.1 F.2.1 hX hbl hZ hS (z := i + 5) (by omega) (by omega) (by omega) ha5 dL_law_896 ?_
  refine g_calli (g_runV (As := [.int (iI a1), .int (iI a2), .int (iI a3), .int (iI a4), .int (iI a5)]) (rest := []) (ci := 7) F hl.1 hH hS hz (c_X7_roundg l (gW g (I, AI1)) (hGm (gZ g)) (AI1 (hGm (gZ g) 50 0)) nr cl I R J AI1 AJ AR (gZ g + 205) a1 a2 a3 a4 a5 za1 za2 za3 za4 za5 hmv (l_mo hOK) rfl (m_mr hOK hv0 hP8) (m_bg hv0 hQ8)) (cwV 5 F.2.2.2.2.1 gTB_L_X7_round rfl rfl rfl hdX7_round ⟨Nat.le_of_ble_eq_true rfl, Nat.le_of_ble_eq_true rfl⟩) (l_mo hOK) (by decide) rfl rfl rfl (Nat.le_of_ble_eq_true rfl) dL_law_897 ⟨Nat.le_of_succ_le hcs.1, Nat.le_trans (Nat.le_add_right _ _) hcs.2⟩) hS (fun v2 I2 R2 J2 AI2 AJ2 AR2 H locs zv2 hp hH hS => ?_)
  dsimp only at hp
  obtain ⟨rfl, rfl, rfl, rfl, hmv2, ht2, mf, an2, h8, f32⟩ := hp
  have hE8 : lE8 g I2 AR AI2 pA bA nA := lE_k8 hOK hv0 hx1 hE9 (fun _ _ _ _ _ => rfl) hkC hmv2 ht2 (by rw [mf 2 (by decide) (by decide) (by decide) (by decide) (by decide)]) (s_g (fun b _ _ _ a _ => f32 b a)) h8 (lB_m hOK hv1 hmv2)
  have hE : lInv g I2 R AI2 AR := l_end hOK hQ hv0 hx1 hQ.2.1 (fun _ _ _ _ _ => rfl) hmv2 ht2 (by rw [mf 2 (by decide) (by decide) (by decide) (by decide) (by decide)]) (by rw [e6, mf 16 (by decide) (by decide) (by decide) (by decide) (by decide), hmo]; exact hln) (by rw [e6]; exact Int.le_refl _) (l_bk hOK hBq hv1 hmv2 (by rw [mf 14 (by decide) (by decide) (by decide) (by decide) (by decide)])) hE8
  have hH : gH (gW g (I2, AI2)) I2 R J AI2 AJ AR H := gH_W hH
  have F := Fa (I2, AI2)
  refine lv_pop F.1 F.2.1 dL_law_900 rfl ?_
  refine z_goto (tgt := 1068) F dL_law_901 (by decide) ?_
  exact W.widen (Nat.le_add_right _ _) (Nat.le_add_right _ _) (K I2 R J AI2 AJ AR H locs ls hE hH hS (lv_sub hl [0, 1, 2, 3, 4] rfl))
