def rmX1_init : Room := { frames := 3, cells := 39, slots := 4380, locals := 53 }
theorem hdX1_init : yX1_init.cls ≠ "java/lang/invoke/MethodHandle" ∧ yX1_init.cls ≠ "java/lang/invoke/VarHandle" ∧ (parseMethodDescriptor yX1_init.desc).map (fun d => d.parameters.length) = some 0 := by decide +kernel
set_option maxHeartbeats 4000000 in
set_option maxRecDepth 100000 in
theorem mk_X1_init (l : Launch) (g : gG) (hOK : gOK g) : Met l yX1_init wsX1_init rmX1_init (cPre g (1) (3) [.ref (gZ g + 2)]) (cQv g (41) (42)) (39) (4380) (gA g) := by
  refine cStart (cc := cX1_init) (maxL := 1) (ret := none) (by decide) rfl (Nat.le_of_ble_eq_true rfl) ?_
  intro p e s m below meth c ls H locs F hr hlk hini hH hcnt hS hNst hl
  have hl : lv_has ls 1 [(0, .ref (gZ g + 2))] := hl
  have iX1 : ∀ w ∈ u_ws RX1 TX1 4, w ∈ wsX1_init := (by decide +kernel)
  have iX2 : ∀ w ∈ u_ws RX2 TX2 3, w ∈ wsX1_init := (by decide +kernel)
  have iX5 : ∀ w ∈ u_ws RX5 TX5 5, w ∈ wsX1_init := (by decide +kernel)
  have k12 : Cond.fieldLink RX1 12 (TX1 0).1 (TX1 0).2.1 (TX1 0).2.2.1 ∈ wsX1_init := List.mem_of_getElem? (i := 7) rfl
  have k21 : Cond.fieldLink RX1 21 (TX1 1).1 (TX1 1).2.1 (TX1 1).2.2.1 ∈ wsX1_init := List.mem_of_getElem? (i := 11) rfl
  have k25 : Cond.fieldLink RX1 25 (TX2 0).1 (TX2 0).2.1 (TX2 0).2.2.1 ∈ wsX1_init := List.mem_of_getElem? (i := 12) rfl
  have k29 : Cond.fieldLink RX1 29 (TX1 2).1 (TX1 2).2.1 (TX1 2).2.2.1 ∈ wsX1_init := List.mem_of_getElem? (i := 13) rfl
  refine lv_aload_n F.1 F.2.1 dX1_init_0 rfl (lv_at hl 0 rfl) ?_
  refine c_obj F hl.1 (List.mem_of_getElem? (i := 1) rfl) (List.mem_of_getElem? (i := 2) rfl) (List.mem_of_getElem? (i := 3) rfl) dX1_init_1 (Nat.le_of_ble_eq_true rfl) (Nat.le_of_ble_eq_true rfl) ?_
  refine lv_aload_n F.1 F.2.1 dX1_init_4 rfl (lv_at hl 0 rfl) ?_
  refine c_new (ci := 5) F hH hS hcnt rfl (by decide) iX5 tyX5 tyX5_ok df5 (kK hOK (by decide) (by decide +kernel)) (cfr_of (by decide +kernel)) (List.mem_of_getElem? (i := 4) rfl) (List.mem_of_getElem? (i := 5) rfl) (List.mem_of_getElem? (i := 6) rfl) (Nat.le_of_ble_eq_true rfl) (Nat.le_of_ble_eq_true rfl) dX1_init_5 (fun H hH hS => ?_)
  have hH : cH g (1) (4) H := hH
  have hcnt : s.heap.size + (1) = gZ g + (4) := by omega
  refine lv_dup F.1 F.2.1 dX1_init_8 rfl ?_
  refine c_callN (As := []) (rest := [.ref (gZ g + 3), .ref (gZ g + 2)]) (mc := 4) (ms := 3604) F hNst hl.1 hH hS hcnt (mk_X5_init l g hOK) ⟨va_cnB 0 F.2.2.2.2.1 gX1_init_X5_init_n11 rfl rfl rfl hNst.2.2.1 (F.2.2.2.2.1 _ (List.mem_of_getElem? (i := 6) rfl)) hdX5_init ⟨Nat.le_of_ble_eq_true rfl, Nat.le_of_ble_eq_true rfl⟩, rfl, F.2.2.2.2.1 _ (List.mem_of_getElem? (i := 14) rfl)⟩ rfl rfl (Nat.le_of_ble_eq_true rfl) dX1_init_9 ⟨(Nat.le_of_ble_eq_true rfl), (Nat.le_of_ble_eq_true rfl)⟩ (fun H locs hH hS => ?_)
  have hH : cH g (5) (8) H := hH
  have hcnt : s.heap.size + (5) = gZ g + (8) := by omega
  refine c_putRF (ci := 1) (k := 0) F hH hS rfl (by decide) iX1 (by decide) (kK hOK (by decide) (by decide +kernel)) (by decide) tyX1 tyX1_ok nmX1 rfl (ty := tyX1 0) (fun _ => rfl) (fun _ => rfl) rfl hini rfl rfl k12 dX1_init_12 (by decide +kernel) (fun H locs hH hS => ?_)
  have hH : cH g (6) (8) H := hH
  have hcnt : s.heap.size + (5) = gZ g + (8) := by omega
  refine lv_aload_n F.1 F.2.1 dX1_init_15 rfl (lv_at hl 0 rfl) ?_
  refine c_new (ci := 2) F hH hS hcnt rfl (by decide) iX2 tyX2 tyX2_ok df2 (kK hOK (by decide) (by decide +kernel)) (cfr_of (by decide +kernel)) (List.mem_of_getElem? (i := 8) rfl) (List.mem_of_getElem? (i := 9) rfl) (List.mem_of_getElem? (i := 10) rfl) (Nat.le_of_ble_eq_true rfl) (Nat.le_of_ble_eq_true rfl) dX1_init_16 (fun H hH hS => ?_)
  have hH : cH g (6) (9) H := hH
  have hcnt : s.heap.size + (6) = gZ g + (9) := by omega
  refine lv_dup F.1 F.2.1 dX1_init_19 rfl ?_
  refine c_callI (As := []) (rest := [.ref (gZ g + 8), .ref (gZ g + 2)]) (mc := 33) (ms := 768) F hNst hl.1 hH hS hcnt (mk_X2_init l g (6) (8) hOK (by decide) (by decide +kernel) (by decide +kernel) (by decide +kernel) (by decide +kernel) (cfr_of (by decide +kernel)) pl_8) (cwI 0 F.2.2.2.2.1 gX1_init_X2_init rfl rfl rfl (F.2.2.2.2.1 _ (List.mem_of_getElem? (i := 10) rfl)) (F.2.2.2.2.1 _ (List.mem_of_getElem? (i := 23) rfl)) (F.2.2.2.2.1 _ (List.mem_of_getElem? (i := 24) rfl)) rfl hdX2_init ⟨Nat.le_of_ble_eq_true rfl, Nat.le_of_ble_eq_true rfl⟩) rfl rfl (Nat.le_of_ble_eq_true rfl) dX1_init_20 ⟨(Nat.le_of_ble_eq_true rfl), (Nat.le_of_ble_eq_true rfl)⟩ (fun H locs hH hS => ?_)
  have hH : cH g (39) (42) H := hH
  have hcnt : s.heap.size + (39) = gZ g + (42) := by omega
  refine c_putR (ci := 1) (k := 1) F hH hS rfl (by decide) iX1 (by decide) (kK hOK (by decide) (by decide +kernel)) (by decide) tyX1 tyX1_ok nmX1 rfl (ty := tyX1 1) (fun _ => rfl) (fun _ => rfl) rfl rfl k21 dX1_init_23 (by decide +kernel) (fun H locs hH hS => ?_)
  have hH : cH g (40) (42) H := hH
  have hcnt : s.heap.size + (39) = gZ g + (42) := by omega
  refine lv_aload_n F.1 F.2.1 dX1_init_26 rfl (lv_at hl 0 rfl) ?_
  refine lv_aload_n F.1 F.2.1 dX1_init_27 rfl (lv_at hl 0 rfl) ?_
  refine g_getR (ci := 1) (k := 1) (gFix_n F) hH.1 rfl (by decide) iX1 (gO_n (by decide) (kK hOK (by decide) (by decide +kernel))) (by decide) rfl (b := gZ g + 8) (wR_at (by decide +kernel)) k21 dX1_init_28 ?_
  refine g_getR (ci := 2) (k := 0) (gFix_n F) hH.1 rfl (by decide) iX2 (gO_n (by decide) (kK hOK (by decide) (by decide +kernel))) (by decide) rfl (b := gZ g + 9) (wR_at (by decide +kernel)) k25 dX1_init_31 ?_
  refine z_iconst F dX1_init_34 ?_
  refine g_aldL (n := 16) (gFix_n F) hH.1 (gAr_n (by decide) (kK hOK (by decide) (by decide +kernel)) (kN hOK (by decide) (by decide +kernel))) (by decide) (by decide) (by decide) (b := gZ g + 10) (wA_at (by decide +kernel)) dX1_init_35 ?_
  refine c_putR (ci := 1) (k := 2) F hH hS rfl (by decide) iX1 (by decide) (kK hOK (by decide) (by decide +kernel)) (by decide) tyX1 tyX1_ok nmX1 rfl (ty := tyX1 2) (fun _ => rfl) (fun _ => rfl) rfl rfl k29 dX1_init_36 (by decide +kernel) (fun H locs hH hS => ?_)
  have hH : cH g (41) (42) H := hH
  have hcnt : s.heap.size + (39) = gZ g + (42) := by omega
  exact c_vret F hr hlk hH hS (Nat.le_of_ble_eq_true rfl) (Nat.le_of_ble_eq_true rfl) dX1_init_39

def rmX6_init : Room := { frames := 4, cells := 204, slots := 57048, locals := 73 }
theorem hdX6_init : yX6_init.cls ≠ "java/lang/invoke/MethodHandle" ∧ yX6_init.cls ≠ "java/lang/invoke/VarHandle" ∧ (parseMethodDescriptor yX6_init.desc).map (fun d => d.parameters.length) = some 0 := by decide +kernel
set_option maxHeartbeats 4000000 in
set_option maxRecDepth 100000 in
theorem mk_X6_init (l : Launch) (g : gG) (hOK : gOK g) : Met l yX6_init wsX6_init rmX6_init (cPre g (0) (1) [.ref (gZ g + 0)]) (cQv g (325) (205)) (204) (57048) (gA g) := by
  refine cStart (cc := cX6_init) (maxL := 1) (ret := none) (by decide) rfl (Nat.le_of_ble_eq_true rfl) ?_
  intro p e s m below meth c ls H locs F hr hlk hini hH hcnt hS hNst hl
  have hl : lv_has ls 1 [(0, .ref (gZ g + 0))] := hl
  have iX1 : ∀ w ∈ u_ws RX1 TX1 4, w ∈ wsX6_init := (by decide +kernel)
  have iX2 : ∀ w ∈ u_ws RX2 TX2 3, w ∈ wsX6_init := (by decide +kernel)
  have iX3 : ∀ w ∈ u_ws RX3 TX3 3, w ∈ wsX6_init := (by decide +kernel)
  have iX4 : ∀ w ∈ u_ws RX4 TX4 4, w ∈ wsX6_init := (by decide +kernel)
  have iX6 : ∀ w ∈ u_ws RX6 TX6 18, w ∈ wsX6_init := (by decide +kernel)
  have k9 : Cond.fieldLink RX6 9 (TX6 0).1 (TX6 0).2.1 (TX6 0).2.2.1 ∈ wsX6_init := List.mem_of_getElem? (i := 5) rfl
  have k16 : Cond.fieldLink RX6 16 (TX6 2).1 (TX6 2).2.1 (TX6 2).2.2.1 ∈ wsX6_init := List.mem_of_getElem? (i := 9) rfl
  have k23 : Cond.fieldLink RX6 23 (TX6 3).1 (TX6 3).2.1 (TX6 3).2.2.1 ∈ wsX6_init := List.mem_of_getElem? (i := 13) rfl
  have k30 : Cond.fieldLink RX6 30 (TX6 4).1 (TX6 4).2.1 (TX6 4).2.2.1 ∈ wsX6_init := List.mem_of_getElem? (i := 17) rfl
  have k38 : Cond.fieldLink RX6 38 (TX6 5).1 (TX6 5).2.1 (TX6 5).2.2.1 ∈ wsX6_init := List.mem_of_getElem? (i := 18) rfl
  have k42 : Cond.fieldLink RX6 42 (TX6 6).1 (TX6 6).2.1 (TX6 6).2.2.1 ∈ wsX6_init := List.mem_of_getElem? (i := 19) rfl
  have k45 : Cond.fieldLink RX6 45 (TX6 7).1 (TX6 7).2.1 (TX6 7).2.2.1 ∈ wsX6_init := List.mem_of_getElem? (i := 20) rfl
  have k53 : Cond.fieldLink RX6 53 (TX6 8).1 (TX6 8).2.1 (TX6 8).2.2.1 ∈ wsX6_init := List.mem_of_getElem? (i := 24) rfl
  have k57 : Cond.fieldLink RX6 57 (TX6 9).1 (TX6 9).2.1 (TX6 9).2.2.1 ∈ wsX6_init := List.mem_of_getElem? (i := 25) rfl
  have k60 : Cond.fieldLink RX6 60 (TX6 10).1 (TX6 10).2.1 (TX6 10).2.2.1 ∈ wsX6_init := List.mem_of_getElem? (i := 26) rfl
  have k63 : Cond.fieldLink RX6 63 (TX6 11).1 (TX6 11).2.1 (TX6 11).2.2.1 ∈ wsX6_init := List.mem_of_getElem? (i := 27) rfl
  have k66 : Cond.fieldLink RX6 66 (TX6 12).1 (TX6 12).2.1 (TX6 12).2.2.1 ∈ wsX6_init := List.mem_of_getElem? (i := 29) rfl
  have k74 : Cond.fieldLink RX6 74 (TX6 13).1 (TX6 13).2.1 (TX6 13).2.2.1 ∈ wsX6_init := List.mem_of_getElem? (i := 30) rfl
  refine lv_aload_n F.1 F.2.1 dX6_init_0 rfl (lv_at hl 0 rfl) ?_
  refine c_obj F hl.1 (List.mem_of_getElem? (i := 1) rfl) (List.mem_of_getElem? (i := 2) rfl) (List.mem_of_getElem? (i := 3) rfl) dX6_init_1 (Nat.le_of_ble_eq_true rfl) (Nat.le_of_ble_eq_true rfl) ?_
  refine lv_aload_n F.1 F.2.1 dX6_init_4 rfl (lv_at hl 0 rfl) ?_
  refine z_sipush F dX6_init_5 (by decide) ?_
  refine c_newA (ty := .byte) (ck := 8) (i := 0) (N := 936) F hH hS hcnt rfl rfl (fun _ h => h) (fun _ => nc8) (by decide) (List.mem_of_getElem? (i := 4) rfl) (by decide) (by first | rfl | omega) (by omega) (by show _ * 1 ≤ _; omega) (Nat.le_of_ble_eq_true rfl) (Nat.le_of_ble_eq_true rfl) (kK hOK (by decide) (by decide +kernel)) (kN hOK (by decide) (by decide +kernel)) (cfr_of (by decide +kernel)) dX6_init_8 (fun H hH hS => ?_)
  have hH : cH g (0) (2) H := hH
  have hcnt : s.heap.size + (1) = gZ g + (2) := by omega
  refine c_putRF (ci := 6) (k := 0) F hH hS rfl (by decide) iX6 (by decide) (kK hOK (by decide) (by decide +kernel)) (by decide) tyX6 tyX6_ok nmX6 rfl (ty := tyX6 0) (fun _ => rfl) (fun _ => rfl) rfl hini rfl rfl k9 dX6_init_10 (by decide +kernel) (fun H locs hH hS => ?_)
  have hH : cH g (1) (2) H := hH
  have hcnt : s.heap.size + (1) = gZ g + (2) := by omega
  refine lv_aload_n F.1 F.2.1 dX6_init_13 rfl (lv_at hl 0 rfl) ?_
  refine c_new (ci := 1) F hH hS hcnt rfl (by decide) iX1 tyX1 tyX1_ok df1 (kK hOK (by decide) (by decide +kernel)) (cfr_of (by decide +kernel)) (List.mem_of_getElem? (i := 6) rfl) (List.mem_of_getElem? (i := 7) rfl) (List.mem_of_getElem? (i := 8) rfl) (Nat.le_of_ble_eq_true rfl) (Nat.le_of_ble_eq_true rfl) dX6_init_14 (fun H hH hS => ?_)
  have hH : cH g (1) (3) H := hH
  have hcnt : s.heap.size + (2) = gZ g + (3) := by omega
  refine lv_dup F.1 F.2.1 dX6_init_17 rfl ?_
  refine c_callN (As := []) (rest := [.ref (gZ g + 2), .ref (gZ g + 0)]) (mc := 39) (ms := 4380) F hNst hl.1 hH hS hcnt (mk_X1_init l g hOK) ⟨va_cnB 0 F.2.2.2.2.1 gX6_init_X1_init_n15 rfl rfl rfl hNst.1 (F.2.2.2.2.1 _ (List.mem_of_getElem? (i := 8) rfl)) hdX1_init ⟨Nat.le_of_ble_eq_true rfl, Nat.le_of_ble_eq_true rfl⟩, rfl, F.2.2.2.2.1 _ (List.mem_of_getElem? (i := 31) rfl)⟩ rfl rfl (Nat.le_of_ble_eq_true rfl) dX6_init_18 ⟨(Nat.le_of_ble_eq_true rfl), (Nat.le_of_ble_eq_true rfl)⟩ (fun H locs hH hS => ?_)
  have hH : cH g (41) (42) H := hH
  have hcnt : s.heap.size + (41) = gZ g + (42) := by omega
  refine c_putRF (ci := 6) (k := 2) F hH hS rfl (by decide) iX6 (by decide) (kK hOK (by decide) (by decide +kernel)) (by decide) tyX6 tyX6_ok nmX6 rfl (ty := tyX6 2) (fun _ => rfl) (fun _ => rfl) rfl hini rfl rfl k16 dX6_init_21 (by decide +kernel) (fun H locs hH hS => ?_)
  have hH : cH g (42) (42) H := hH
  have hcnt : s.heap.size + (41) = gZ g + (42) := by omega
  refine lv_aload_n F.1 F.2.1 dX6_init_24 rfl (lv_at hl 0 rfl) ?_
  refine c_new (ci := 2) F hH hS hcnt rfl (by decide) iX2 tyX2 tyX2_ok df2 (kK hOK (by decide) (by decide +kernel)) (cfr_of (by decide +kernel)) (List.mem_of_getElem? (i := 10) rfl) (List.mem_of_getElem? (i := 11) rfl) (List.mem_of_getElem? (i := 12) rfl) (Nat.le_of_ble_eq_true rfl) (Nat.le_of_ble_eq_true rfl) dX6_init_25 (fun H hH hS => ?_)
  have hH : cH g (42) (43) H := hH
  have hcnt : s.heap.size + (42) = gZ g + (43) := by omega
  refine lv_dup F.1 F.2.1 dX6_init_28 rfl ?_
  refine c_callI (As := []) (rest := [.ref (gZ g + 42), .ref (gZ g + 0)]) (mc := 33) (ms := 768) F hNst hl.1 hH hS hcnt (mk_X2_init l g (42) (42) hOK (by decide) (by decide +kernel) (by decide +kernel) (by decide +kernel) (by decide +kernel) (cfr_of (by decide +kernel)) pl_42) (cwI 0 F.2.2.2.2.1 gX6_init_X2_init rfl rfl rfl (F.2.2.2.2.1 _ (List.mem_of_getElem? (i := 12) rfl)) (F.2.2.2.2.1 _ (List.mem_of_getElem? (i := 62) rfl)) (F.2.2.2.2.1 _ (List.mem_of_getElem? (i := 51) rfl)) rfl hdX2_init ⟨Nat.le_of_ble_eq_true rfl, Nat.le_of_ble_eq_true rfl⟩) rfl rfl (Nat.le_of_ble_eq_true rfl) dX6_init_29 ⟨(Nat.le_of_ble_eq_true rfl), (Nat.le_of_ble_eq_true rfl)⟩ (fun H locs hH hS => ?_)
  have hH : cH g (75) (76) H := hH
  have hcnt : s.heap.size + (75) = gZ g + (76) := by omega
  refine c_putR (ci := 6) (k := 3) F hH hS rfl (by decide) iX6 (by decide) (kK hOK (by decide) (by decide +kernel)) (by decide) tyX6 tyX6_ok nmX6 rfl (ty := tyX6 3) (fun _ => rfl) (fun _ => rfl) rfl rfl k23 dX6_init_32 (by decide +kernel) (fun H locs hH hS => ?_)
  have hH : cH g (76) (76) H := hH
  have hcnt : s.heap.size + (75) = gZ g + (76) := by omega
  refine lv_aload_n F.1 F.2.1 dX6_init_35 rfl (lv_at hl 0 rfl) ?_
  refine c_new (ci := 3) F hH hS hcnt rfl (by decide) iX3 tyX3 tyX3_ok df3 (kK hOK (by decide) (by decide +kernel)) (cfr_of (by decide +kernel)) (List.mem_of_getElem? (i := 14) rfl) (List.mem_of_getElem? (i := 15) rfl) (List.mem_of_getElem? (i := 16) rfl) (Nat.le_of_ble_eq_true rfl) (Nat.le_of_ble_eq_true rfl) dX6_init_36 (fun H hH hS => ?_)
  have hH : cH g (76) (77) H := hH
  have hcnt : s.heap.size + (76) = gZ g + (77) := by omega
  refine lv_dup F.1 F.2.1 dX6_init_39 rfl ?_
  refine c_callN (As := []) (rest := [.ref (gZ g + 76), .ref (gZ g + 0)]) (mc := 3) (ms := 493) F hNst hl.1 hH hS hcnt (mk_X3_init l g hOK) ⟨va_cnB 0 F.2.2.2.2.1 gX6_init_X3_init_n29 rfl rfl rfl hNst.2.1 (F.2.2.2.2.1 _ (List.mem_of_getElem? (i := 16) rfl)) hdX3_init ⟨Nat.le_of_ble_eq_true rfl, Nat.le_of_ble_eq_true rfl⟩, rfl, F.2.2.2.2.1 _ (List.mem_of_getElem? (i := 63) rfl)⟩ rfl rfl (Nat.le_of_ble_eq_true rfl) dX6_init_40 ⟨(Nat.le_of_ble_eq_true rfl), (Nat.le_of_ble_eq_true rfl)⟩ (fun H locs hH hS => ?_)
  have hH : cH g (79) (80) H := hH
  have hcnt : s.heap.size + (79) = gZ g + (80) := by omega
  refine c_putRF (ci := 6) (k := 4) F hH hS rfl (by decide) iX6 (by decide) (kK hOK (by decide) (by decide +kernel)) (by decide) tyX6 tyX6_ok nmX6 rfl (ty := tyX6 4) (fun _ => rfl) (fun _ => rfl) rfl hini rfl rfl k30 dX6_init_43 (by decide +kernel) (fun H locs hH hS => ?_)
  have hH : cH g (80) (80) H := hH
  have hcnt : s.heap.size + (79) = gZ g + (80) := by omega
  refine lv_aload_n F.1 F.2.1 dX6_init_46 rfl (lv_at hl 0 rfl) ?_
  refine z_bipush F dX6_init_47 (by decide) ?_
  refine c_callS (As := [.int (iI 120)]) (rest := [.ref (gZ g + 0)]) (mc := 33) (ms := 11600) (q := 80) F hNst hl.1 hH hS hcnt (mk_X6_newBags120 l g (80) (80) hOK (by decide) (by decide +kernel) (by decide +kernel) (cfr_of (by decide +kernel)) rw_80) (va_cwS 1 F.2.2.2.2.1 gX6_init_X6_newBags rfl rfl rfl hdX6_newBags ⟨Nat.le_of_ble_eq_true rfl, Nat.le_of_ble_eq_true rfl⟩) rfl rfl (Nat.le_of_ble_eq_true rfl) dX6_init_49 ⟨(Nat.le_of_ble_eq_true rfl), (Nat.le_of_ble_eq_true rfl)⟩ (fun H locs hH hS => ?_)
  have hH : cH g (144) (113) H := hH
  have hcnt : s.heap.size + (112) = gZ g + (113) := by omega
  refine c_putR (ci := 6) (k := 5) F hH hS rfl (by decide) iX6 (by decide) (kK hOK (by decide) (by decide +kernel)) (by decide) tyX6 tyX6_ok nmX6 rfl (ty := tyX6 5) (fun _ => rfl) (fun _ => rfl) rfl rfl k38 dX6_init_52 (by decide +kernel) (fun H locs hH hS => ?_)
  have hH : cH g (145) (113) H := hH
  have hcnt : s.heap.size + (112) = gZ g + (113) := by omega
  refine lv_aload_n F.1 F.2.1 dX6_init_55 rfl (lv_at hl 0 rfl) ?_
  refine z_bipush F dX6_init_56 (by decide) ?_
  refine c_callS (As := [.int (iI 120)]) (rest := [.ref (gZ g + 0)]) (mc := 33) (ms := 11600) (q := 113) F hNst hl.1 hH hS hcnt (mk_X6_newBags120 l g (145) (113) hOK (by decide) (by decide +kernel) (by decide +kernel) (cfr_of (by decide +kernel)) rw_113) (va_cwS 1 F.2.2.2.2.1 gX6_init_X6_newBags rfl rfl rfl hdX6_newBags ⟨Nat.le_of_ble_eq_true rfl, Nat.le_of_ble_eq_true rfl⟩) rfl rfl (Nat.le_of_ble_eq_true rfl) dX6_init_58 ⟨(Nat.le_of_ble_eq_true rfl), (Nat.le_of_ble_eq_true rfl)⟩ (fun H locs hH hS => ?_)
  have hH : cH g (209) (146) H := hH
  have hcnt : s.heap.size + (145) = gZ g + (146) := by omega
  refine c_putR (ci := 6) (k := 6) F hH hS rfl (by decide) iX6 (by decide) (kK hOK (by decide) (by decide +kernel)) (by decide) tyX6 tyX6_ok nmX6 rfl (ty := tyX6 6) (fun _ => rfl) (fun _ => rfl) rfl rfl k42 dX6_init_61 (by decide +kernel) (fun H locs hH hS => ?_)
  have hH : cH g (210) (146) H := hH
  have hcnt : s.heap.size + (145) = gZ g + (146) := by omega
  refine lv_aload_n F.1 F.2.1 dX6_init_64 rfl (lv_at hl 0 rfl) ?_
  refine z_sipush F dX6_init_65 (by decide) ?_
  refine c_callS (As := [.int (iI 240)]) (rest := [.ref (gZ g + 0)]) (mc := 33) (ms := 23120) (q := 146) F hNst hl.1 hH hS hcnt (mk_X6_newBags240 l g (210) (146) hOK (by decide) (by decide +kernel) (by decide +kernel) (cfr_of (by decide +kernel)) rw_146) (va_cwS 1 F.2.2.2.2.1 gX6_init_X6_newBags rfl rfl rfl hdX6_newBags ⟨Nat.le_of_ble_eq_true rfl, Nat.le_of_ble_eq_true rfl⟩) rfl rfl (Nat.le_of_ble_eq_true rfl) dX6_init_68 ⟨(Nat.le_of_ble_eq_true rfl), (Nat.le_of_ble_eq_true rfl)⟩ (fun H locs hH hS => ?_)
  have hH : cH g (274) (179) H := hH
  have hcnt : s.heap.size + (178) = gZ g + (179) := by omega
  refine c_putRF (ci := 6) (k := 7) F hH hS rfl (by decide) iX6 (by decide) (kK hOK (by decide) (by decide +kernel)) (by decide) tyX6 tyX6_ok nmX6 rfl (ty := tyX6 7) (fun _ => rfl) (fun _ => rfl) rfl hini rfl rfl k45 dX6_init_71 (by decide +kernel) (fun H locs hH hS => ?_)
  have hH : cH g (275) (179) H := hH
  have hcnt : s.heap.size + (178) = gZ g + (179) := by omega
  refine lv_aload_n F.1 F.2.1 dX6_init_74 rfl (lv_at hl 0 rfl) ?_
  refine c_new (ci := 4) F hH hS hcnt rfl (by decide) iX4 tyX4 tyX4_ok df4 (kK hOK (by decide) (by decide +kernel)) (cfr_of (by decide +kernel)) (List.mem_of_getElem? (i := 21) rfl) (List.mem_of_getElem? (i := 22) rfl) (List.mem_of_getElem? (i := 23) rfl) (Nat.le_of_ble_eq_true rfl) (Nat.le_of_ble_eq_true rfl) dX6_init_75 (fun H hH hS => ?_)
  have hH : cH g (275) (180) H := hH
  have hcnt : s.heap.size + (179) = gZ g + (180) := by omega
  refine lv_dup F.1 F.2.1 dX6_init_78 rfl ?_
  refine z_iconst F dX6_init_79 ?_
  refine z_bipush F dX6_init_80 (by decide) ?_
  refine c_callI (As := [.int (iI 5), .int (iI 40)]) (rest := [.ref (gZ g + 179), .ref (gZ g + 0)]) (mc := 1) (ms := 240) F hNst hl.1 hH hS hcnt (mk_X4_init l g (275) (179) 5 40 hOK (by decide) (by decide +kernel) (by decide +kernel) (by decide +kernel) (by decide +kernel) (by decide +kernel) (by decide +kernel) (cfr_of (by decide +kernel)) (by decide)) (cwI 2 F.2.2.2.2.1 gX6_init_X4_init rfl rfl rfl (F.2.2.2.2.1 _ (List.mem_of_getElem? (i := 23) rfl)) (F.2.2.2.2.1 _ (List.mem_of_getElem? (i := 73) rfl)) (F.2.2.2.2.1 _ (List.mem_of_getElem? (i := 74) rfl)) rfl hdX4_init ⟨Nat.le_of_ble_eq_true rfl, Nat.le_of_ble_eq_true rfl⟩) rfl rfl (Nat.le_of_ble_eq_true rfl) dX6_init_82 ⟨(Nat.le_of_ble_eq_true rfl), (Nat.le_of_ble_eq_true rfl)⟩ (fun H locs hH hS => ?_)
  have hH : cH g (278) (181) H := hH
  have hcnt : s.heap.size + (180) = gZ g + (181) := by omega
  refine c_putRF (ci := 6) (k := 8) F hH hS rfl (by decide) iX6 (by decide) (kK hOK (by decide) (by decide +kernel)) (by decide) tyX6 tyX6_ok nmX6 rfl (ty := tyX6 8) (fun _ => rfl) (fun _ => rfl) rfl hini rfl rfl k53 dX6_init_85 (by decide +kernel) (fun H locs hH hS => ?_)
  have hH : cH g (279) (181) H := hH
  have hcnt : s.heap.size + (180) = gZ g + (181) := by omega
  refine lv_aload_n F.1 F.2.1 dX6_init_88 rfl (lv_at hl 0 rfl) ?_
  refine c_new (ci := 4) F hH hS hcnt rfl (by decide) iX4 tyX4 tyX4_ok df4 (kK hOK (by decide) (by decide +kernel)) (cfr_of (by decide +kernel)) (List.mem_of_getElem? (i := 21) rfl) (List.mem_of_getElem? (i := 22) rfl) (List.mem_of_getElem? (i := 23) rfl) (Nat.le_of_ble_eq_true rfl) (Nat.le_of_ble_eq_true rfl) dX6_init_89 (fun H hH hS => ?_)
  have hH : cH g (279) (182) H := hH
  have hcnt : s.heap.size + (181) = gZ g + (182) := by omega
  refine lv_dup F.1 F.2.1 dX6_init_92 rfl ?_
  refine z_iconst F dX6_init_93 ?_
  refine z_bipush F dX6_init_94 (by decide) ?_
  refine c_callI (As := [.int (iI 5), .int (iI 40)]) (rest := [.ref (gZ g + 181), .ref (gZ g + 0)]) (mc := 1) (ms := 240) F hNst hl.1 hH hS hcnt (mk_X4_init l g (279) (181) 5 40 hOK (by decide) (by decide +kernel) (by decide +kernel) (by decide +kernel) (by decide +kernel) (by decide +kernel) (by decide +kernel) (cfr_of (by decide +kernel)) (by decide)) (cwI 2 F.2.2.2.2.1 gX6_init_X4_init rfl rfl rfl (F.2.2.2.2.1 _ (List.mem_of_getElem? (i := 23) rfl)) (F.2.2.2.2.1 _ (List.mem_of_getElem? (i := 73) rfl)) (F.2.2.2.2.1 _ (List.mem_of_getElem? (i := 74) rfl)) rfl hdX4_init ⟨Nat.le_of_ble_eq_true rfl, Nat.le_of_ble_eq_true rfl⟩) rfl rfl (Nat.le_of_ble_eq_true rfl) dX6_init_96 ⟨(Nat.le_of_ble_eq_true rfl), (Nat.le_of_ble_eq_true rfl)⟩ (fun H locs hH hS => ?_)
  have hH : cH g (282) (183) H := hH
  have hcnt : s.heap.size + (182) = gZ g + (183) := by omega
  refine c_putRF (ci := 6) (k := 9) F hH hS rfl (by decide) iX6 (by decide) (kK hOK (by decide) (by decide +kernel)) (by decide) tyX6 tyX6_ok nmX6 rfl (ty := tyX6 9) (fun _ => rfl) (fun _ => rfl) rfl hini rfl rfl k57 dX6_init_99 (by decide +kernel) (fun H locs hH hS => ?_)
  have hH : cH g (283) (183) H := hH
  have hcnt : s.heap.size + (182) = gZ g + (183) := by omega
  refine lv_aload_n F.1 F.2.1 dX6_init_102 rfl (lv_at hl 0 rfl) ?_
  refine c_new (ci := 4) F hH hS hcnt rfl (by decide) iX4 tyX4 tyX4_ok df4 (kK hOK (by decide) (by decide +kernel)) (cfr_of (by decide +kernel)) (List.mem_of_getElem? (i := 21) rfl) (List.mem_of_getElem? (i := 22) rfl) (List.mem_of_getElem? (i := 23) rfl) (Nat.le_of_ble_eq_true rfl) (Nat.le_of_ble_eq_true rfl) dX6_init_103 (fun H hH hS => ?_)
  have hH : cH g (283) (184) H := hH
  have hcnt : s.heap.size + (183) = gZ g + (184) := by omega
  refine lv_dup F.1 F.2.1 dX6_init_106 rfl ?_
  refine z_iconst F dX6_init_107 ?_
  refine z_bipush F dX6_init_108 (by decide) ?_
  refine c_callI (As := [.int (iI 4), .int (iI 40)]) (rest := [.ref (gZ g + 183), .ref (gZ g + 0)]) (mc := 1) (ms := 240) F hNst hl.1 hH hS hcnt (mk_X4_init l g (283) (183) 4 40 hOK (by decide) (by decide +kernel) (by decide +kernel) (by decide +kernel) (by decide +kernel) (by decide +kernel) (by decide +kernel) (cfr_of (by decide +kernel)) (by decide)) (cwI 2 F.2.2.2.2.1 gX6_init_X4_init rfl rfl rfl (F.2.2.2.2.1 _ (List.mem_of_getElem? (i := 23) rfl)) (F.2.2.2.2.1 _ (List.mem_of_getElem? (i := 73) rfl)) (F.2.2.2.2.1 _ (List.mem_of_getElem? (i := 74) rfl)) rfl hdX4_init ⟨Nat.le_of_ble_eq_true rfl, Nat.le_of_ble_eq_true rfl⟩) rfl rfl (Nat.le_of_ble_eq_true rfl) dX6_init_110 ⟨(Nat.le_of_ble_eq_true rfl), (Nat.le_of_ble_eq_true rfl)⟩ (fun H locs hH hS => ?_)
  have hH : cH g (286) (185) H := hH
  have hcnt : s.heap.size + (184) = gZ g + (185) := by omega
  refine c_putRF (ci := 6) (k := 10) F hH hS rfl (by decide) iX6 (by decide) (kK hOK (by decide) (by decide +kernel)) (by decide) tyX6 tyX6_ok nmX6 rfl (ty := tyX6 10) (fun _ => rfl) (fun _ => rfl) rfl hini rfl rfl k60 dX6_init_113 (by decide +kernel) (fun H locs hH hS => ?_)
  have hH : cH g (287) (185) H := hH
  have hcnt : s.heap.size + (184) = gZ g + (185) := by omega
  refine lv_aload_n F.1 F.2.1 dX6_init_116 rfl (lv_at hl 0 rfl) ?_
  refine c_new (ci := 4) F hH hS hcnt rfl (by decide) iX4 tyX4 tyX4_ok df4 (kK hOK (by decide) (by decide +kernel)) (cfr_of (by decide +kernel)) (List.mem_of_getElem? (i := 21) rfl) (List.mem_of_getElem? (i := 22) rfl) (List.mem_of_getElem? (i := 23) rfl) (Nat.le_of_ble_eq_true rfl) (Nat.le_of_ble_eq_true rfl) dX6_init_117 (fun H hH hS => ?_)
  have hH : cH g (287) (186) H := hH
  have hcnt : s.heap.size + (185) = gZ g + (186) := by omega
  refine lv_dup F.1 F.2.1 dX6_init_120 rfl ?_
  refine z_iconst F dX6_init_121 ?_
  refine z_sipush F dX6_init_122 (by decide) ?_
  refine c_callI (As := [.int (iI 4), .int (iI 240)]) (rest := [.ref (gZ g + 185), .ref (gZ g + 0)]) (mc := 1) (ms := 1440) F hNst hl.1 hH hS hcnt (mk_X4_init l g (287) (185) 4 240 hOK (by decide) (by decide +kernel) (by decide +kernel) (by decide +kernel) (by decide +kernel) (by decide +kernel) (by decide +kernel) (cfr_of (by decide +kernel)) (by decide)) (cwI 2 F.2.2.2.2.1 gX6_init_X4_init rfl rfl rfl (F.2.2.2.2.1 _ (List.mem_of_getElem? (i := 23) rfl)) (F.2.2.2.2.1 _ (List.mem_of_getElem? (i := 73) rfl)) (F.2.2.2.2.1 _ (List.mem_of_getElem? (i := 74) rfl)) rfl hdX4_init ⟨Nat.le_of_ble_eq_true rfl, Nat.le_of_ble_eq_true rfl⟩) rfl rfl (Nat.le_of_ble_eq_true rfl) dX6_init_125 ⟨(Nat.le_of_ble_eq_true rfl), (Nat.le_of_ble_eq_true rfl)⟩ (fun H locs hH hS => ?_)
  have hH : cH g (290) (187) H := hH
  have hcnt : s.heap.size + (186) = gZ g + (187) := by omega
  refine c_putRF (ci := 6) (k := 11) F hH hS rfl (by decide) iX6 (by decide) (kK hOK (by decide) (by decide +kernel)) (by decide) tyX6 tyX6_ok nmX6 rfl (ty := tyX6 11) (fun _ => rfl) (fun _ => rfl) rfl hini rfl rfl k63 dX6_init_128 (by decide +kernel) (fun H locs hH hS => ?_)
  have hH : cH g (291) (187) H := hH
  have hcnt : s.heap.size + (186) = gZ g + (187) := by omega
  refine lv_aload_n F.1 F.2.1 dX6_init_131 rfl (lv_at hl 0 rfl) ?_
  refine z_iconst F dX6_init_132 ?_
  refine c_newA (ty := .int) (ck := 9) (i := 1) (N := 5) F hH hS hcnt rfl rfl (fun _ h => h) (fun _ => nc9) (by decide) (List.mem_of_getElem? (i := 28) rfl) (by decide) (by first | rfl | omega) (by omega) (by show _ * 4 ≤ _; omega) (Nat.le_of_ble_eq_true rfl) (Nat.le_of_ble_eq_true rfl) (kK hOK (by decide) (by decide +kernel)) (kN hOK (by decide) (by decide +kernel)) (cfr_of (by decide +kernel)) dX6_init_133 (fun H hH hS => ?_)
  have hH : cH g (291) (188) H := hH
  have hcnt : s.heap.size + (187) = gZ g + (188) := by omega
  refine c_putRF (ci := 6) (k := 12) F hH hS rfl (by decide) iX6 (by decide) (kK hOK (by decide) (by decide +kernel)) (by decide) tyX6 tyX6_ok nmX6 rfl (ty := tyX6 12) (fun _ => rfl) (fun _ => rfl) rfl hini rfl rfl k66 dX6_init_135 (by decide +kernel) (fun H locs hH hS => ?_)
  have hH : cH g (292) (188) H := hH
  have hcnt : s.heap.size + (187) = gZ g + (188) := by omega
  refine lv_aload_n F.1 F.2.1 dX6_init_138 rfl (lv_at hl 0 rfl) ?_
  refine c_callS (As := []) (rest := [.ref (gZ g + 0)]) (mc := 17) (ms := 1960) (q := 188) F hNst hl.1 hH hS hcnt (mk_X6_newHistory l g (292) (188) hOK (by decide) (by decide +kernel) (by decide +kernel) (cfr_of (by decide +kernel)) rw_188) (va_cwS 0 F.2.2.2.2.1 gX6_init_X6_newHistory rfl rfl rfl hdX6_newHistory ⟨Nat.le_of_ble_eq_true rfl, Nat.le_of_ble_eq_true rfl⟩) rfl rfl (Nat.le_of_ble_eq_true rfl) dX6_init_139 ⟨(Nat.le_of_ble_eq_true rfl), (Nat.le_of_ble_eq_true rfl)⟩ (fun H locs hH hS => ?_)
  have hH : cH g (324) (205) H := hH
  have hcnt : s.heap.size + (204) = gZ g + (205) := by omega
  refine c_putRF (ci := 6) (k := 13) F hH hS rfl (by decide) iX6 (by decide) (kK hOK (by decide) (by decide +kernel)) (by decide) tyX6 tyX6_ok nmX6 rfl (ty := tyX6 13) (fun _ => rfl) (fun _ => rfl) rfl hini rfl rfl k74 dX6_init_142 (by decide +kernel) (fun H locs hH hS => ?_)
  have hH : cH g (325) (205) H := hH
  have hcnt : s.heap.size + (204) = gZ g + (205) := by omega
  exact c_vret F hr hlk hH hS (Nat.le_of_ble_eq_true rfl) (Nat.le_of_ble_eq_true rfl) dX6_init_145
