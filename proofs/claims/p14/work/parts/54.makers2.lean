section
def rmX1_init : Room := { frames := 3, cells := 39, slots := 4380, locals := 53 }
theorem hdX1_init : yX1_init.cls ≠ "java/lang/invoke/MethodHandle" ∧ yX1_init.cls ≠ "java/lang/invoke/VarHandle" ∧ (parseMethodDescriptor yX1_init.desc).map (fun d => d.parameters.length) = some 0 := by decide +kernel
set_option maxHeartbeats 4000000 in
set_option maxRecDepth 100000 in
theorem mk_X1_init (l : Launch) (g : gG) (hOK : gOK g) : Met l yX1_init wsX1_init rmX1_init (cPre g (1) (3) [.ref (gZ g + 2)]) (cQv g (41) (42)) (39) (4380) (gA g) := by
  refine cStart (cc := cX1_init) (maxL := 1) (ret := none) (by decide) rfl (Nat.le_of_ble_eq_true rfl) ?_
  intro p e s m below meth c ls H locs F hr hlk hini hH hcnt hS hNst hl
  have hl : lv_has ls 1 [(0, .ref (gZ g + 2))] := hl
  have iX1 : ∀ w ∈ u_ws RX1 TX1 4, w ∈ wsX1_init := (by decide +kernel)
  have iX2 : ∀ w ∈ u_ws RX2 TX2 3, w ∈ wsX1_init := (by decide +kernel)
  have iX5 : ∀ w ∈ u_ws RX5 TX5 5, w ∈ wsX1_init := (by decide +kernel)
  have k12 : Cond.fieldLink RX1 12 (TX1 0).1 (TX1 0).2.1 (TX1 0).2.2.1 ∈ wsX1_init := List.mem_of_getElem? (i := 7) rfl
  have k21 : Cond.fieldLink RX1 21 (TX1 1).1 (TX1 1).2.1 (TX1 1).2.2.1 ∈ wsX1_init := List.mem_of_getElem? (i := 11) rfl
  have k25 : Cond.fieldLink RX1 25 (TX2 0).1 (TX2 0).2.1 (TX2 0).2.2.1 ∈ wsX1_init := List.mem_of_getElem? (i := 12) rfl
  have k29 : Cond.fieldLink RX1 29 (TX1 2).1 (TX1 2).2.1 (TX1 2).2.2.1 ∈ wsX1_init := List.mem_of_getElem? (i := 13) rfl
  refine lv_aload_n F.1 F.2.1 dX1_init_0 rfl (lv_at hl 0 rfl) ?_
  refine c_obj F hl.1 (List.mem_of_getElem? (i := 1) rfl) (List.mem_of_getElem? (i := 2) rfl) (List.mem_of_getElem? (i := 3) rfl) dX1_init_1 (Nat.le_of_ble_eq_true rfl) (Nat.le_of_ble_eq_true rfl) ?_
  refine lv_aload_n F.1 F.2.1 dX1_init_4 rfl (lv_at hl 0 rfl) ?_
  refine c_new (ci := 5) F hH hS hcnt rfl (by decide) iX5 tyX5 tyX5_ok df5 (kK hOK (by decide) (by decide +kernel)) (cfr_of (by decide +kernel)) (List.mem_of_getElem? (i := 4) rfl) (List.mem_of_getElem? (i := 5) rfl) (List.mem_of_getElem? (i := 6) rfl) (Nat.le_of_ble_eq_true rfl) (Nat.le_of_ble_eq_true rfl) dX1_init_5 (fun H hH hS => ?_)
  have hH : cH g (1) (4) H := hH
  have hcnt : s.heap.size + (1) = gZ g + (4) := by omega
  refine lv_dup F.1 F.2.1 dX1_init_8 rfl ?_
  refine c_callN (As := []) (rest := [.ref (gZ g + 3), .ref (gZ g + 2)]) (mc := 4) (ms := 3604) F hNst hl.1 hH hS hcnt (mk_X5_init l g hOK) ⟨va_cnB 0 F.2.2.2.2.1 gX1_init_X5_init_n11 rfl rfl rfl hNst.2.2.1 (F.2.2.2.2.1 _ (List.mem_of_getElem? (i := 6) rfl)) hdX5_init ⟨Nat.le_of_ble_eq_true rfl, Nat.le_of_ble_eq_true rfl⟩, rfl, F.2.2.2.2.1 _ (List.mem_of_getElem? (i := 14) rfl)⟩ rfl rfl (Nat.le_of_ble_eq_true rfl) dX1_init_9 ⟨(Nat.le_of_ble_eq_true rfl), (Nat.le_of_ble_eq_true rfl)⟩ (fun H locs hH hS => ?_)
  have hH : cH g (5) (8) H := hH
  have hcnt : s.heap.size + (5) = gZ g + (8) := by omega
  refine c_putRF (ci := 1) (k := 0) F hH hS rfl (by decide) iX1 (by decide) (kK hOK (by decide) (by decide +kernel)) (by decide) tyX1 tyX1_ok nmX1 rfl (ty := tyX1 0) (fun _ => rfl) (fun _ => rfl) rfl hini rfl rfl k12 dX1_init_12 (by decide +kernel) (fun H locs hH hS => ?_)
  have hH : cH g (6) (8) H := hH
  have hcnt : s.heap.size + (5) = gZ g + (8) := by omega
  refine lv_aload_n F.1 F.2.1 dX1_init_15 rfl (lv_at hl 0 rfl) ?_
  refine c_new (ci := 2) F hH hS hcnt rfl (by decide) iX2 tyX2 tyX2_ok df2 (kK hOK (by decide) (by decide +kernel)) (cfr_of (by decide +kernel)) (List.mem_of_getElem? (i := 8) rfl) (List.mem_of_getElem? (i := 9) rfl) (List.mem_of_getElem? (i := 10) rfl) (Nat.le_of_ble_eq_true rfl) (Nat.le_of_ble_eq_true rfl) dX1_init_16 (fun H hH hS => ?_)
  have hH : cH g (6) (9) H := hH
  have hcnt : s.heap.size + (6) = gZ g + (9) := by omega
  refine lv_dup F.1 F.2.1 dX1_init_19 rfl ?_
  refine c_callI (As := []) (rest := [.ref (gZ g + 8), .ref (gZ g + 2)]) (mc := 33) (ms := 768) F hNst hl.1 hH hS hcnt (mk_X2_init l g (6) (8) hOK (by decide) (by decide +kernel) (by decide +kernel) (by decide +kernel) (by decide +kernel) (cfr_of (by decide +kernel)) pl_8) (cwI 0 F.2.2.2.2.1 gX1_init_X2_init rfl rfl rfl (F.2.2.2.2.1 _ (List.mem_of_getElem? (i := 10) rfl)) (F.2.2.2.2.1 _ (List.mem_of_getElem? (i := 23) rfl)) (F.2.2.2.2.1 _ (List.mem_of_getElem? (i := 24) rfl)) rfl hdX2_init ⟨Nat.le_of_ble_eq_true rfl, Nat.le_of_ble_eq_true rfl⟩) rfl rfl (Nat.le_of_ble_eq_true rfl) dX1_init_20 ⟨(Nat.le_of_ble_eq_true rfl), (Nat.le_of_ble_eq_true rfl)⟩ (fun H locs hH hS => ?_)
  have hH : cH g (39) (42) H := hH
  have hcnt : s.heap.size + (39) = gZ g + (42) := by omega
  refine c_putR (ci := 1) (k := 1) F hH hS rfl (by decide) iX1 (by decide) (kK hOK (by decide) (by decide +kernel)) (by decide) tyX1 tyX1_ok nmX1 rfl (ty := tyX1 1) (fun _ => rfl) (fun _ => rfl) rfl rfl k21 dX1_init_23 (by decide +kernel) (fun H locs hH hS => ?_)
  have hH : cH g (40) (42) H := hH
  have hcnt : s.heap.size + (39) = gZ g + (42) := by omega
  refine lv_aload_n F.1 F.2.1 dX1_init_26 rfl (lv_at hl 0 rfl) ?_
  refine lv_aload_n F.1 F.2.1 dX1_init_27 rfl (lv_at hl 0 rfl) ?_
  refine g_getR (ci := 1) (k := 1) (gFix_n F) hH.1 rfl (by decide) iX1 (gO_n (by decide) (kK hOK (by decide) (by decide +kernel))) (by decide) rfl (b := gZ g + 8) (wR_at (by decide +kernel)) k21 dX1_init_28 ?_
  refine g_getR (ci := 2) (k := 0) (gFix_n F) hH.1 rfl (by decide) iX2 (gO_n (by decide) (kK hOK (by decide) (by decide +kernel))) (by decide) rfl (b := gZ g + 9) (wR_at (by decide +kernel)) k25 dX1_init_31 ?_
  refine z_iconst F dX1_init_34 ?_
  refine g_aldL (n := 16) (gFix_n F) hH.1 (gAr_n (by decide) (kK hOK (by decide) (by decide +kernel)) (kN hOK (by decide) (by decide +kernel))) (by decide) (by decide) (by decide) (b := gZ g + 10) (wA_at (by decide +kernel)) dX1_init_35 ?_
  refine c_putR (ci := 1) (k := 2) F hH hS rfl (by decide) iX1 (by decide) (kK hOK (by decide) (by decide +kernel)) (by decide) tyX1 tyX1_ok nmX1 rfl (ty := tyX1 2) (fun _ => rfl) (fun _ => rfl) rfl rfl k29 dX1_init_36 (by decide +kernel) (fun H locs hH hS => ?_)
  have hH : cH g (41) (42) H := hH
  have hcnt : s.heap.size + (39) = gZ g + (42) := by omega
  exact c_vret F hr hlk hH hS (Nat.le_of_ble_eq_true rfl) (Nat.le_of_ble_eq_true rfl) dX1_init_39

def rmX6_init : Room := { frames := 4, cells := 204, slots := 57048, locals := 73 }
theorem hdX6_init : yX6_init.cls ≠ "java/lang/invoke/MethodHandle" ∧ yX6_init.cls ≠ "java/lang/invoke/VarHandle" ∧ (parseMethodDescriptor yX6_init.desc).map (fun d => d.parameters.length) = some 0 := by decide +kernel
set_option maxHeartbeats 4000000 in
set_option maxRecDepth 100000 in
theorem mk_X6_init (l : Launch) (g : gG) (hOK : gOK g) : Met l yX6_init wsX6_init rmX6_init (cPre g (0) (1) [.ref (gZ g + 0)]) (cQv g (325) (205)) (204) (57048) (gA g) := by
  refine cStart (cc := cX6_init) (maxL := 1) (ret := none) (by decide) rfl (Nat.le_of_ble_eq_true rfl) ?_
  intro p e s m below meth c ls H locs F hr hlk hini hH hcnt hS hNst hl
  have hl : lv_has ls 1 [(0, .ref (gZ g + 0))] := hl
  have iX1 : ∀ w ∈ u_ws RX1 TX1 4, w ∈ wsX6_init := (by decide +kernel)
  have iX2 : ∀ w ∈ u_ws RX2 TX2 3, w ∈ wsX6_init := (by decide +kernel)
  have iX3 : ∀ w ∈ u_ws RX3 TX3 3, w ∈ wsX6_init := (by decide +kernel)
  have iX4 : ∀ w ∈ u_ws RX4 TX4 4, w ∈ wsX6_init := (by decide +kernel)
  have iX6 : ∀ w ∈ u_ws RX6 TX6 18, w ∈ wsX6_init := (by decide +kernel)
  have k9 : Cond.fieldLink RX6 9 (TX6 0).1 (TX6 0).2.1 (TX6 0).2.2.1 ∈ wsX6_init := List.mem_of_getElem? (i := 5) rfl
  have k16 : Cond.fieldLink RX6 16 (TX6 2).1 (TX6 2).2.1 (TX6 2).2.2.1 ∈ wsX6_init := List.mem_of_getElem? (i := 9) rfl
  have k23 : Cond.fieldLink RX6 23 (TX6 3).1 (TX6 3).2.1 (TX6 3).2.2.1 ∈ wsX6_init := List.mem_of_getElem? (i := 13) rfl
  have k30 : Cond.fieldLink RX6 30 (TX6 4).1 (TX6 4).2.1 (TX6 4).2.2.1 ∈ wsX6_init := List.mem_of_getElem? (i := 17) rfl
  have k38 : Cond.fieldLink RX6 38 (TX6 5).1 (TX6 5).2.1 (TX6 5).2.2.1 ∈ wsX6_init := List.mem_of_getElem? (i := 18) rfl
  have k42 : Cond.fieldLink RX6 42 (TX6 6).1 (TX6 6).2.1 (TX6 6).2.2.1 ∈ wsX6_init := List.mem_of_getElem? (i := 19) rfl
  have k45 : Cond.fieldLink RX6 45 (TX6 7).1 (TX6 7).2.1 (TX6 7).2.2.1 ∈ wsX6_init := List.mem_of_getElem? (i := 20) rfl
  have k53 : Cond.fieldLink RX6 53 (TX6 8).1 (TX6 8).2.1 (TX6 8).2.2.1 ∈ wsX6_init := List.mem_of_getElem? (i := 24) rfl
  have k57 : Cond.fieldLink RX6 57 (TX6 9).1 (TX6 9).2.1 (TX6 9).2.2.1 ∈ wsX6_init := List.mem_of_getElem? (i := 25) rfl
  have k60 : Cond.fieldLink RX6 60 (TX6 10).1 (TX6 10).2.1 (TX6 10).2.2.1 ∈ wsX6_init := List.mem_of_getElem? (i := 26) rfl
  have k63 : Cond.fieldLink RX6 63 (TX6 11).1 (TX6 11).2.1 (TX6 11).2.2.1 ∈ wsX6_init := List.mem_of_getElem? (i := 27) rfl
  have k66 : Cond.fieldLink RX6 66 (TX6 12).1 (TX6 12).2.1 (TX6 12).2.2.1 ∈ wsX6_init := List.mem_of_getElem? (i := 29) rfl
  have k74 : Cond.fieldLink RX6 74 (TX6 13).1 (TX6 13).2.1 (TX6 13).2.2.1 ∈ wsX6_init := List.mem_of_getElem? (i := 30) rfl
  refine lv_aload_n F.1 F.2.1 dX6_init_0 rfl (lv_at hl 0 rfl) ?_
  refine c_obj F hl.1 (List.mem_of_getElem? (i := 1) rfl) (List.mem_of_getElem? (i := 2) rfl) (List.mem_of_getElem? (i := 3) rfl) dX6_init_1 (Nat.le_of_ble_eq_true rfl) (Nat.le_of_ble_eq_true rfl) ?_
  refine lv_aload_n F.1 F.2.1 dX6_init_4 rfl (lv_at hl 0 rfl) ?_
  refine z_sipush F dX6_init_5 (by decide) ?_
  refine c_newA (ty := .byte) (ck := 8) (i := 0) (N := 936) F hH hS hcnt rfl rfl (fun _ h => h) (fun _ => nc8) (by decide) (List.mem_of_getElem? (i := 4) rfl) (by decide) (by first | rfl | omega) (by omega) (by show _ * 1 ≤ _; omega) (Nat.le_of_ble_eq_true rfl) (Nat.le_of_ble_eq_true rfl) (kK hOK (by decide) (by decide +kernel)) (kN hOK (by decide) (by decide +kernel)) (cfr_of (by decide +kernel)) dX6_init_8 (fun H hH hS => ?_)
  have hH : cH g (0) (2) H := hH
  have hcnt : s.heap.size + (1) = gZ g + (2) := by omega
  refine c_putRF (ci := 6) (k := 0) F hH hS rfl (by decide) iX6 (by decide) (kK hOK (by decide) (by decide +kernel)) (by decide) tyX6 tyX6_ok nmX6 rfl (ty := tyX6 0) (fun _ => rfl) (fun _ => rfl) rfl hini rfl rfl k9 dX6_init_10 (by decide +kernel) (fun H locs hH hS => ?_)
  have hH : cH g (1) (2) H := hH
  have hcnt : s.heap.size + (1) = gZ g + (2) := by omega
  refine lv_aload_n F.1 F.2.1 dX6_init_13 rfl (lv_at hl 0 rfl) ?_
  refine c_new (ci := 1) F hH hS hcnt rfl (by decide) iX1 tyX1 tyX1_ok df1 (kK hOK (by decide) (by decide +kernel)) (cfr_of (by decide +kernel)) (List.mem_of_getElem? (i := 6) rfl) (List.mem_of_getElem? (i := 7) rfl) (List.mem_of_getElem? (i := 8) rfl) (Nat.le_of_ble_eq_true rfl) (Nat.le_of_ble_eq_true rfl) dX6_init_14 (fun H hH hS => ?_)
  have hH : cH g (1) (3) H := hH
  have hcnt : s.heap.size + (2) = gZ g + (3) := by omega
  refine lv_dup F.1 F.2.1 dX6_init_17 rfl ?_
  refine c_callN (As := []) (rest := [.ref (gZ g + 2), .ref (gZ g + 0)]) (mc := 39) (ms := 4380) F hNst hl.1 hH hS hcnt (mk_X1_init l g hOK) ⟨va_cnB 0 F.2.2.2.2.1 gX6_init_X1_init_n15 rfl rfl rfl hNst.1 (F.2.2.2.2.1 _ (List.mem_of_getElem? (i := 8) rfl)) hdX1_init ⟨Nat.le_of_ble_eq_true rfl, Nat.le_of_ble_eq_true rfl⟩, rfl, F.2.2.2.2.1 _ (List.mem_of_getElem? (i := 31) rfl)⟩ rfl rfl (Nat.le_of_ble_eq_true rfl) dX6_init_18 ⟨(Nat.le_of_ble_eq_true rfl), (Nat.le_of_ble_eq_true rfl)⟩ (fun H locs hH hS => ?_)
  have hH : cH g (41) (42) H := hH
  have hcnt : s.heap.size + (41) = gZ g + (42) := by omega
  refine c_putRF (ci := 6) (k := 2) F hH hS rfl (by decide) iX6 (by decide) (kK hOK (by decide) (by decide +kernel)) (by decide) tyX6 tyX6_ok nmX6 rfl (ty := tyX6 2) (fun _ => rfl) (fun _ => rfl) rfl hini rfl rfl k16 dX6_init_21 (by decide +kernel) (fun H locs hH hS => ?_)
  have hH : cH g (42) (42) H := hH
  have hcnt : s.heap.size + (41) = gZ g + (42) := by omega
  refine lv_aload_n F.1 F.2.1 dX6_init_24 rfl (lv_at hl 0 rfl) ?_
  refine c_new (ci := 2) F hH hS hcnt rfl (by decide) iX2 tyX2 tyX2_ok df2 (kK hOK (by decide) (by decide +kernel)) (cfr_of (by decide +kernel)) (List.mem_of_getElem? (i := 10) rfl) (List.mem_of_getElem? (i := 11) rfl) (List.mem_of_getElem? (i := 12) rfl) (Nat.le_of_ble_eq_true rfl) (Nat.le_of_ble_eq_true rfl) dX6_init_25 (fun H hH hS => ?_)
  have hH : cH g (42) (43) H := hH
  have hcnt : s.heap.size + (42) = gZ g + (43) := by omega
  refine lv_dup F.1 F.2.1 dX6_init_28 rfl ?_
  refine c_callI (As := []) (rest := [.ref (gZ g + 42), .ref (gZ g + 0)]) (mc := 33) (ms := 768) F hNst hl.1 hH hS hcnt (mk_X2_init l g (42) (42) hOK (by decide) (by decide +kernel) (by decide +kernel) (by decide +kernel) (by decide +kernel) (cfr_of (by decide +kernel)) pl_42) (cwI 0 F.2.2.2.2.1 gX6_init_X2_init rfl rfl rfl (F.2.2.2.2.1 _ (List.mem_of_getElem? (i := 12) rfl)) (F.2.2.2.2.1 _ (List.mem_of_getElem? (i := 62) rfl)) (F.2.2.2.2.1 _ (List.mem_of_getElem? (i := 51) rfl)) rfl hdX2_init ⟨Nat.le_of_ble_eq_true rfl, Nat.le_of_ble_eq_true rfl⟩) rfl rfl (Nat.le_of_ble_eq_true rfl) dX6_init_29 ⟨(Nat.le_of_ble_eq_true rfl), (Nat.le_of_ble_eq_true rfl)⟩ (fun H locs hH hS => ?_)
  have hH : cH g (75) (76) H := hH
  have hcnt : s.heap.size + (75) = gZ g + (76) := by omega
  refine c_putR (ci := 6) (k := 3) F hH hS rfl (by decide) iX6 (by decide) (kK hOK (by decide) (by decide +kernel)) (by decide) tyX6 tyX6_ok nmX6 rfl (ty := tyX6 3) (fun _ => rfl) (fun _ => rfl) rfl rfl k23 dX6_init_32 (by decide +kernel) (fun H locs hH hS => ?_)
  have hH : cH g (76) (76) H := hH
  have hcnt : s.heap.size + (75) = gZ g + (76) := by omega
  refine lv_aload_n F.1 F.2.1 dX6_init_35 rfl (lv_at hl 0 rfl) ?_
  refine c_new (ci := 3) F hH hS hcnt rfl (by decide) iX3 tyX3 tyX3_ok df3 (kK hOK (by decide) (by decide +kernel)) (cfr_of (by decide +kernel)) (List.mem_of_getElem? (i := 14) rfl) (List.mem_of_getElem? (i := 15) rfl) (List.mem_of_getElem? (i := 16) rfl) (Nat.le_of_ble_eq_true rfl) (Nat.le_of_ble_eq_true rfl) dX6_init_36 (fun H hH hS => ?_)
  have hH : cH g (76) (77) H := hH
  have hcnt : s.heap.size + (76) = gZ g + (77) := by omega
  refine lv_dup F.1 F.2.1 dX6_init_39 rfl ?_
  refine c_callN (As := []) (rest := [.ref (gZ g + 76), .ref (gZ g + 0)]) (mc := 3) (ms := 493) F hNst hl.1 hH hS hcnt (mk_X3_init l g hOK) ⟨va_cnB 0 F.2.2.2.2.1 gX6_init_X3_init_n29 rfl rfl rfl hNst.2.1 (F.2.2.2.2.1 _ (List.mem_of_getElem? (i := 16) rfl)) hdX3_init ⟨Nat.le_of_ble_eq_true rfl, Nat.le_of_ble_eq_true rfl⟩, rfl, F.2.2.2.2.1 _ (List.mem_of_getElem? (i := 63) rfl)⟩ rfl rfl (Nat.le_of_ble_eq_true rfl) dX6_init_40 ⟨(Nat.le_of_ble_eq_true rfl), (Nat.le_of_ble_eq_true rfl)⟩ (fun H locs hH hS => ?_)
  have hH : cH g (79) (80) H := hH
  have hcnt : s.heap.size + (79) = gZ g + (80) := by omega
  refine c_putRF (ci := 6) (k := 4) F hH hS rfl (by decide) iX6 (by decide) (kK hOK (by decide) (by decide +kernel)) (by decide) tyX6 tyX6_ok nmX6 rfl (ty := tyX6 4) (fun _ => rfl) (fun _ => rfl) rfl hini rfl rfl k30 dX6_init_43 (by decide +kernel) (fun H locs hH hS => ?_)
  have hH : cH g (80) (80) H := hH
  have hcnt : s.heap.size + (79) = gZ g + (80) := by omega
  refine lv_aload_n F.1 F.2.1 dX6_init_46 rfl (lv_at hl 0 rfl) ?_
  refine z_bipush F dX6_init_47 (by decide) ?_
  refine c_callS (As := [.int (iI 120)]) (rest := [.ref (gZ g + 0)]) (mc := 33) (ms := 11600) (q := 80) F hNst hl.1 hH hS hcnt (mk_X6_newBags120 l g (80) (80) hOK (by decide) (by decide +kernel) (by decide +kernel) (cfr_of (by decide +kernel)) rw_80) (va_cwS 1 F.2.2.2.2.1 gX6_init_X6_newBags rfl rfl rfl hdX6_newBags ⟨Nat.le_of_ble_eq_true rfl, Nat.le_of_ble_eq_true rfl⟩) rfl rfl (Nat.le_of_ble_eq_true rfl) dX6_init_49 ⟨(Nat.le_of_ble_eq_true rfl), (Nat.le_of_ble_eq_true rfl)⟩ (fun H locs hH hS => ?_)
  have hH : cH g (144) (113) H := hH
  have hcnt : s.heap.size + (112) = gZ g + (113) := by omega
  refine c_putR (ci := 6) (k := 5) F hH hS rfl (by decide) iX6 (by decide) (kK hOK (by decide) (by decide +kernel)) (by decide) tyX6 tyX6_ok nmX6 rfl (ty := tyX6 5) (fun _ => rfl) (fun _ => rfl) rfl rfl k38 dX6_init_52 (by decide +kernel) (fun H locs hH hS => ?_)
  have hH : cH g (145) (113) H := hH
  have hcnt : s.heap.size + (112) = gZ g + (113) := by omega
  refine lv_aload_n F.1 F.2.1 dX6_init_55 rfl (lv_at hl 0 rfl) ?_
  refine z_bipush F dX6_init_56 (by decide) ?_
  refine c_callS (As := [.int (iI 120)]) (rest := [.ref (gZ g + 0)]) (mc := 33) (ms := 11600) (q := 113) F hNst hl.1 hH hS hcnt (mk_X6_newBags120 l g (145) (113) hOK (by decide) (by decide +kernel) (by decide +kernel) (cfr_of (by decide +kernel)) rw_113) (va_cwS 1 F.2.2.2.2.1 gX6_init_X6_newBags rfl rfl rfl hdX6_newBags ⟨Nat.le_of_ble_eq_true rfl, Nat.le_of_ble_eq_true rfl⟩) rfl rfl (Nat.le_of_ble_eq_true rfl) dX6_init_58 ⟨(Nat.le_of_ble_eq_true rfl), (Nat.le_of_ble_eq_true rfl)⟩ (fun H locs hH hS => ?_)
  have hH : cH g (209) (146) H := hH
  have hcnt : s.heap.size + (145) = gZ g + (146) := by omega
  refine c_putR (ci := 6) (k := 6) F hH hS rfl (by decide) iX6 (by decide) (kK hOK (by decide) (by decide +kernel)) (by decide) tyX6 tyX6_ok nmX6 rfl (ty := tyX6 6) (fun _ => rfl) (fun _ => rfl) rfl rfl k42 dX6_init_61 (by decide +kernel) (fun H locs hH hS => ?_)
  have hH : cH g (210) (146) H := hH
  have hcnt : s.heap.size + (145) = gZ g + (146) := by omega
  refine lv_aload_n F.1 F.2.1 dX6_init_64 rfl (lv_at hl 0 rfl) ?_
  refine z_sipush F dX6_init_65 (by decide) ?_
  refine c_callS (As := [.int (iI 240)]) (rest := [.ref (gZ g + 0)]) (mc := 33) (ms := 23120) (q := 146) F hNst hl.1 hH hS hcnt (mk_X6_newBags240 l g (210) (146) hOK (by decide) (by decide +kernel) (by decide +kernel) (cfr_of (by decide +kernel)) rw_146) (va_cwS 1 F.2.2.2.2.1 gX6_init_X6_newBags rfl rfl rfl hdX6_newBags ⟨Nat.le_of_ble_eq_true rfl, Nat.le_of_ble_eq_true rfl⟩) rfl rfl (Nat.le_of_ble_eq_true rfl) dX6_init_68 ⟨(Nat.le_of_ble_eq_true rfl), (Nat.le_of_ble_eq_true rfl)⟩ (fun H locs hH hS => ?_)
  have hH : cH g (274) (179) H := hH
  have hcnt : s.heap.size + (178) = gZ g + (179) := by omega
  refine c_putRF (ci := 6) (k := 7) F hH hS rfl (by decide) iX6 (by decide) (kK hOK (by decide) (by decide +kernel)) (by decide) tyX6 tyX6_ok nmX6 rfl (ty := tyX6 7) (fun _ => rfl) (fun _ => rfl) rfl hini rfl rfl k45 dX6_init_71 (by decide +kernel) (fun H locs hH hS => ?_)
  have hH : cH g (275) (179) H := hH
  have hcnt : s.heap.size + (178) = gZ g + (179) := by omega
  refine lv_aload_n F.1 F.2.1 dX6_init_74 rfl (lv_at hl 0 rfl) ?_
  refine c_new (ci := 4) F hH hS hcnt rfl (by decide) iX4 tyX4 tyX4_ok df4 (kK hOK (by decide) (by decide +kernel)) (cfr_of (by decide +kernel)) (List.mem_of_getElem? (i := 21) rfl) (List.mem_of_getElem? (i := 22) rfl) (List.mem_of_getElem? (i := 23) rfl) (Nat.le_of_ble_eq_true rfl) (Nat.le_of_ble_eq_true rfl) dX6_init_75 (fun H hH hS => ?_)
  have hH : cH g (275) (180) H := hH
  have hcnt : s.heap.size + (179) = gZ g + (180) := by omega
  refine lv_dup F.1 F.2.1 dX6_init_78 rfl ?_
  refine z_iconst F dX6_init_79 ?_
  refine z_bipush F dX6_init_80 (by decide) ?_
  refine c_callI (As := [.int (iI 5), .int (iI 40)]) (rest := [.ref (gZ g + 179), .ref (gZ g + 0)]) (mc := 1) (ms := 240) F hNst hl.1 hH hS hcnt (mk_X4_init l g (275) (179) 5 40 hOK (by decide) (by decide +kernel) (by decide +kernel) (by decide +kernel) (by decide +kernel) (by decide +kernel) (by decide +kernel) (cfr_of (by decide +kernel)) (by decide)) (cwI 2 F.2.2.2.2.1 gX6_init_X4_init rfl rfl rfl (F.2.2.2.2.1 _ (List.mem_of_getElem? (i := 23) rfl)) (F.2.2.2.2.1 _ (List.mem_of_getElem? (i := 73) rfl)) (F.2.2.2.2.1 _ (List.mem_of_getElem? (i := 74) rfl)) rfl hdX4_init ⟨Nat.le_of_ble_eq_true rfl, Nat.le_of_ble_eq_true rfl⟩) rfl rfl (Nat.le_of_ble_eq_true rfl) dX6_init_82 ⟨(Nat.le_of_ble_eq_true rfl), (Nat.le_of_ble_eq_true rfl)⟩ (fun H locs hH hS => ?_)
  have hH : cH g (278) (181) H := hH
  have hcnt : s.heap.size + (180) = gZ g + (181) := by omega
  refine c_putRF (ci := 6) (k := 8) F hH hS rfl (by decide) iX6 (by decide) (kK hOK (by decide) (by decide +kernel)) (by decide) tyX6 tyX6_ok nmX6 rfl (ty := tyX6 8) (fun _ => rfl) (fun _ => rfl) rfl hini rfl rfl k53 dX6_init_85 (by decide +kernel) (fun H locs hH hS => ?_)
  have hH : cH g (279) (181) H := hH
  have hcnt : s.heap.size + (180) = gZ g + (181) := by omega
  refine lv_aload_n F.1 F.2.1 dX6_init_88 rfl (lv_at hl 0 rfl) ?_
  refine c_new (ci := 4) F hH hS hcnt rfl (by decide) iX4 tyX4 tyX4_ok df4 (kK hOK (by decide) (by decide +kernel)) (cfr_of (by decide +kernel)) (List.mem_of_getElem? (i := 21) rfl) (List.mem_of_getElem? (i := 22) rfl) (List.mem_of_getElem? (i := 23) rfl) (Nat.le_of_ble_eq_true rfl) (Nat.le_of_ble_eq_true rfl) dX6_init_89 (fun H hH hS => ?_)
  have hH : cH g (279) (182) H := hH
  have hcnt : s.heap.size + (181) = gZ g + (182) := by omega
  refine lv_dup F.1 F.2.1 dX6_init_92 rfl ?_
  refine z_iconst F dX6_init_93 ?_
  refine z_bipush F dX6_init_94 (by decide) ?_
  refine c_callI (As := [.int (iI 5), .int (iI 40)]) (rest := [.ref (gZ g + 181), .ref (gZ g + 0)]) (mc := 1) (ms := 240) F hNst hl.1 hH hS hcnt (mk_X4_init l g (279) (181) 5 40 hOK (by decide) (by decide +kernel) (by decide +kernel) (by decide +kernel) (by decide +kernel) (by decide +kernel) (by decide +kernel) (cfr_of (by decide +kernel)) (by decide)) (cwI 2 F.2.2.2.2.1 gX6_init_X4_init rfl rfl rfl (F.2.2.2.2.1 _ (List.mem_of_getElem? (i := 23) rfl)) (F.2.2.2.2.1 _ (List.mem_of_getElem? (i := 73) rfl)) (F.2.2.2.2.1 _ (List.mem_of_getElem? (i := 74) rfl)) rfl hdX4_init ⟨Nat.le_of_ble_eq_true rfl, Nat.le_of_ble_eq_true rfl⟩) rfl rfl (Nat.le_of_ble_eq_true rfl) dX6_init_96 ⟨(Nat.le_of_ble_eq_true rfl), (Nat.le_of_ble_eq_true rfl)⟩ (fun H locs hH hS => ?_)
  have hH : cH g (282) (183) H := hH
  have hcnt : s.heap.size + (182) = gZ g + (183) := by omega
  refine c_putRF (ci := 6) (k := 9) F hH hS rfl (by decide) iX6 (by decide) (kK hOK (by decide) (by decide +kernel)) (by decide) tyX6 tyX6_ok nmX6 rfl (ty := tyX6 9) (fun _ => rfl) (fun _ => rfl) rfl hini rfl rfl k57 dX6_init_99 (by decide +kernel) (fun H locs hH hS => ?_)
  have hH : cH g (283) (183) H := hH
  have hcnt : s.heap.size + (182) = gZ g + (183) := by omega
  refine lv_aload_n F.1 F.2.1 dX6_init_102 rfl (lv_at hl 0 rfl) ?_
  refine c_new (ci := 4) F hH hS hcnt rfl (by decide) iX4 tyX4 tyX4_ok df4 (kK hOK (by decide) (by decide +kernel)) (cfr_of (by decide +kernel)) (List.mem_of_getElem? (i := 21) rfl) (List.mem_of_getElem? (i := 22) rfl) (List.mem_of_getElem? (i := 23) rfl) (Nat.le_of_ble_eq_true rfl) (Nat.le_of_ble_eq_true rfl) dX6_init_103 (fun H hH hS => ?_)
  have hH : cH g (283) (184) H := hH
  have hcnt : s.heap.size + (183) = gZ g + (184) := by omega
  refine lv_dup F.1 F.2.1 dX6_init_106 rfl ?_
  refine z_iconst F dX6_init_107 ?_
  refine z_bipush F dX6_init_108 (by decide) ?_
  refine c_callI (As := [.int (iI 4), .int (iI 40)]) (rest := [.ref (gZ g + 183), .ref (gZ g + 0)]) (mc := 1) (ms := 240) F hNst hl.1 hH hS hcnt (mk_X4_init l g (283) (183) 4 40 hOK (by decide) (by decide +kernel) (by decide +kernel) (by decide +kernel) (by decide +kernel) (by decide +kernel) (by decide +kernel) (cfr_of (by decide +kernel)) (by decide)) (cwI 2 F.2.2.2.2.1 gX6_init_X4_init rfl rfl rfl (F.2.2.2.2.1 _ (List.mem_of_getElem? (i := 23) rfl)) (F.2.2.2.2.1 _ (List.mem_of_getElem? (i := 73) rfl)) (F.2.2.2.2.1 _ (List.mem_of_getElem? (i := 74) rfl)) rfl hdX4_init ⟨Nat.le_of_ble_eq_true rfl, Nat.le_of_ble_eq_true rfl⟩) rfl rfl (Nat.le_of_ble_eq_true rfl) dX6_init_110 ⟨(Nat.le_of_ble_eq_true rfl), (Nat.le_of_ble_eq_true rfl)⟩ (fun H locs hH hS => ?_)
  have hH : cH g (286) (185) H := hH
  have hcnt : s.heap.size + (184) = gZ g + (185) := by omega
  refine c_putRF (ci := 6) (k := 10) F hH hS rfl (by decide) iX6 (by decide) (kK hOK (by decide) (by decide +kernel)) (by decide) tyX6 tyX6_ok nmX6 rfl (ty := tyX6 10) (fun _ => rfl) (fun _ => rfl) rfl hini rfl rfl k60 dX6_init_113 (by decide +kernel) (fun H locs hH hS => ?_)
  have hH : cH g (287) (185) H := hH
  have hcnt : s.heap.size + (184) = gZ g + (185) := by omega
  refine lv_aload_n F.1 F.2.1 dX6_init_116 rfl (lv_at hl 0 rfl) ?_
  refine c_new (ci := 4) F hH hS hcnt rfl (by decide) iX4 tyX4 tyX4_ok df4 (kK hOK (by decide) (by decide +kernel)) (cfr_of (by decide +kernel)) (List.mem_of_getElem? (i := 21) rfl) (List.mem_of_getElem? (i := 22) rfl) (List.mem_of_getElem? (i := 23) rfl) (Nat.le_of_ble_eq_true rfl) (Nat.le_of_ble_eq_true rfl) dX6_init_117 (fun H hH hS => ?_)
  have hH : cH g (287) (186) H := hH
  have hcnt : s.heap.size + (185) = gZ g + (186) := by omega
  refine lv_dup F.1 F.2.1 dX6_init_120 rfl ?_
  refine z_iconst F dX6_init_121 ?_
  refine z_sipush F dX6_init_122 (by decide) ?_
  refine c_callI (As := [.int (iI 4), .int (iI 240)]) (rest := [.ref (gZ g + 185), .ref (gZ g + 0)]) (mc := 1) (ms := 1440) F hNst hl.1 hH hS hcnt (mk_X4_init l g (287) (185) 4 240 hOK (by decide) (by decide +kernel) (by decide +kernel) (by decide +kernel) (by decide +kernel) (by decide +kernel) (by decide +kernel) (cfr_of (by decide +kernel)) (by decide)) (cwI 2 F.2.2.2.2.1 gX6_init_X4_init rfl rfl rfl (F.2.2.2.2.1 _ (List.mem_of_getElem? (i := 23) rfl)) (F.2.2.2.2.1 _ (List.mem_of_getElem? (i := 73) rfl)) (F.2.2.2.2.1 _ (List.mem_of_getElem? (i := 74) rfl)) rfl hdX4_init ⟨Nat.le_of_ble_eq_true rfl, Nat.le_of_ble_eq_true rfl⟩) rfl rfl (Nat.le_of_ble_eq_true rfl) dX6_init_125 ⟨(Nat.le_of_ble_eq_true rfl), (Nat.le_of_ble_eq_true rfl)⟩ (fun H locs hH hS => ?_)
  have hH : cH g (290) (187) H := hH
  have hcnt : s.heap.size + (186) = gZ g + (187) := by omega
  refine c_putRF (ci := 6) (k := 11) F hH hS rfl (by decide) iX6 (by decide) (kK hOK (by decide) (by decide +kernel)) (by decide) tyX6 tyX6_ok nmX6 rfl (ty := tyX6 11) (fun _ => rfl) (fun _ => rfl) rfl hini rfl rfl k63 dX6_init_128 (by decide +kernel) (fun H locs hH hS => ?_)
  have hH : cH g (291) (187) H := hH
  have hcnt : s.heap.size + (186) = gZ g + (187) := by omega
  refine lv_aload_n F.1 F.2.1 dX6_init_131 rfl (lv_at hl 0 rfl) ?_
  refine z_iconst F dX6_init_132 ?_
  refine c_newA (ty := .int) (ck := 9) (i := 1) (N := 5) F hH hS hcnt rfl rfl (fun _ h => h) (fun _ => nc9) (by decide) (List.mem_of_getElem? (i := 28) rfl) (by decide) (by first | rfl | omega) (by omega) (by show _ * 4 ≤ _; omega) (Nat.le_of_ble_eq_true rfl) (Nat.le_of_ble_eq_true rfl) (kK hOK (by decide) (by decide +kernel)) (kN hOK (by decide) (by decide +kernel)) (cfr_of (by decide +kernel)) dX6_init_133 (fun H hH hS => ?_)
  have hH : cH g (291) (188) H := hH
  have hcnt : s.heap.size + (187) = gZ g + (188) := by omega
  refine c_putRF (ci := 6) (k := 12) F hH hS rfl (by decide) iX6 (by decide) (kK hOK (by decide) (by decide +kernel)) (by decide) tyX6 tyX6_ok nmX6 rfl (ty := tyX6 12) (fun _ => rfl) (fun _ => rfl) rfl hini rfl rfl k66 dX6_init_135 (by decide +kernel) (fun H locs hH hS => ?_)
  have hH : cH g (292) (188) H := hH
  have hcnt : s.heap.size + (187) = gZ g + (188) := by omega
  refine lv_aload_n F.1 F.2.1 dX6_init_138 rfl (lv_at hl 0 rfl) ?_
  refine c_callS (As := []) (rest := [.ref (gZ g + 0)]) (mc := 17) (ms := 1960) (q := 188) F hNst hl.1 hH hS hcnt (mk_X6_newHistory l g (292) (188) hOK (by decide) (by decide +kernel) (by decide +kernel) (cfr_of (by decide +kernel)) rw_188) (va_cwS 0 F.2.2.2.2.1 gX6_init_X6_newHistory rfl rfl rfl hdX6_newHistory ⟨Nat.le_of_ble_eq_true rfl, Nat.le_of_ble_eq_true rfl⟩) rfl rfl (Nat.le_of_ble_eq_true rfl) dX6_init_139 ⟨(Nat.le_of_ble_eq_true rfl), (Nat.le_of_ble_eq_true rfl)⟩ (fun H locs hH hS => ?_)
  have hH : cH g (324) (205) H := hH
  have hcnt : s.heap.size + (204) = gZ g + (205) := by omega
  refine c_putRF (ci := 6) (k := 13) F hH hS rfl (by decide) iX6 (by decide) (kK hOK (by decide) (by decide +kernel)) (by decide) tyX6 tyX6_ok nmX6 rfl (ty := tyX6 13) (fun _ => rfl) (fun _ => rfl) rfl hini rfl rfl k74 dX6_init_142 (by decide +kernel) (fun H locs hH hS => ?_)
  have hH : cH g (325) (205) H := hH
  have hcnt : s.heap.size + (204) = gZ g + (205) := by omega
  exact c_vret F hr hlk hH hS (Nat.le_of_ble_eq_true rfl) (Nat.le_of_ble_eq_true rfl) dX6_init_145
end
section
def c9T : List Nat := [0, 5, 0, 0, 3, 0, 4, 0, 0, 0, 0, 2, 0, 2, 0, 2, 0, 2, 0, 2, 0, 2, 0, 2, 0, 2, 0, 2, 0, 2, 0, 2, 0, 2, 0, 2, 0, 2, 0, 2, 0, 2, 0, 0, 0, 2, 0, 2, 0, 2, 0, 2, 0, 2, 0, 2, 0, 2, 0, 2, 0, 2, 0, 2, 0, 2, 0, 2, 0, 2, 0, 2, 0, 2, 0, 2, 0, 0, 0, 0, 0, 0, 1, 0, 1, 0, 1, 0, 1, 0, 1, 0, 1, 0, 1, 0, 1, 0, 1, 0, 1, 0, 1, 0, 1, 0, 1, 0, 1, 0, 1, 0, 1, 0, 0, 1, 0, 1, 0, 1, 0, 1, 0, 1, 0, 1, 0, 1, 0, 1, 0, 1, 0, 1, 0, 1, 0, 1, 0, 1, 0, 1, 0, 1, 0, 1, 0, 0, 1, 0, 1, 0, 1, 0, 1, 0, 1, 0, 1, 0, 1, 0, 1, 0, 1, 0, 1, 0, 1, 0, 1, 0, 1, 0, 1, 0, 1, 0, 1, 0, 1, 0, 1, 0, 1, 0, 1, 0, 0, 0, 1, 0, 1, 0, 1, 0, 1, 0, 1, 0, 1, 0, 1, 0, 1, 0, 5, 0, 5, 0, 5, 5, 5, 5, 5, 5, 5, 5, 5, 5, 5, 5, 0]
def c10T : List Nat := [99, 99, 99, 99, 99, 99, 99, 99, 99, 99, 99, 99, 99, 99, 99, 99, 99, 99, 99, 99, 99, 99, 99, 99, 99, 99, 99, 99, 99, 99, 99, 99, 99, 99, 99, 99, 99, 99, 99, 99, 99, 99, 99, 99, 99, 99, 99, 99, 99, 99, 99, 99, 99, 99, 99, 99, 99, 99, 99, 99, 99, 99, 99, 99, 99, 99, 99, 99, 99, 99, 99, 99, 99, 99, 99, 99, 99, 99, 99, 99, 99, 99, 99, 99, 99, 99, 99, 99, 99, 99, 99, 99, 99, 99, 99, 99, 99, 99, 99, 99, 99, 99, 99, 99, 99, 99, 99, 99, 99, 99, 99, 99, 99, 99, 99, 99, 99, 99, 99, 99, 99, 99, 99, 99, 99, 99, 99, 99, 99, 99, 99, 99, 99, 99, 99, 99, 99, 99, 99, 99, 99, 99, 99, 99, 99, 99, 99, 99, 99, 99, 99, 99, 99, 99, 99, 99, 99, 99, 99, 99, 99, 99, 99, 99, 99, 99, 99, 99, 99, 99, 99, 99, 99, 99, 99, 99, 99, 99, 99, 99, 99, 99, 99, 99, 99, 99, 99, 99, 99, 99, 99, 99, 99, 99, 99, 99, 99, 99, 99, 99, 99, 99, 99, 99, 99, 99, 0, 99, 3, 99, 6, 7, 11, 12, 13, 15, 25, 27, 28, 29, 30, 31, 99]
def c20T : List Nat := [0, 0, 0, 0, 0, 0, 0, 0, 0, 0, 0, 0, 0, 0, 0, 0, 0, 0, 0, 0, 0, 2, 3, 76, 4, 5, 6, 7, 1, 187, 77, 78, 79, 0, 0, 146, 188, 179, 181, 183, 185, 0, 0, 0, 0, 0, 0, 0, 205, 0, 206, 207, 0, 208, 209, 0, 210, 211, 0, 0, 0, 212, 213, 214, 0, 215, 0, 0, 0, 0, 0, 0, 0, 0, 0, 216, 0, 217, 218, 219, 220, 221]
def t9 (o : Nat) : Nat := c9T.getD o 0
def t10 (o : Nat) : Nat := c10T.getD o 99
def t20 (a : Nat) : Nat := c20T.getD a 0
/-- the ghosts of the start: z is the first cell -/
def hG (z : Nat) : gGh := fun a b => match a with
  | 0 => b + 1
  | 1 => cI 341 (b - z) 1
  | 2 => cI 341 (b - z) 0
  | 3 => b + 1
  | 4 => if b < z + 42 then z + 8 else z + 42
  | 5 => if b < z + 42 then (b - z - 10) / 2 else (b - z - 44) / 2
  | 6 => b + 1
  | 7 => b - 1
  | 8 => b - 1
  | 9 => t9 (b - z)
  | 10 => t10 (b - z)
  | 42 => 1
  | a + 11 => z + t20 (a + 11)
theorem hG1 {z o : Nat} : hG z 1 (z + o) = cI 341 o 1 := by show cI 341 (z + o - z) 1 = _; rw [Nat.add_sub_cancel_left]
theorem hG2 {z o : Nat} : hG z 2 (z + o) = cI 341 o 0 := by show cI 341 (z + o - z) 0 = _; rw [Nat.add_sub_cancel_left]
theorem hG9 {z o : Nat} : hG z 9 (z + o) = t9 o := by show t9 (z + o - z) = _; rw [Nat.add_sub_cancel_left]
theorem hG10 {z o : Nat} : hG z 10 (z + o) = t10 o := by show t10 (z + o - z) = _; rw [Nat.add_sub_cancel_left]
/-- the ghosts of the reference's side: both tapes and the changes are kept by all that does not feed or change -/
def hGm (z : Nat) : gGh := fun a b => match a with
  | 9 => if b = z + 1 ∨ b = z + 212 ∨ b = z + 213 ∨ b = z + 214 ∨ b = z + 215 then 0 else hG z 9 b
  | a => hG z a b
theorem hGm9 {z b : Nat} (h : ¬ (b = z + 1 ∨ b = z + 212 ∨ b = z + 213 ∨ b = z + 214 ∨ b = z + 215)) : hGm z 9 b = hG z 9 b := if_neg h
theorem hGm_ne {z b n : Nat} (h : hG z 9 b = n) (hn : n ≠ 5) : hGm z 9 b ≠ 5 := by
  show (if b = z + 1 ∨ b = z + 212 ∨ b = z + 213 ∨ b = z + 214 ∨ b = z + 215 then 0 else hG z 9 b) ≠ 5
  by_cases q : b = z + 1 ∨ b = z + 212 ∨ b = z + 213 ∨ b = z + 214 ∨ b = z + 215
  · rw [if_pos q]; decide
  · rw [if_neg q, h]; exact hn
/-- the same, where the reference's changes may change -/
def hGc (z : Nat) : gGh := fun a b => match a with
  | 9 => if b = z + 1 ∨ b = z + 215 then 0 else hG z 9 b
  | a => hG z a b
theorem hGc9 {z b : Nat} (h : ¬ (b = z + 1 ∨ b = z + 215)) : hGc z 9 b = hG z 9 b := if_neg h
theorem hGc_ne {z b n : Nat} (h : hG z 9 b = n) (hn : n ≠ 5) : hGc z 9 b ≠ 5 := by
  show (if b = z + 1 ∨ b = z + 215 then 0 else hG z 9 b) ≠ 5
  by_cases q : b = z + 1 ∨ b = z + 215
  · rw [if_pos q]; decide
  · rw [if_neg q, h]; exact hn
/-- the world of both systems; M: what the other side holds -/
def gW (g : gG) (M : gI × gI) : gG := (g.1, g.2.1, (List.range' (gZ g) 223, gZ g), (M, g.2.2.2.2))
theorem gO_o {g : gG} {M : gI × gI} {a c : Nat} (hOK : gOK g) (h : gO (gW g M) a c) : ∃ o, o < 223 ∧ a = gZ g + o ∧ kT o = c := by
  obtain ⟨h1, h2⟩ := h
  have h3 := List.mem_range'_1.mp h1
  refine ⟨a - gZ g, by omega, by omega, ?_⟩
  have h4 := (hOK (a - gZ g) (by omega)).1
  rw [show gZ g + (a - gZ g) = a by omega] at h4
  exact h4.symm.trans h2
theorem gO_i {g : gG} {M : gI × gI} {o c : Nat} (hOK : gOK g) (ho : o < 223) (hk : kT o = c) : gO (gW g M) (gZ g + o) c := ⟨List.mem_range'_1.mpr ⟨Nat.le_add_right _ _, Nat.add_lt_add_left ho _⟩, (hOK o ho).1.trans hk⟩
theorem gAr_i {g : gG} {M : gI × gI} {o c n : Nat} (hOK : gOK g) (ho : o < 223) (hk : kT o = c) (hn : nT o = n) : gAr (gW g M) (gZ g + o) c n := ⟨List.mem_range'_1.mpr ⟨Nat.le_add_right _ _, Nat.add_lt_add_left ho _⟩, (hOK o ho).1.trans hk, (hOK o ho).2.trans hn⟩
theorem wI_at {g : gG} {o k v : Nat} (h : cI 341 o k = v) : (wI g 341 (gZ g + o) k).toInt = (iI (v : Int)).toInt := by unfold wI; rw [if_pos (Nat.le_add_right _ _), Nat.add_sub_cancel_left, h]
theorem wI_v {g : gG} {o k v : Nat} (h : cI 341 o k = v) (hv : v ≤ 1000) : (wI g 341 (gZ g + o) k).toInt = (v : Int) := (wI_at h).trans (iI_val ⟨by omega, by omega⟩)
theorem wI_0 {g : gG} {o k : Nat} (h : cI 341 o k = 0) : wI g 341 (gZ g + o) k = 0 := by unfold wI; rw [if_pos (Nat.le_add_right _ _), Nat.add_sub_cancel_left, h]; rfl
theorem tR1 : ∀ o, o < 223 → kT o = 4 → cR 341 o 2 = some (o + 1) ∧ kT (o + 1) = 9 ∧ nT (o + 1) = 6 * cI 341 o 1 := by decide +kernel
theorem tR2 : ∀ o, o < 223 → kT o = 4 → t9 (o + 1) = 1 ∧ o + 1 < 223 ∧ cI 341 o 3 = 0 := by decide +kernel
theorem tR3 : ∀ o, o < 223 → kT o = 4 → (cI 341 o 0 = 4 ∨ cI 341 o 0 = 5) ∧ 40 ≤ cI 341 o 1 ∧ cI 341 o 1 ≤ 240 := by decide +kernel
theorem tL1 : ∀ o, o < 223 → kT o = 0 → cR 341 o 7 = some (o + 1) ∧ kT (o + 1) = 9 ∧ nT (o + 1) = 32 := by decide +kernel
theorem tL2 : ∀ o, o < 223 → kT o = 0 → t9 (o + 1) = 2 ∧ o + 1 < 223 := by decide +kernel
theorem tL3 : ∀ o, o < 223 → kT o = 0 → ∀ k, k < 15 → cI 341 o k = 0 := by decide +kernel
theorem tL4 : ∀ o, o < 223 → kT o = 0 → (10 ≤ o ∧ o ≤ 41 ∧ o % 2 = 0) ∨ (44 ≤ o ∧ o ≤ 75 ∧ o % 2 = 0) := by decide +kernel
theorem tP1 : ∀ o, o < 223 → kT o = 2 → o = 8 ∨ o = 42 := by decide +kernel
theorem tP2 : ∀ j, j < 16 → cA 341 9 j = some (10 + 2 * j) ∧ kT (10 + 2 * j) = 0 ∧ 10 + 2 * j < 42 := by decide +kernel
theorem tP3 : ∀ j, j < 16 → cA 341 43 j = some (44 + 2 * j) ∧ kT (44 + 2 * j) = 0 ∧ 44 + 2 * j < 76 := by decide +kernel
theorem tK6 : ∀ o, o < 223 → kT o = 6 → o = 0 := by decide +kernel
theorem tK1 : ∀ o, o < 223 → kT o = 1 → o = 2 := by decide +kernel
theorem tK5 : ∀ o, o < 223 → kT o = 5 → o = 3 := by decide +kernel
theorem tK3 : ∀ o, o < 223 → kT o = 3 → o = 76 := by decide +kernel
theorem tK7 : ∀ o, o < 223 → kT o = 7 → o = 205 := by decide +kernel
theorem tM0 : ∀ k, k < 32 → cI 341 205 k = 0 := by decide +kernel
theorem tB {z : Nat} : True := trivial
/-- a row of Rows at b, its first at b + 1 -/
theorem isRA_i {g : gG} {M : gI × gI} {b n lim key : Nat} (hOK : gOK g) (hb : b < 223) (hk : kT b = 12) (hn : nT b = n) (h : ∀ j, j < n → cA 341 b j = some (b + 1 + 2 * j) ∧ kT (b + 1 + 2 * j) = 4 ∧ b + 1 + 2 * j < 223) (h2 : ∀ j, j < n → cI 341 (b + 1 + 2 * j) 1 = lim ∧ cI 341 (b + 1 + 2 * j) 0 = key) (h3 : ∀ j, j < n → b + 1 + 2 * j ≠ 179) : isRA (gW g M) (hG (gZ g)) (wA g 341) (gZ g + b) n lim key :=
  ⟨gAr_i hOK hb hk hn, fun j hj => ⟨gZ g + (b + 1 + 2 * j), wA_at (h j hj).1, gO_i hOK (h j hj).2.2 (h j hj).2.1, hG1.trans (h2 j hj).1, hG2.trans (h2 j hj).2, show gZ g + (b + 1 + 2 * j) ≠ gZ g + 179 by have := h3 j hj; omega⟩⟩
theorem isR1_i {g : gG} {M : gI × gI} {o lim key : Nat} (hOK : gOK g) (ho : o < 223) (hk : kT o = 4) (h1 : cI 341 o 1 = lim) (h2 : cI 341 o 0 = key) : isR1 (gW g M) (hG (gZ g)) (gZ g + o) lim key := ⟨gO_i hOK ho hk, hG1.trans h1, hG2.trans h2⟩
theorem tB80 : ∀ j, j < 16 → cA 341 80 j = some (80 + 1 + 2 * j) ∧ kT (80 + 1 + 2 * j) = 4 ∧ 80 + 1 + 2 * j < 223 := by decide +kernel
theorem tC80 : ∀ j, j < 16 → cI 341 (80 + 1 + 2 * j) 1 = 120 ∧ cI 341 (80 + 1 + 2 * j) 0 = 4 := by decide +kernel
theorem tB113 : ∀ j, j < 16 → cA 341 113 j = some (113 + 1 + 2 * j) ∧ kT (113 + 1 + 2 * j) = 4 ∧ 113 + 1 + 2 * j < 223 := by decide +kernel
theorem tC113 : ∀ j, j < 16 → cI 341 (113 + 1 + 2 * j) 1 = 120 ∧ cI 341 (113 + 1 + 2 * j) 0 = 4 := by decide +kernel
theorem tB146 : ∀ j, j < 16 → cA 341 146 j = some (146 + 1 + 2 * j) ∧ kT (146 + 1 + 2 * j) = 4 ∧ 146 + 1 + 2 * j < 223 := by decide +kernel
theorem tC146 : ∀ j, j < 16 → cI 341 (146 + 1 + 2 * j) 1 = 240 ∧ cI 341 (146 + 1 + 2 * j) 0 = 4 := by decide +kernel
theorem tB188 : ∀ j, j < 8 → cA 341 188 j = some (188 + 1 + 2 * j) ∧ kT (188 + 1 + 2 * j) = 4 ∧ 188 + 1 + 2 * j < 223 := by decide +kernel
theorem tC188 : ∀ j, j < 8 → cI 341 (188 + 1 + 2 * j) 1 = 40 ∧ cI 341 (188 + 1 + 2 * j) 0 = 5 := by decide +kernel
section Start
variable {g : gG} {M : gI × gI}
theorem s_rows (hOK : gOK g) : vRows (gW g M) (hG (gZ g)) (wR g 341) (wI g 341) := by
  intro a ha
  obtain ⟨o, ho, rfl, hk⟩ := gO_o hOK ha
  obtain ⟨a1, a2, a3⟩ := tR1 o ho hk
  obtain ⟨a4, a5, a6⟩ := tR2 o ho hk
  obtain ⟨a7, a8, a9⟩ := tR3 o ho hk
  refine ⟨⟨wR_at a1, ?_, ?_, ?_⟩, ⟨?_, ?_, ?_, ?_⟩, ?_, ?_, ?_⟩
  · rw [hG1]; exact gAr_i hOK a5 a2 a3
  · exact hG9.trans a4
  · show gZ g + o + 1 - 1 = gZ g + o; omega
  · rw [hG2]; exact wI_v rfl (by omega)
  · rw [hG1]; exact wI_v rfl (by omega)
  · rw [wI_v a6 (by omega)]; omega
  · rw [wI_v a6 (by omega)]; omega
  · rw [hG2]; exact a7
  · rw [hG1]; exact a8
  · rw [hG1]; exact a9
theorem s_c5 : vC5 (gW g M) (hG (gZ g)) zA := fun _ _ _ _ _ => ⟨by show 0 ≤ (0 : Int32).toInt; decide, by show (0 : Int32).toInt ≤ 15; decide⟩
theorem s_line (hOK : gOK g) : vLine (gW g M) (hG (gZ g)) (wR g 341) (wI g 341) zA := by
  intro a ha
  obtain ⟨o, ho, rfl, hk⟩ := gO_o hOK ha
  obtain ⟨a1, a2, a3⟩ := tL1 o ho hk
  obtain ⟨a4, a5⟩ := tL2 o ho hk
  have a6 := tL3 o ho hk
  have a7 := tL4 o ho hk
  have e : ∀ k, k < 15 → wI g 341 (gZ g + o) k = 0 := fun k hk => wI_0 (a6 k hk)
  have e4 : hG (gZ g) 4 (gZ g + o) = gZ g + 8 ∨ hG (gZ g) 4 (gZ g + o) = gZ g + 42 := by
    show (if _ then _ else _) = _ ∨ (if _ then _ else _) = _
    by_cases q : gZ g + o < gZ g + 42
    · rw [if_pos q]; exact Or.inl rfl
    · rw [if_neg q]; exact Or.inr rfl
  refine ⟨⟨wR_at a1, gAr_i hOK a5 a2 a3, hG9.trans a4, ?_, ?_, ?_⟩, ?_, ?_, ?_⟩
  · show gZ g + o + 1 - 1 = gZ g + o; omega
  · rcases e4 with q | q <;> rw [q]
    · exact gO_i hOK (by decide) (by decide +kernel)
    · exact gO_i hOK (by decide) (by decide +kernel)
  · show (if _ then _ else _) < 16
    by_cases q : gZ g + o < gZ g + 42
    · rw [if_pos q]; omega
    · rw [if_neg q]; omega
  · unfold vLineI
    rw [e 0 (by decide), e 2 (by decide), e 3 (by decide), e 4 (by decide), e 5 (by decide), e 6 (by decide), e 8 (by decide), e 9 (by decide), e 10 (by decide), e 12 (by decide)]
    decide
  · rw [e 0 (by decide), e 8 (by decide)]
    exact ⟨fun q => absurd q (by decide), fun _ => ⟨by decide, fun k hk => absurd hk (by show ¬ (k : Int) < 0; omega)⟩, fun q => absurd q (by decide), fun q => absurd q (by decide)⟩
  · intro q
    have z0 : (wI g 341 (hG (gZ g) 4 (gZ g + o)) 1).toInt = 0 := by
      rcases e4 with w | w <;> rw [w]
      · exact wI_v (v := 0) (by decide +kernel) (by decide)
      · exact wI_v (v := 0) (by decide +kernel) (by decide)
    rw [z0] at q
    exact absurd q (by omega)
theorem s_plan (hOK : gOK g) : vPlan (gW g M) (hG (gZ g)) (wR g 341) (wA g 341) (wI g 341) := by
  intro a ha
  obtain ⟨o, ho, rfl, hk⟩ := gO_o hOK ha
  rcases tP1 o ho hk with rfl | rfl
  · refine ⟨⟨wR_at (o := 8) (k := 0) (q := 9) (by decide +kernel), gAr_i hOK (o := 9) (by decide) (by decide +kernel) (by decide +kernel), fun j hj => ?_, fun b hb h4 => ?_⟩, ?_⟩
    · obtain ⟨b1, b2, b3⟩ := tP2 j hj
      refine ⟨gZ g + (10 + 2 * j), wA_at b1, gO_i hOK (by omega) b2, ?_, ?_⟩
      · show (if _ then _ else _) = _; rw [if_pos (by omega)]
      · show (if _ then _ else _) = _; rw [if_pos (by omega)]; omega
    · obtain ⟨o', ho', rfl, hk'⟩ := gO_o hOK hb
      have q := tL4 o' ho' hk'
      have h4' : (if gZ g + o' < gZ g + 42 then gZ g + 8 else gZ g + 42) = gZ g + 8 := h4
      have lt : gZ g + o' < gZ g + 42 := by
        by_cases w : gZ g + o' < gZ g + 42
        · exact w
        · rw [if_neg w] at h4'; omega
      have e5 : hG (gZ g) 5 (gZ g + o') = (o' - 10) / 2 := by show (if _ then _ else _) = _; rw [if_pos lt]; omega
      rw [e5]
      have t := (tP2 ((o' - 10) / 2) (by omega)).1
      rw [show 10 + 2 * ((o' - 10) / 2) = o' by omega] at t
      exact wA_at (o := 9) t
    · rw [wI_v (v := 0) (by decide +kernel) (by decide), wI_v (v := 0) (by decide +kernel) (by decide)]; decide
  · refine ⟨⟨wR_at (o := 42) (k := 0) (q := 43) (by decide +kernel), gAr_i hOK (o := 43) (by decide) (by decide +kernel) (by decide +kernel), fun j hj => ?_, fun b hb h4 => ?_⟩, ?_⟩
    · obtain ⟨b1, b2, b3⟩ := tP3 j hj
      refine ⟨gZ g + (44 + 2 * j), wA_at b1, gO_i hOK (by omega) b2, ?_, ?_⟩
      · show (if _ then _ else _) = _; rw [if_neg (by omega)]
      · show (if _ then _ else _) = _; rw [if_neg (by omega)]; omega
    · obtain ⟨o', ho', rfl, hk'⟩ := gO_o hOK hb
      have q := tL4 o' ho' hk'
      have h4' : (if gZ g + o' < gZ g + 42 then gZ g + 8 else gZ g + 42) = gZ g + 42 := h4
      have lt : ¬ gZ g + o' < gZ g + 42 := fun w => by rw [if_pos w] at h4'; omega
      have e5 : hG (gZ g) 5 (gZ g + o') = (o' - 44) / 2 := by show (if _ then _ else _) = _; rw [if_neg lt]; omega
      rw [e5]
      have t := (tP3 ((o' - 44) / 2) (by omega)).1
      rw [show 44 + 2 * ((o' - 44) / 2) = o' by omega] at t
      exact wA_at (o := 43) t
    · rw [wI_v (v := 0) (by decide +kernel) (by decide), wI_v (v := 0) (by decide +kernel) (by decide)]; decide
theorem s_x (hOK : gOK g) : vX (gW g M) (hG (gZ g)) (wR g 341) (wA g 341) (wI g 341) := by
  intro a ha
  obtain ⟨o, ho, rfl, hk⟩ := gO_o hOK ha
  have e := tK6 o ho hk
  subst e
  refine ⟨⟨wR_at (q := 1) (by decide +kernel), gAr_i hOK (o := 1) (by decide) (by decide +kernel) (by decide +kernel), hG9.trans (by decide +kernel)⟩, ⟨wR_at (q := 2) (by decide +kernel), gO_i hOK (o := 2) (by decide) (by decide +kernel)⟩, ⟨gZ g + 42, wR_at (by decide +kernel), gO_i hOK (by decide) (by decide +kernel)⟩, ⟨wR_at (q := 76) (by decide +kernel), gO_i hOK (o := 76) (by decide) (by decide +kernel)⟩,
    ⟨gZ g + 80, wR_at (by decide +kernel), isRA_i hOK (by decide) (by decide +kernel) (by decide +kernel) tB80 tC80 (fun j hj => by omega)⟩, ⟨gZ g + 113, wR_at (by decide +kernel), isRA_i hOK (by decide) (by decide +kernel) (by decide +kernel) tB113 tC113 (fun j hj => by omega)⟩, ⟨wR_at (q := 146) (by decide +kernel), isRA_i hOK (b := 146) (by decide) (by decide +kernel) (by decide +kernel) tB146 tC146 (fun j hj => by omega)⟩,
    ⟨wR_at (q := 179) (by decide +kernel), isR1_i hOK (o := 179) (by decide) (by decide +kernel) (by decide +kernel) (by decide +kernel)⟩, ⟨wR_at (q := 181) (by decide +kernel), isR1_i hOK (o := 181) (by decide) (by decide +kernel) (by decide +kernel) (by decide +kernel)⟩, ⟨wR_at (q := 183) (by decide +kernel), isR1_i hOK (o := 183) (by decide) (by decide +kernel) (by decide +kernel) (by decide +kernel)⟩, ⟨wR_at (q := 185) (by decide +kernel), isR1_i hOK (o := 185) (by decide) (by decide +kernel) (by decide +kernel) (by decide +kernel)⟩,
    ⟨wR_at (q := 187) (by decide +kernel), gAr_i hOK (o := 187) (by decide) (by decide +kernel) (by decide +kernel), hG9.trans (by decide +kernel)⟩, ⟨wR_at (q := 188) (by decide +kernel), isRA_i hOK (b := 188) (by decide) (by decide +kernel) (by decide +kernel) tB188 tC188 (fun j hj => by omega)⟩, ?_⟩
  rw [wI_v (v := 0) (by decide +kernel) (by decide), wI_v (v := 0) (by decide +kernel) (by decide), wI_v (v := 0) (by decide +kernel) (by decide)]
  decide
theorem s_pr (hOK : gOK g) : vPr (gW g M) (hG (gZ g)) (wR g 341) (wI g 341) := by
  intro a ha
  obtain ⟨o, ho, rfl, hk⟩ := gO_o hOK ha
  have e := tK1 o ho hk
  subst e
  refine ⟨⟨wR_at (q := 3) (by decide +kernel), gO_i hOK (o := 3) (by decide) (by decide +kernel)⟩, ⟨gZ g + 8, wR_at (by decide +kernel), gO_i hOK (by decide) (by decide +kernel)⟩, ⟨gZ g + 10, wR_at (by decide +kernel), gO_i hOK (by decide) (by decide +kernel)⟩, ?_⟩
  rw [wI_v (v := 0) (by decide +kernel) (by decide)]
  decide
theorem s_tk (hOK : gOK g) : vTk (gW g M) (hG (gZ g)) (wR g 341) (wI g 341) zA := by
  intro a ha
  obtain ⟨o, ho, rfl, hk⟩ := gO_o hOK ha
  have e := tK5 o ho hk
  subst e
  have z0 : (wI g 341 (gZ g + 3) 4).toInt = ((0 : Nat) : Int) := wI_v (by decide +kernel) (by decide)
  refine ⟨⟨rfl, wR_at (q := 4) (by decide +kernel), gAr_i hOK (o := 4) (by decide) (by decide +kernel) (by decide +kernel), hG9.trans (by decide +kernel)⟩, ⟨wR_at (q := 5) (by decide +kernel), gAr_i hOK (o := 5) (by decide) (by decide +kernel) (by decide +kernel), hG9.trans (by decide +kernel)⟩, ⟨wR_at (q := 6) (by decide +kernel), gAr_i hOK (o := 6) (by decide) (by decide +kernel) (by decide +kernel), hG9.trans (by decide +kernel)⟩, ⟨wR_at (q := 7) (by decide +kernel), gAr_i hOK (o := 7) (by decide) (by decide +kernel) (by decide +kernel)⟩, ?_, fun j hj => ?_⟩
  · rw [z0]; decide
  · rw [z0] at hj; exact absurd hj (by omega)
theorem s_rk (hOK : gOK g) : vRk (gW g M) (hG (gZ g)) (wR g 341) := by
  intro a ha
  obtain ⟨o, ho, rfl, hk⟩ := gO_o hOK ha
  have e := tK3 o ho hk
  subst e
  exact ⟨⟨wR_at (q := 77) (by decide +kernel), gAr_i hOK (o := 77) (by decide) (by decide +kernel) (by decide +kernel), hG9.trans (by decide +kernel)⟩, ⟨wR_at (q := 78) (by decide +kernel), gAr_i hOK (o := 78) (by decide) (by decide +kernel) (by decide +kernel), hG9.trans (by decide +kernel)⟩, ⟨wR_at (q := 79) (by decide +kernel), gAr_i hOK (o := 79) (by decide) (by decide +kernel) (by decide +kernel), hG9.trans (by decide +kernel)⟩⟩
theorem s_inv (hOK : gOK g) : gInv (gW g (wI g 341, zA)) (hG (gZ g)) (wR g 341) (wA g 341) (wI g 341) zA :=
  ⟨s_rows hOK, s_c5, s_line hOK, s_plan hOK, s_x hOK, s_pr hOK, s_tk hOK, s_rk hOK, fun _ _ => rfl, fun _ _ => rfl, fun _ => ⟨gO_i hOK (o := 179) (by decide) (by decide +kernel), hG2.trans (by decide +kernel), rfl, rfl⟩⟩
theorem s_xS (hOK : gOK g) : xS (gW g M) (hG (gZ g)) (wR g 341) (wA g 341) (gZ g + 0) (gZ g + 42) (gZ g + 80) (gZ g + 113) :=
  ⟨gO_i hOK (by decide) (by decide +kernel), wR_at (by decide +kernel), gO_i hOK (by decide) (by decide +kernel), wR_at (by decide +kernel), isRA_i hOK (by decide) (by decide +kernel) (by decide +kernel) tB80 tC80 (fun j hj => by omega), wR_at (by decide +kernel), isRA_i hOK (by decide) (by decide +kernel) (by decide +kernel) tB113 tC113 (fun j hj => by omega)⟩
theorem s_ma (hOK : gOK g) {k n o : Nat} (ho : o < 223) (e : hGm (gZ g) (50 + k) 0 = gZ g + o) (h1 : cR 341 205 k = some o) (h2 : kT o = 9) (h3 : nT o = n) (h4 : t9 o = 5) (h5 : t10 o = k) (h6 : k ≠ 15 → k ≠ 11 → k ≠ 12 → k ≠ 13 → o ≠ 1 ∧ o ≠ 212 ∧ o ≠ 213 ∧ o ≠ 214 ∧ o ≠ 215) : wR g 341 (gZ g + 205) k = some (hGm (gZ g) (50 + k) 0) ∧ gAr (gW g M) (hGm (gZ g) (50 + k) 0) 9 n ∧ (k ≠ 15 → k ≠ 11 → k ≠ 12 → k ≠ 13 → hGm (gZ g) 9 (hGm (gZ g) (50 + k) 0) = 5) ∧ hGm (gZ g) 10 (hGm (gZ g) (50 + k) 0) = k := by
  rw [e]
  exact ⟨wR_at h1, gAr_i hOK ho h2 h3, fun hk h1 h2 h3 => (hGm9 (fun q => by have := h6 hk h1 h2 h3; omega)).trans (hG9.trans h4), hG10.trans h5⟩
theorem s_minv (hOK : gOK g) : mInv (gW g (wI g 341, zA)) (hGm (gZ g)) (wR g 341) (wI g 341) zA := by
  refine ⟨fun m hm => ?_, fun m hm => ?_, fun _ _ _ _ => rfl, fun _ _ => rfl⟩
  · obtain ⟨o, ho, rfl, hk⟩ := gO_o hOK hm
    have e := tK7 o ho hk
    subst e
    refine ⟨rfl, fun q hq => ?_, ⟨wR_at (q := 207) (by decide +kernel), gAr_i hOK (o := 207) (by decide) (by decide +kernel) (by decide +kernel)⟩, ⟨wR_at (q := 209) (by decide +kernel), gAr_i hOK (o := 209) (by decide) (by decide +kernel) (by decide +kernel)⟩⟩
    simp only [mTab, List.mem_cons, List.not_mem_nil, or_false] at hq
    rcases hq with rfl | rfl | rfl | rfl | rfl | rfl | rfl | rfl | rfl | rfl | rfl | rfl | rfl | rfl
    · exact s_ma hOK (o := 206) (by decide) rfl (by decide +kernel) (by decide +kernel) (by decide +kernel) (by decide +kernel) (by decide +kernel) (by decide)
    · exact s_ma hOK (o := 208) (by decide) rfl (by decide +kernel) (by decide +kernel) (by decide +kernel) (by decide +kernel) (by decide +kernel) (by decide)
    · exact s_ma hOK (o := 210) (by decide) rfl (by decide +kernel) (by decide +kernel) (by decide +kernel) (by decide +kernel) (by decide +kernel) (by decide)
    · exact s_ma hOK (o := 211) (by decide) rfl (by decide +kernel) (by decide +kernel) (by decide +kernel) (by decide +kernel) (by decide +kernel) (by decide)
    · exact s_ma hOK (o := 212) (by decide) rfl (by decide +kernel) (by decide +kernel) (by decide +kernel) (by decide +kernel) (by decide +kernel) (by decide)
    · exact s_ma hOK (o := 213) (by decide) rfl (by decide +kernel) (by decide +kernel) (by decide +kernel) (by decide +kernel) (by decide +kernel) (by decide)
    · exact s_ma hOK (o := 214) (by decide) rfl (by decide +kernel) (by decide +kernel) (by decide +kernel) (by decide +kernel) (by decide +kernel) (by decide)
    · exact s_ma hOK (o := 215) (by decide) rfl (by decide +kernel) (by decide +kernel) (by decide +kernel) (by decide +kernel) (by decide +kernel) (by decide)
    · exact s_ma hOK (o := 216) (by decide) rfl (by decide +kernel) (by decide +kernel) (by decide +kernel) (by decide +kernel) (by decide +kernel) (by decide)
    · exact s_ma hOK (o := 217) (by decide) rfl (by decide +kernel) (by decide +kernel) (by decide +kernel) (by decide +kernel) (by decide +kernel) (by decide)
    · exact s_ma hOK (o := 218) (by decide) rfl (by decide +kernel) (by decide +kernel) (by decide +kernel) (by decide +kernel) (by decide +kernel) (by decide)
    · exact s_ma hOK (o := 219) (by decide) rfl (by decide +kernel) (by decide +kernel) (by decide +kernel) (by decide +kernel) (by decide +kernel) (by decide)
    · exact s_ma hOK (o := 220) (by decide) rfl (by decide +kernel) (by decide +kernel) (by decide +kernel) (by decide +kernel) (by decide +kernel) (by decide)
    · exact s_ma hOK (o := 221) (by decide) rfl (by decide +kernel) (by decide +kernel) (by decide +kernel) (by decide +kernel) (by decide +kernel) (by decide)
  · obtain ⟨o, ho, rfl, hk⟩ := gO_o hOK hm
    have e := tK7 o ho hk
    subst e
    have e : ∀ k, k < 32 → wI g 341 (gZ g + 205) k = 0 := fun k hk => wI_0 (tM0 k hk)
    refine ⟨?_, fun _ _ => ⟨by show 0 ≤ (0 : Int32).toInt; decide, by show (0 : Int32).toInt ≤ 120; decide⟩, fun _ _ => ⟨by show 0 ≤ (0 : Int32).toInt; decide, by show (0 : Int32).toInt ≤ 15; decide⟩, fun r h0 h1 => ?_, fun r h0 h1 => ?_⟩
    · unfold mNum
      rw [e 2 (by decide), e 5 (by decide), e 8 (by decide), e 14 (by decide), e 16 (by decide), e 18 (by decide), e 19 (by decide), e 20 (by decide), e 21 (by decide), e 23 (by decide), e 24 (by decide), e 26 (by decide)]
      decide
    · rw [e 2 (by decide)] at h1; exact absurd h1 (by show ¬ r < 0; omega)
    · rw [e 5 (by decide)] at h1; exact absurd h1 (by show ¬ r < 0; omega)
end Start
end
