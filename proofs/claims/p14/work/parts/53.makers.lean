def rmX0_init : Room := { frames := 1, cells := 1, slots := 32, locals := 12 }
theorem hdX0_init : yX0_init.cls ≠ "java/lang/invoke/MethodHandle" ∧ yX0_init.cls ≠ "java/lang/invoke/VarHandle" ∧ (parseMethodDescriptor yX0_init.desc).map (fun d => d.parameters.length) = some 0 := by decide +kernel
set_option maxHeartbeats 4000000 in
set_option maxRecDepth 100000 in
theorem mk_X0_init (l : Launch) (g : gG) (t o : Nat) (hOK : gOK g) (ho : o < 222) (h1 : kT o = 0) (h2 : kT (o + 1) = 9) (h3 : nT (o + 1) = 32) (h4 : ev t = (2, o, 7, o + 1)) (h5 : cfr t (o + 1)) : Met l yX0_init wsX0_init rmX0_init (cPre g (t) (o + 1) [.ref (gZ g + o)]) (cQv g (t + 1) (o + 2)) (1) (32) (gA g) := by
  refine cStart (cc := cX0_init) (maxL := 1) (ret := none) (by decide) rfl (Nat.le_of_ble_eq_true rfl) ?_
  intro p e s m below meth c ls H locs F hr hlk hini hH hcnt hS hNst hl
  have hl : lv_has ls 1 [(0, .ref (gZ g + o))] := hl
  have iX0 : ∀ w ∈ u_ws RX0 TX0 15, w ∈ wsX0_init := (by decide +kernel)
  have k11 : Cond.fieldLink RX0 11 (TX0 7).1 (TX0 7).2.1 (TX0 7).2.2.1 ∈ wsX0_init := List.mem_of_getElem? (i := 5) rfl
  refine lv_aload_n F.1 F.2.1 dX0_init_0 rfl (lv_at hl 0 rfl) ?_
  refine c_obj F hl.1 (List.mem_of_getElem? (i := 1) rfl) (List.mem_of_getElem? (i := 2) rfl) (List.mem_of_getElem? (i := 3) rfl) dX0_init_1 (Nat.le_of_ble_eq_true rfl) (Nat.le_of_ble_eq_true rfl) ?_
  refine lv_aload_n F.1 F.2.1 dX0_init_4 rfl (lv_at hl 0 rfl) ?_
  refine z_bipush F dX0_init_5 (by decide) ?_
  refine c_newA (ty := .int) (ck := 9) (i := 1) (N := 32) F hH hS hcnt rfl rfl (fun _ h => h) (fun _ => nc9) (by decide) (List.mem_of_getElem? (i := 4) rfl) (by omega) (by first | rfl | omega) (by omega) (by show _ * 4 ≤ _; omega) (by first | exact Nat.le_of_ble_eq_true rfl | (unfold rmX0_init; dsimp only; omega) | omega) (by first | exact Nat.le_of_ble_eq_true rfl | (unfold rmX0_init; dsimp only; omega) | omega) (kK hOK (by omega) h2) (kN hOK (by omega) h3) h5 dX0_init_7 (fun H hH hS => ?_)
  have hH : cH g (t) (o + 2) H := hH
  have hcnt : s.heap.size + (1) = gZ g + (o + 2) := by omega
  refine c_putRF (ci := 0) (k := 7) F hH hS rfl (by decide) iX0 (by omega) (kK hOK (by omega) h1) (by decide) tyX0 tyX0_ok nmX0 rfl (ty := tyX0 7) (fun _ => rfl) (fun _ => rfl) rfl hini rfl rfl k11 dX0_init_9 h4 (fun H locs hH hS => ?_)
  have hH : cH g (t + 1) (o + 2) H := hH
  have hcnt : s.heap.size + (1) = gZ g + (o + 2) := by omega
  exact c_vret F hr hlk hH hS (by first | exact Nat.le_of_ble_eq_true rfl | (unfold rmX0_init; dsimp only; omega) | omega) (by first | exact Nat.le_of_ble_eq_true rfl | (unfold rmX0_init; dsimp only; omega) | omega) dX0_init_12

def rmX4_init (lim : Nat) : Room := { frames := 1, cells := 1, slots := 6 * lim, locals := 12 }
theorem hdX4_init : yX4_init.cls ≠ "java/lang/invoke/MethodHandle" ∧ yX4_init.cls ≠ "java/lang/invoke/VarHandle" ∧ (parseMethodDescriptor yX4_init.desc).map (fun d => d.parameters.length) = some 2 := by decide +kernel
set_option maxHeartbeats 4000000 in
set_option maxRecDepth 100000 in
theorem mk_X4_init (l : Launch) (g : gG) (t o ky lim : Nat) (hOK : gOK g) (ho : o < 222) (h1 : kT o = 4) (h2 : kT (o + 1) = 9) (h3 : nT (o + 1) = 6 * lim) (h4 : ev t = (1, o, 0, ky)) (h5 : ev (t + 1) = (1, o, 1, lim)) (h6 : ev (t + 2) = (2, o, 2, o + 1)) (h7 : cfr (t + 2) (o + 1)) (h8 : lim ≤ 240) : Met l yX4_init wsX4_init (rmX4_init lim) (cPre g (t) (o + 1) [.ref (gZ g + o), .int (iI ((ky : Nat) : Int)), .int (iI ((lim : Nat) : Int))]) (cQv g (t + 3) (o + 2)) (1) (6 * lim) (gA g) := by
  refine cStart (cc := cX4_init) (maxL := 3) (ret := none) (by decide) rfl (Nat.le_of_ble_eq_true rfl) ?_
  intro p e s m below meth c ls H locs F hr hlk hini hH hcnt hS hNst hl
  have hl : lv_has ls 3 [(0, .ref (gZ g + o)), (1, .int (iI ((ky : Nat) : Int))), (2, .int (iI ((lim : Nat) : Int)))] := hl
  have iX4 : ∀ w ∈ u_ws RX4 TX4 4, w ∈ wsX4_init := (by decide +kernel)
  have k7 : Cond.fieldLink RX4 7 (TX4 0).1 (TX4 0).2.1 (TX4 0).2.2.1 ∈ wsX4_init := List.mem_of_getElem? (i := 4) rfl
  have k13 : Cond.fieldLink RX4 13 (TX4 1).1 (TX4 1).2.1 (TX4 1).2.2.1 ∈ wsX4_init := List.mem_of_getElem? (i := 5) rfl
  have k16 : Cond.fieldLink RX4 16 (TX4 2).1 (TX4 2).2.1 (TX4 2).2.2.1 ∈ wsX4_init := List.mem_of_getElem? (i := 7) rfl
  refine lv_aload_n F.1 F.2.1 dX4_init_0 rfl (lv_at hl 0 rfl) ?_
  refine c_obj F hl.1 (List.mem_of_getElem? (i := 1) rfl) (List.mem_of_getElem? (i := 2) rfl) (List.mem_of_getElem? (i := 3) rfl) dX4_init_1 (Nat.le_of_ble_eq_true rfl) (Nat.le_of_ble_eq_true rfl) ?_
  refine lv_aload_n F.1 F.2.1 dX4_init_4 rfl (lv_at hl 0 rfl) ?_
  refine lv_iload_n F.1 F.2.1 dX4_init_5 rfl (lv_at hl 1 rfl) ?_
  refine c_putIF (ci := 4) (k := 0) (v := ky) F hH hS rfl (by decide) iX4 (by omega) (kK hOK (by omega) h1) (by decide) tyX4 tyX4_ok nmX4 rfl rfl hini rfl rfl k7 dX4_init_6 h4 (fun H locs hH hS => ?_)
  have hH : cH g (t + 1) (o + 1) H := hH
  have hcnt : s.heap.size + (0) = gZ g + (o + 1) := by omega
  refine lv_aload_n F.1 F.2.1 dX4_init_9 rfl (lv_at hl 0 rfl) ?_
  refine lv_iload_n F.1 F.2.1 dX4_init_10 rfl (lv_at hl 2 rfl) ?_
  refine c_putIF (ci := 4) (k := 1) (v := lim) F hH hS rfl (by decide) iX4 (by omega) (kK hOK (by omega) h1) (by decide) tyX4 tyX4_ok nmX4 rfl rfl hini rfl rfl k13 dX4_init_11 h5 (fun H locs hH hS => ?_)
  have hH : cH g (t + 2) (o + 1) H := hH
  have hcnt : s.heap.size + (0) = gZ g + (o + 1) := by omega
  refine lv_aload_n F.1 F.2.1 dX4_init_14 rfl (lv_at hl 0 rfl) ?_
  refine lv_iload_n F.1 F.2.1 dX4_init_15 rfl (lv_at hl 2 rfl) ?_
  refine z_bipush F dX4_init_16 (by decide) ?_
  refine z_imul F dX4_init_18 ?_
  refine c_newA (ty := .int) (ck := 9) (i := 1) (N := 6 * lim) F hH hS hcnt rfl rfl (fun _ h => h) (fun _ => nc9) (by decide) (List.mem_of_getElem? (i := 6) rfl) (by omega) (by first | rfl | omega) (by omega) (by show _ * 4 ≤ _; omega) (by first | exact Nat.le_of_ble_eq_true rfl | (unfold rmX4_init; dsimp only; omega) | omega) (by first | exact Nat.le_of_ble_eq_true rfl | (unfold rmX4_init; dsimp only; omega) | omega) (kK hOK (by omega) h2) (kN hOK (by omega) h3) h7 dX4_init_19 (fun H hH hS => ?_)
  have hH : cH g (t + 2) (o + 2) H := hH
  have hcnt : s.heap.size + (1) = gZ g + (o + 2) := by omega
  refine c_putRF (ci := 4) (k := 2) F hH hS rfl (by decide) iX4 (by omega) (kK hOK (by omega) h1) (by decide) tyX4 tyX4_ok nmX4 rfl (ty := tyX4 2) (fun _ => rfl) (fun _ => rfl) rfl hini rfl rfl k16 dX4_init_21 h6 (fun H locs hH hS => ?_)
  have hH : cH g (t + 3) (o + 2) H := hH
  have hcnt : s.heap.size + (1) = gZ g + (o + 2) := by omega
  exact c_vret F hr hlk hH hS (by first | exact Nat.le_of_ble_eq_true rfl | (unfold rmX4_init; dsimp only; omega) | omega) (by first | exact Nat.le_of_ble_eq_true rfl | (unfold rmX4_init; dsimp only; omega) | omega) dX4_init_24

def rmX5_init : Room := { frames := 1, cells := 4, slots := 3604, locals := 12 }
theorem hdX5_init : yX5_init.cls ≠ "java/lang/invoke/MethodHandle" ∧ yX5_init.cls ≠ "java/lang/invoke/VarHandle" ∧ (parseMethodDescriptor yX5_init.desc).map (fun d => d.parameters.length) = some 0 := by decide +kernel
set_option maxHeartbeats 4000000 in
set_option maxRecDepth 100000 in
theorem mk_X5_init (l : Launch) (g : gG) (hOK : gOK g) : Met l yX5_init wsX5_init rmX5_init (cPre g (1) (4) [.ref (gZ g + 3)]) (cQv g (5) (8)) (4) (3604) (gA g) := by
  refine cStart (cc := cX5_init) (maxL := 1) (ret := none) (by decide) rfl (Nat.le_of_ble_eq_true rfl) ?_
  intro p e s m below meth c ls H locs F hr hlk hini hH hcnt hS hNst hl
  have hl : lv_has ls 1 [(0, .ref (gZ g + 3))] := hl
  have iX5 : ∀ w ∈ u_ws RX5 TX5 5, w ∈ wsX5_init := (by decide +kernel)
  have k9 : Cond.fieldLink RX5 9 (TX5 0).1 (TX5 0).2.1 (TX5 0).2.2.1 ∈ wsX5_init := List.mem_of_getElem? (i := 5) rfl
  have k15 : Cond.fieldLink RX5 15 (TX5 1).1 (TX5 1).2.1 (TX5 1).2.2.1 ∈ wsX5_init := List.mem_of_getElem? (i := 6) rfl
  have k18 : Cond.fieldLink RX5 18 (TX5 2).1 (TX5 2).2.1 (TX5 2).2.2.1 ∈ wsX5_init := List.mem_of_getElem? (i := 7) rfl
  have k21 : Cond.fieldLink RX5 21 (TX5 3).1 (TX5 3).2.1 (TX5 3).2.2.1 ∈ wsX5_init := List.mem_of_getElem? (i := 9) rfl
  refine lv_aload_n F.1 F.2.1 dX5_init_0 rfl (lv_at hl 0 rfl) ?_
  refine c_obj F hl.1 (List.mem_of_getElem? (i := 1) rfl) (List.mem_of_getElem? (i := 2) rfl) (List.mem_of_getElem? (i := 3) rfl) dX5_init_1 (Nat.le_of_ble_eq_true rfl) (Nat.le_of_ble_eq_true rfl) ?_
  refine lv_aload_n F.1 F.2.1 dX5_init_4 rfl (lv_at hl 0 rfl) ?_
  refine z_sipush F dX5_init_5 (by decide) ?_
  refine c_newA (ty := .int) (ck := 9) (i := 1) (N := 901) F hH hS hcnt rfl rfl (fun _ h => h) (fun _ => nc9) (by decide) (List.mem_of_getElem? (i := 4) rfl) (by decide) (by first | rfl | omega) (by omega) (by show _ * 4 ≤ _; omega) (Nat.le_of_ble_eq_true rfl) (Nat.le_of_ble_eq_true rfl) (kK hOK (by decide) (by decide +kernel)) (kN hOK (by decide) (by decide +kernel)) (cfr_of (by decide +kernel)) dX5_init_8 (fun H hH hS => ?_)
  have hH : cH g (1) (5) H := hH
  have hcnt : s.heap.size + (1) = gZ g + (5) := by omega
  refine c_putRF (ci := 5) (k := 0) F hH hS rfl (by decide) iX5 (by decide) (kK hOK (by decide) (by decide +kernel)) (by decide) tyX5 tyX5_ok nmX5 rfl (ty := tyX5 0) (fun _ => rfl) (fun _ => rfl) rfl hini rfl rfl k9 dX5_init_10 (by decide +kernel) (fun H locs hH hS => ?_)
  have hH : cH g (2) (5) H := hH
  have hcnt : s.heap.size + (1) = gZ g + (5) := by omega
  refine lv_aload_n F.1 F.2.1 dX5_init_13 rfl (lv_at hl 0 rfl) ?_
  refine z_sipush F dX5_init_14 (by decide) ?_
  refine c_newA (ty := .int) (ck := 9) (i := 1) (N := 901) F hH hS hcnt rfl rfl (fun _ h => h) (fun _ => nc9) (by decide) (List.mem_of_getElem? (i := 4) rfl) (by decide) (by first | rfl | omega) (by omega) (by show _ * 4 ≤ _; omega) (Nat.le_of_ble_eq_true rfl) (Nat.le_of_ble_eq_true rfl) (kK hOK (by decide) (by decide +kernel)) (kN hOK (by decide) (by decide +kernel)) (cfr_of (by decide +kernel)) dX5_init_17 (fun H hH hS => ?_)
  have hH : cH g (2) (6) H := hH
  have hcnt : s.heap.size + (2) = gZ g + (6) := by omega
  refine c_putRF (ci := 5) (k := 1) F hH hS rfl (by decide) iX5 (by decide) (kK hOK (by decide) (by decide +kernel)) (by decide) tyX5 tyX5_ok nmX5 rfl (ty := tyX5 1) (fun _ => rfl) (fun _ => rfl) rfl hini rfl rfl k15 dX5_init_19 (by decide +kernel) (fun H locs hH hS => ?_)
  have hH : cH g (3) (6) H := hH
  have hcnt : s.heap.size + (2) = gZ g + (6) := by omega
  refine lv_aload_n F.1 F.2.1 dX5_init_22 rfl (lv_at hl 0 rfl) ?_
  refine z_sipush F dX5_init_23 (by decide) ?_
  refine c_newA (ty := .int) (ck := 9) (i := 1) (N := 901) F hH hS hcnt rfl rfl (fun _ h => h) (fun _ => nc9) (by decide) (List.mem_of_getElem? (i := 4) rfl) (by decide) (by first | rfl | omega) (by omega) (by show _ * 4 ≤ _; omega) (Nat.le_of_ble_eq_true rfl) (Nat.le_of_ble_eq_true rfl) (kK hOK (by decide) (by decide +kernel)) (kN hOK (by decide) (by decide +kernel)) (cfr_of (by decide +kernel)) dX5_init_26 (fun H hH hS => ?_)
  have hH : cH g (3) (7) H := hH
  have hcnt : s.heap.size + (3) = gZ g + (7) := by omega
  refine c_putRF (ci := 5) (k := 2) F hH hS rfl (by decide) iX5 (by decide) (kK hOK (by decide) (by decide +kernel)) (by decide) tyX5 tyX5_ok nmX5 rfl (ty := tyX5 2) (fun _ => rfl) (fun _ => rfl) rfl hini rfl rfl k18 dX5_init_28 (by decide +kernel) (fun H locs hH hS => ?_)
  have hH : cH g (4) (7) H := hH
  have hcnt : s.heap.size + (3) = gZ g + (7) := by omega
  refine lv_aload_n F.1 F.2.1 dX5_init_31 rfl (lv_at hl 0 rfl) ?_
  refine z_sipush F dX5_init_32 (by decide) ?_
  refine c_newA (ty := .long) (ck := 10) (i := 2) (N := 901) F hH hS hcnt rfl rfl (fun _ h => h) (fun _ => nc10) (by decide) (List.mem_of_getElem? (i := 8) rfl) (by decide) (by first | rfl | omega) (by omega) (by show _ * 8 ≤ _; omega) (Nat.le_of_ble_eq_true rfl) (Nat.le_of_ble_eq_true rfl) (kK hOK (by decide) (by decide +kernel)) (kN hOK (by decide) (by decide +kernel)) (cfr_of (by decide +kernel)) dX5_init_35 (fun H hH hS => ?_)
  have hH : cH g (4) (8) H := hH
  have hcnt : s.heap.size + (4) = gZ g + (8) := by omega
  refine c_putRF (ci := 5) (k := 3) F hH hS rfl (by decide) iX5 (by decide) (kK hOK (by decide) (by decide +kernel)) (by decide) tyX5 tyX5_ok nmX5 rfl (ty := tyX5 3) (fun _ => rfl) (fun _ => rfl) rfl hini rfl rfl k21 dX5_init_37 (by decide +kernel) (fun H locs hH hS => ?_)
  have hH : cH g (5) (8) H := hH
  have hcnt : s.heap.size + (4) = gZ g + (8) := by omega
  exact c_vret F hr hlk hH hS (Nat.le_of_ble_eq_true rfl) (Nat.le_of_ble_eq_true rfl) dX5_init_40

def rmX3_init : Room := { frames := 1, cells := 3, slots := 493, locals := 12 }
theorem hdX3_init : yX3_init.cls ≠ "java/lang/invoke/MethodHandle" ∧ yX3_init.cls ≠ "java/lang/invoke/VarHandle" ∧ (parseMethodDescriptor yX3_init.desc).map (fun d => d.parameters.length) = some 0 := by decide +kernel
set_option maxHeartbeats 4000000 in
set_option maxRecDepth 100000 in
theorem mk_X3_init (l : Launch) (g : gG) (hOK : gOK g) : Met l yX3_init wsX3_init rmX3_init (cPre g (76) (77) [.ref (gZ g + 76)]) (cQv g (79) (80)) (3) (493) (gA g) := by
  refine cStart (cc := cX3_init) (maxL := 1) (ret := none) (by decide) rfl (Nat.le_of_ble_eq_true rfl) ?_
  intro p e s m below meth c ls H locs F hr hlk hini hH hcnt hS hNst hl
  have hl : lv_has ls 1 [(0, .ref (gZ g + 76))] := hl
  have iX3 : ∀ w ∈ u_ws RX3 TX3 3, w ∈ wsX3_init := (by decide +kernel)
  have k11 : Cond.fieldLink RX3 11 (TX3 0).1 (TX3 0).2.1 (TX3 0).2.2.1 ∈ wsX3_init := List.mem_of_getElem? (i := 5) rfl
  have k17 : Cond.fieldLink RX3 17 (TX3 1).1 (TX3 1).2.1 (TX3 1).2.2.1 ∈ wsX3_init := List.mem_of_getElem? (i := 6) rfl
  have k20 : Cond.fieldLink RX3 20 (TX3 2).1 (TX3 2).2.1 (TX3 2).2.2.1 ∈ wsX3_init := List.mem_of_getElem? (i := 7) rfl
  refine lv_aload_n F.1 F.2.1 dX3_init_0 rfl (lv_at hl 0 rfl) ?_
  refine c_obj F hl.1 (List.mem_of_getElem? (i := 1) rfl) (List.mem_of_getElem? (i := 2) rfl) (List.mem_of_getElem? (i := 3) rfl) dX3_init_1 (Nat.le_of_ble_eq_true rfl) (Nat.le_of_ble_eq_true rfl) ?_
  refine lv_aload_n F.1 F.2.1 dX3_init_4 rfl (lv_at hl 0 rfl) ?_
  refine z_iconst F dX3_init_5 ?_
  refine c_newA (ty := .int) (ck := 9) (i := 1) (N := 5) F hH hS hcnt rfl rfl (fun _ h => h) (fun _ => nc9) (by decide) (List.mem_of_getElem? (i := 4) rfl) (by decide) (by first | rfl | omega) (by omega) (by show _ * 4 ≤ _; omega) (Nat.le_of_ble_eq_true rfl) (Nat.le_of_ble_eq_true rfl) (kK hOK (by decide) (by decide +kernel)) (kN hOK (by decide) (by decide +kernel)) (cfr_of (by decide +kernel)) dX3_init_6 (fun H hH hS => ?_)
  have hH : cH g (76) (78) H := hH
  have hcnt : s.heap.size + (1) = gZ g + (78) := by omega
  refine c_putRF (ci := 3) (k := 0) F hH hS rfl (by decide) iX3 (by decide) (kK hOK (by decide) (by decide +kernel)) (by decide) tyX3 tyX3_ok nmX3 rfl (ty := tyX3 0) (fun _ => rfl) (fun _ => rfl) rfl hini rfl rfl k11 dX3_init_8 (by decide +kernel) (fun H locs hH hS => ?_)
  have hH : cH g (77) (78) H := hH
  have hcnt : s.heap.size + (1) = gZ g + (78) := by omega
  refine lv_aload_n F.1 F.2.1 dX3_init_11 rfl (lv_at hl 0 rfl) ?_
  refine z_bipush F dX3_init_12 (by decide) ?_
  refine c_newA (ty := .int) (ck := 9) (i := 1) (N := 8) F hH hS hcnt rfl rfl (fun _ h => h) (fun _ => nc9) (by decide) (List.mem_of_getElem? (i := 4) rfl) (by decide) (by first | rfl | omega) (by omega) (by show _ * 4 ≤ _; omega) (Nat.le_of_ble_eq_true rfl) (Nat.le_of_ble_eq_true rfl) (kK hOK (by decide) (by decide +kernel)) (kN hOK (by decide) (by decide +kernel)) (cfr_of (by decide +kernel)) dX3_init_14 (fun H hH hS => ?_)
  have hH : cH g (77) (79) H := hH
  have hcnt : s.heap.size + (2) = gZ g + (79) := by omega
  refine c_putRF (ci := 3) (k := 1) F hH hS rfl (by decide) iX3 (by decide) (kK hOK (by decide) (by decide +kernel)) (by decide) tyX3 tyX3_ok nmX3 rfl (ty := tyX3 1) (fun _ => rfl) (fun _ => rfl) rfl hini rfl rfl k17 dX3_init_16 (by decide +kernel) (fun H locs hH hS => ?_)
  have hH : cH g (78) (79) H := hH
  have hcnt : s.heap.size + (2) = gZ g + (79) := by omega
  refine lv_aload_n F.1 F.2.1 dX3_init_19 rfl (lv_at hl 0 rfl) ?_
  refine z_sipush F dX3_init_20 (by decide) ?_
  refine c_newA (ty := .int) (ck := 9) (i := 1) (N := 480) F hH hS hcnt rfl rfl (fun _ h => h) (fun _ => nc9) (by decide) (List.mem_of_getElem? (i := 4) rfl) (by decide) (by first | rfl | omega) (by omega) (by show _ * 4 ≤ _; omega) (Nat.le_of_ble_eq_true rfl) (Nat.le_of_ble_eq_true rfl) (kK hOK (by decide) (by decide +kernel)) (kN hOK (by decide) (by decide +kernel)) (cfr_of (by decide +kernel)) dX3_init_23 (fun H hH hS => ?_)
  have hH : cH g (78) (80) H := hH
  have hcnt : s.heap.size + (3) = gZ g + (80) := by omega
  refine c_putRF (ci := 3) (k := 2) F hH hS rfl (by decide) iX3 (by decide) (kK hOK (by decide) (by decide +kernel)) (by decide) tyX3 tyX3_ok nmX3 rfl (ty := tyX3 2) (fun _ => rfl) (fun _ => rfl) rfl hini rfl rfl k20 dX3_init_25 (by decide +kernel) (fun H locs hH hS => ?_)
  have hH : cH g (79) (80) H := hH
  have hcnt : s.heap.size + (3) = gZ g + (80) := by omega
  exact c_vret F hr hlk hH hS (Nat.le_of_ble_eq_true rfl) (Nat.le_of_ble_eq_true rfl) dX3_init_28

def rmX7_init : Room := { frames := 1, cells := 16, slots := 140978, locals := 12 }
theorem hdX7_init : yX7_init.cls ≠ "java/lang/invoke/MethodHandle" ∧ yX7_init.cls ≠ "java/lang/invoke/VarHandle" ∧ (parseMethodDescriptor yX7_init.desc).map (fun d => d.parameters.length) = some 0 := by decide +kernel
set_option maxHeartbeats 4000000 in
set_option maxRecDepth 100000 in
theorem mk_X7_init (l : Launch) (g : gG) (hOK : gOK g) : Met l yX7_init wsX7_init rmX7_init (cPre g (325) (206) [.ref (gZ g + 205)]) (cQv g (341) (222)) (16) (140978) (gA g) := by
  refine cStart (cc := cX7_init) (maxL := 1) (ret := none) (by decide) rfl (Nat.le_of_ble_eq_true rfl) ?_
  intro p e s m below meth c ls H locs F hr hlk hini hH hcnt hS hNst hl
  have hl : lv_has ls 1 [(0, .ref (gZ g + 205))] := hl
  have iX7 : ∀ w ∈ u_ws RX7 TX7 32, w ∈ wsX7_init := (by decide +kernel)
  have k7 : Cond.fieldLink RX7 7 (TX7 0).1 (TX7 0).2.1 (TX7 0).2.2.1 ∈ wsX7_init := List.mem_of_getElem? (i := 5) rfl
  have k13 : Cond.fieldLink RX7 13 (TX7 1).1 (TX7 1).2.1 (TX7 1).2.2.1 ∈ wsX7_init := List.mem_of_getElem? (i := 7) rfl
  have k17 : Cond.fieldLink RX7 17 (TX7 3).1 (TX7 3).2.1 (TX7 3).2.2.1 ∈ wsX7_init := List.mem_of_getElem? (i := 8) rfl
  have k20 : Cond.fieldLink RX7 20 (TX7 4).1 (TX7 4).2.1 (TX7 4).2.2.1 ∈ wsX7_init := List.mem_of_getElem? (i := 9) rfl
  have k24 : Cond.fieldLink RX7 24 (TX7 6).1 (TX7 6).2.1 (TX7 6).2.2.1 ∈ wsX7_init := List.mem_of_getElem? (i := 11) rfl
  have k27 : Cond.fieldLink RX7 27 (TX7 7).1 (TX7 7).2.1 (TX7 7).2.2.1 ∈ wsX7_init := List.mem_of_getElem? (i := 12) rfl
  have k30 : Cond.fieldLink RX7 30 (TX7 11).1 (TX7 11).2.1 (TX7 11).2.2.1 ∈ wsX7_init := List.mem_of_getElem? (i := 13) rfl
  have k33 : Cond.fieldLink RX7 33 (TX7 12).1 (TX7 12).2.1 (TX7 12).2.2.1 ∈ wsX7_init := List.mem_of_getElem? (i := 14) rfl
  have k36 : Cond.fieldLink RX7 36 (TX7 13).1 (TX7 13).2.1 (TX7 13).2.2.1 ∈ wsX7_init := List.mem_of_getElem? (i := 15) rfl
  have k39 : Cond.fieldLink RX7 39 (TX7 15).1 (TX7 15).2.1 (TX7 15).2.2.1 ∈ wsX7_init := List.mem_of_getElem? (i := 16) rfl
  have k42 : Cond.fieldLink RX7 42 (TX7 25).1 (TX7 25).2.1 (TX7 25).2.2.1 ∈ wsX7_init := List.mem_of_getElem? (i := 17) rfl
  have k45 : Cond.fieldLink RX7 45 (TX7 27).1 (TX7 27).2.1 (TX7 27).2.2.1 ∈ wsX7_init := List.mem_of_getElem? (i := 18) rfl
  have k48 : Cond.fieldLink RX7 48 (TX7 28).1 (TX7 28).2.1 (TX7 28).2.2.1 ∈ wsX7_init := List.mem_of_getElem? (i := 19) rfl
  have k51 : Cond.fieldLink RX7 51 (TX7 29).1 (TX7 29).2.1 (TX7 29).2.2.1 ∈ wsX7_init := List.mem_of_getElem? (i := 20) rfl
  have k54 : Cond.fieldLink RX7 54 (TX7 30).1 (TX7 30).2.1 (TX7 30).2.2.1 ∈ wsX7_init := List.mem_of_getElem? (i := 21) rfl
  have k57 : Cond.fieldLink RX7 57 (TX7 31).1 (TX7 31).2.1 (TX7 31).2.2.1 ∈ wsX7_init := List.mem_of_getElem? (i := 22) rfl
  refine lv_aload_n F.1 F.2.1 dX7_init_0 rfl (lv_at hl 0 rfl) ?_
  refine c_obj F hl.1 (List.mem_of_getElem? (i := 1) rfl) (List.mem_of_getElem? (i := 2) rfl) (List.mem_of_getElem? (i := 3) rfl) dX7_init_1 (Nat.le_of_ble_eq_true rfl) (Nat.le_of_ble_eq_true rfl) ?_
  refine lv_aload_n F.1 F.2.1 dX7_init_4 rfl (lv_at hl 0 rfl) ?_
  refine z_sipush F dX7_init_5 (by decide) ?_
  refine c_newA (ty := .int) (ck := 9) (i := 1) (N := 640) F hH hS hcnt rfl rfl (fun _ h => h) (fun _ => nc9) (by decide) (List.mem_of_getElem? (i := 4) rfl) (by decide) (by first | rfl | omega) (by omega) (by show _ * 4 ≤ _; omega) (Nat.le_of_ble_eq_true rfl) (Nat.le_of_ble_eq_true rfl) (kK hOK (by decide) (by decide +kernel)) (kN hOK (by decide) (by decide +kernel)) (cfr_of (by decide +kernel)) dX7_init_8 (fun H hH hS => ?_)
  have hH : cH g (325) (207) H := hH
  have hcnt : s.heap.size + (1) = gZ g + (207) := by omega
  refine c_putRF (ci := 7) (k := 0) F hH hS rfl (by decide) iX7 (by decide) (kK hOK (by decide) (by decide +kernel)) (by decide) tyX7 tyX7_ok nmX7 rfl (ty := tyX7 0) (fun _ => rfl) (fun _ => rfl) rfl hini rfl rfl k7 dX7_init_10 (by decide +kernel) (fun H locs hH hS => ?_)
  have hH : cH g (326) (207) H := hH
  have hcnt : s.heap.size + (1) = gZ g + (207) := by omega
  refine lv_aload_n F.1 F.2.1 dX7_init_13 rfl (lv_at hl 0 rfl) ?_
  refine z_bipush F dX7_init_14 (by decide) ?_
  refine c_newA (ty := .long) (ck := 10) (i := 2) (N := 16) F hH hS hcnt rfl rfl (fun _ h => h) (fun _ => nc10) (by decide) (List.mem_of_getElem? (i := 6) rfl) (by decide) (by first | rfl | omega) (by omega) (by show _ * 8 ≤ _; omega) (Nat.le_of_ble_eq_true rfl) (Nat.le_of_ble_eq_true rfl) (kK hOK (by decide) (by decide +kernel)) (kN hOK (by decide) (by decide +kernel)) (cfr_of (by decide +kernel)) dX7_init_16 (fun H hH hS => ?_)
  have hH : cH g (326) (208) H := hH
  have hcnt : s.heap.size + (2) = gZ g + (208) := by omega
  refine c_putRF (ci := 7) (k := 1) F hH hS rfl (by decide) iX7 (by decide) (kK hOK (by decide) (by decide +kernel)) (by decide) tyX7 tyX7_ok nmX7 rfl (ty := tyX7 1) (fun _ => rfl) (fun _ => rfl) rfl hini rfl rfl k13 dX7_init_18 (by decide +kernel) (fun H locs hH hS => ?_)
  have hH : cH g (327) (208) H := hH
  have hcnt : s.heap.size + (2) = gZ g + (208) := by omega
  refine lv_aload_n F.1 F.2.1 dX7_init_21 rfl (lv_at hl 0 rfl) ?_
  refine z_sipush F dX7_init_22 (by decide) ?_
  refine c_newA (ty := .int) (ck := 9) (i := 1) (N := 640) F hH hS hcnt rfl rfl (fun _ h => h) (fun _ => nc9) (by decide) (List.mem_of_getElem? (i := 4) rfl) (by decide) (by first | rfl | omega) (by omega) (by show _ * 4 ≤ _; omega) (Nat.le_of_ble_eq_true rfl) (Nat.le_of_ble_eq_true rfl) (kK hOK (by decide) (by decide +kernel)) (kN hOK (by decide) (by decide +kernel)) (cfr_of (by decide +kernel)) dX7_init_25 (fun H hH hS => ?_)
  have hH : cH g (327) (209) H := hH
  have hcnt : s.heap.size + (3) = gZ g + (209) := by omega
  refine c_putRF (ci := 7) (k := 3) F hH hS rfl (by decide) iX7 (by decide) (kK hOK (by decide) (by decide +kernel)) (by decide) tyX7 tyX7_ok nmX7 rfl (ty := tyX7 3) (fun _ => rfl) (fun _ => rfl) rfl hini rfl rfl k17 dX7_init_27 (by decide +kernel) (fun H locs hH hS => ?_)
  have hH : cH g (328) (209) H := hH
  have hcnt : s.heap.size + (3) = gZ g + (209) := by omega
  refine lv_aload_n F.1 F.2.1 dX7_init_30 rfl (lv_at hl 0 rfl) ?_
  refine z_bipush F dX7_init_31 (by decide) ?_
  refine c_newA (ty := .long) (ck := 10) (i := 2) (N := 16) F hH hS hcnt rfl rfl (fun _ h => h) (fun _ => nc10) (by decide) (List.mem_of_getElem? (i := 6) rfl) (by decide) (by first | rfl | omega) (by omega) (by show _ * 8 ≤ _; omega) (Nat.le_of_ble_eq_true rfl) (Nat.le_of_ble_eq_true rfl) (kK hOK (by decide) (by decide +kernel)) (kN hOK (by decide) (by decide +kernel)) (cfr_of (by decide +kernel)) dX7_init_33 (fun H hH hS => ?_)
  have hH : cH g (328) (210) H := hH
  have hcnt : s.heap.size + (4) = gZ g + (210) := by omega
  refine c_putRF (ci := 7) (k := 4) F hH hS rfl (by decide) iX7 (by decide) (kK hOK (by decide) (by decide +kernel)) (by decide) tyX7 tyX7_ok nmX7 rfl (ty := tyX7 4) (fun _ => rfl) (fun _ => rfl) rfl hini rfl rfl k20 dX7_init_35 (by decide +kernel) (fun H locs hH hS => ?_)
  have hH : cH g (329) (210) H := hH
  have hcnt : s.heap.size + (4) = gZ g + (210) := by omega
  refine lv_aload_n F.1 F.2.1 dX7_init_38 rfl (lv_at hl 0 rfl) ?_
  refine lv_ldc (v := iI (126720)) F.1 F.2.1 F.2.2.2.1 (F.2.2.2.2.1 _ (List.mem_of_getElem? (i := 10) rfl)) dX7_init_39 ?_
  refine c_newA (ty := .int) (ck := 9) (i := 1) (N := 126720) F hH hS hcnt rfl rfl (fun _ h => h) (fun _ => nc9) (by decide) (List.mem_of_getElem? (i := 4) rfl) (by decide) (by first | rfl | omega) (by omega) (by show _ * 4 ≤ _; omega) (Nat.le_of_ble_eq_true rfl) (Nat.le_of_ble_eq_true rfl) (kK hOK (by decide) (by decide +kernel)) (kN hOK (by decide) (by decide +kernel)) (cfr_of (by decide +kernel)) dX7_init_41 (fun H hH hS => ?_)
  have hH : cH g (329) (211) H := hH
  have hcnt : s.heap.size + (5) = gZ g + (211) := by omega
  refine c_putRF (ci := 7) (k := 6) F hH hS rfl (by decide) iX7 (by decide) (kK hOK (by decide) (by decide +kernel)) (by decide) tyX7 tyX7_ok nmX7 rfl (ty := tyX7 6) (fun _ => rfl) (fun _ => rfl) rfl hini rfl rfl k24 dX7_init_43 (by decide +kernel) (fun H locs hH hS => ?_)
  have hH : cH g (330) (211) H := hH
  have hcnt : s.heap.size + (5) = gZ g + (211) := by omega
  refine lv_aload_n F.1 F.2.1 dX7_init_46 rfl (lv_at hl 0 rfl) ?_
  refine z_sipush F dX7_init_47 (by decide) ?_
  refine c_newA (ty := .int) (ck := 9) (i := 1) (N := 176) F hH hS hcnt rfl rfl (fun _ h => h) (fun _ => nc9) (by decide) (List.mem_of_getElem? (i := 4) rfl) (by decide) (by first | rfl | omega) (by omega) (by show _ * 4 ≤ _; omega) (Nat.le_of_ble_eq_true rfl) (Nat.le_of_ble_eq_true rfl) (kK hOK (by decide) (by decide +kernel)) (kN hOK (by decide) (by decide +kernel)) (cfr_of (by decide +kernel)) dX7_init_50 (fun H hH hS => ?_)
  have hH : cH g (330) (212) H := hH
  have hcnt : s.heap.size + (6) = gZ g + (212) := by omega
  refine c_putRF (ci := 7) (k := 7) F hH hS rfl (by decide) iX7 (by decide) (kK hOK (by decide) (by decide +kernel)) (by decide) tyX7 tyX7_ok nmX7 rfl (ty := tyX7 7) (fun _ => rfl) (fun _ => rfl) rfl hini rfl rfl k27 dX7_init_52 (by decide +kernel) (fun H locs hH hS => ?_)
  have hH : cH g (331) (212) H := hH
  have hcnt : s.heap.size + (6) = gZ g + (212) := by omega
  refine lv_aload_n F.1 F.2.1 dX7_init_55 rfl (lv_at hl 0 rfl) ?_
  refine z_bipush F dX7_init_56 (by decide) ?_
  refine c_newA (ty := .int) (ck := 9) (i := 1) (N := 41) F hH hS hcnt rfl rfl (fun _ h => h) (fun _ => nc9) (by decide) (List.mem_of_getElem? (i := 4) rfl) (by decide) (by first | rfl | omega) (by omega) (by show _ * 4 ≤ _; omega) (Nat.le_of_ble_eq_true rfl) (Nat.le_of_ble_eq_true rfl) (kK hOK (by decide) (by decide +kernel)) (kN hOK (by decide) (by decide +kernel)) (cfr_of (by decide +kernel)) dX7_init_58 (fun H hH hS => ?_)
  have hH : cH g (331) (213) H := hH
  have hcnt : s.heap.size + (7) = gZ g + (213) := by omega
  refine c_putRF (ci := 7) (k := 11) F hH hS rfl (by decide) iX7 (by decide) (kK hOK (by decide) (by decide +kernel)) (by decide) tyX7 tyX7_ok nmX7 rfl (ty := tyX7 11) (fun _ => rfl) (fun _ => rfl) rfl hini rfl rfl k30 dX7_init_60 (by decide +kernel) (fun H locs hH hS => ?_)
  have hH : cH g (332) (213) H := hH
  have hcnt : s.heap.size + (7) = gZ g + (213) := by omega
  refine lv_aload_n F.1 F.2.1 dX7_init_63 rfl (lv_at hl 0 rfl) ?_
  refine z_sipush F dX7_init_64 (by decide) ?_
  refine c_newA (ty := .int) (ck := 9) (i := 1) (N := 164) F hH hS hcnt rfl rfl (fun _ h => h) (fun _ => nc9) (by decide) (List.mem_of_getElem? (i := 4) rfl) (by decide) (by first | rfl | omega) (by omega) (by show _ * 4 ≤ _; omega) (Nat.le_of_ble_eq_true rfl) (Nat.le_of_ble_eq_true rfl) (kK hOK (by decide) (by decide +kernel)) (kN hOK (by decide) (by decide +kernel)) (cfr_of (by decide +kernel)) dX7_init_67 (fun H hH hS => ?_)
  have hH : cH g (332) (214) H := hH
  have hcnt : s.heap.size + (8) = gZ g + (214) := by omega
  refine c_putRF (ci := 7) (k := 12) F hH hS rfl (by decide) iX7 (by decide) (kK hOK (by decide) (by decide +kernel)) (by decide) tyX7 tyX7_ok nmX7 rfl (ty := tyX7 12) (fun _ => rfl) (fun _ => rfl) rfl hini rfl rfl k33 dX7_init_69 (by decide +kernel) (fun H locs hH hS => ?_)
  have hH : cH g (333) (214) H := hH
  have hcnt : s.heap.size + (8) = gZ g + (214) := by omega
  refine lv_aload_n F.1 F.2.1 dX7_init_72 rfl (lv_at hl 0 rfl) ?_
  refine z_bipush F dX7_init_73 (by decide) ?_
  refine c_newA (ty := .int) (ck := 9) (i := 1) (N := 41) F hH hS hcnt rfl rfl (fun _ h => h) (fun _ => nc9) (by decide) (List.mem_of_getElem? (i := 4) rfl) (by decide) (by first | rfl | omega) (by omega) (by show _ * 4 ≤ _; omega) (Nat.le_of_ble_eq_true rfl) (Nat.le_of_ble_eq_true rfl) (kK hOK (by decide) (by decide +kernel)) (kN hOK (by decide) (by decide +kernel)) (cfr_of (by decide +kernel)) dX7_init_75 (fun H hH hS => ?_)
  have hH : cH g (333) (215) H := hH
  have hcnt : s.heap.size + (9) = gZ g + (215) := by omega
  refine c_putRF (ci := 7) (k := 13) F hH hS rfl (by decide) iX7 (by decide) (kK hOK (by decide) (by decide +kernel)) (by decide) tyX7 tyX7_ok nmX7 rfl (ty := tyX7 13) (fun _ => rfl) (fun _ => rfl) rfl hini rfl rfl k36 dX7_init_77 (by decide +kernel) (fun H locs hH hS => ?_)
  have hH : cH g (334) (215) H := hH
  have hcnt : s.heap.size + (9) = gZ g + (215) := by omega
  refine lv_aload_n F.1 F.2.1 dX7_init_80 rfl (lv_at hl 0 rfl) ?_
  refine z_sipush F dX7_init_81 (by decide) ?_
  refine c_newA (ty := .int) (ck := 9) (i := 1) (N := 936) F hH hS hcnt rfl rfl (fun _ h => h) (fun _ => nc9) (by decide) (List.mem_of_getElem? (i := 4) rfl) (by decide) (by first | rfl | omega) (by omega) (by show _ * 4 ≤ _; omega) (Nat.le_of_ble_eq_true rfl) (Nat.le_of_ble_eq_true rfl) (kK hOK (by decide) (by decide +kernel)) (kN hOK (by decide) (by decide +kernel)) (cfr_of (by decide +kernel)) dX7_init_84 (fun H hH hS => ?_)
  have hH : cH g (334) (216) H := hH
  have hcnt : s.heap.size + (10) = gZ g + (216) := by omega
  refine c_putRF (ci := 7) (k := 15) F hH hS rfl (by decide) iX7 (by decide) (kK hOK (by decide) (by decide +kernel)) (by decide) tyX7 tyX7_ok nmX7 rfl (ty := tyX7 15) (fun _ => rfl) (fun _ => rfl) rfl hini rfl rfl k39 dX7_init_86 (by decide +kernel) (fun H locs hH hS => ?_)
  have hH : cH g (335) (216) H := hH
  have hcnt : s.heap.size + (10) = gZ g + (216) := by omega
  refine lv_aload_n F.1 F.2.1 dX7_init_89 rfl (lv_at hl 0 rfl) ?_
  refine z_sipush F dX7_init_90 (by decide) ?_
  refine c_newA (ty := .int) (ck := 9) (i := 1) (N := 9600) F hH hS hcnt rfl rfl (fun _ h => h) (fun _ => nc9) (by decide) (List.mem_of_getElem? (i := 4) rfl) (by decide) (by first | rfl | omega) (by omega) (by show _ * 4 ≤ _; omega) (Nat.le_of_ble_eq_true rfl) (Nat.le_of_ble_eq_true rfl) (kK hOK (by decide) (by decide +kernel)) (kN hOK (by decide) (by decide +kernel)) (cfr_of (by decide +kernel)) dX7_init_93 (fun H hH hS => ?_)
  have hH : cH g (335) (217) H := hH
  have hcnt : s.heap.size + (11) = gZ g + (217) := by omega
  refine c_putRF (ci := 7) (k := 25) F hH hS rfl (by decide) iX7 (by decide) (kK hOK (by decide) (by decide +kernel)) (by decide) tyX7 tyX7_ok nmX7 rfl (ty := tyX7 25) (fun _ => rfl) (fun _ => rfl) rfl hini rfl rfl k42 dX7_init_95 (by decide +kernel) (fun H locs hH hS => ?_)
  have hH : cH g (336) (217) H := hH
  have hcnt : s.heap.size + (11) = gZ g + (217) := by omega
  refine lv_aload_n F.1 F.2.1 dX7_init_98 rfl (lv_at hl 0 rfl) ?_
  refine z_iconst F dX7_init_99 ?_
  refine c_newA (ty := .int) (ck := 9) (i := 1) (N := 4) F hH hS hcnt rfl rfl (fun _ h => h) (fun _ => nc9) (by decide) (List.mem_of_getElem? (i := 4) rfl) (by decide) (by first | rfl | omega) (by omega) (by show _ * 4 ≤ _; omega) (Nat.le_of_ble_eq_true rfl) (Nat.le_of_ble_eq_true rfl) (kK hOK (by decide) (by decide +kernel)) (kN hOK (by decide) (by decide +kernel)) (cfr_of (by decide +kernel)) dX7_init_100 (fun H hH hS => ?_)
  have hH : cH g (336) (218) H := hH
  have hcnt : s.heap.size + (12) = gZ g + (218) := by omega
  refine c_putRF (ci := 7) (k := 27) F hH hS rfl (by decide) iX7 (by decide) (kK hOK (by decide) (by decide +kernel)) (by decide) tyX7 tyX7_ok nmX7 rfl (ty := tyX7 27) (fun _ => rfl) (fun _ => rfl) rfl hini rfl rfl k45 dX7_init_102 (by decide +kernel) (fun H locs hH hS => ?_)
  have hH : cH g (337) (218) H := hH
  have hcnt : s.heap.size + (12) = gZ g + (218) := by omega
  refine lv_aload_n F.1 F.2.1 dX7_init_105 rfl (lv_at hl 0 rfl) ?_
  refine z_bipush F dX7_init_106 (by decide) ?_
  refine c_newA (ty := .int) (ck := 9) (i := 1) (N := 8) F hH hS hcnt rfl rfl (fun _ h => h) (fun _ => nc9) (by decide) (List.mem_of_getElem? (i := 4) rfl) (by decide) (by first | rfl | omega) (by omega) (by show _ * 4 ≤ _; omega) (Nat.le_of_ble_eq_true rfl) (Nat.le_of_ble_eq_true rfl) (kK hOK (by decide) (by decide +kernel)) (kN hOK (by decide) (by decide +kernel)) (cfr_of (by decide +kernel)) dX7_init_108 (fun H hH hS => ?_)
  have hH : cH g (337) (219) H := hH
  have hcnt : s.heap.size + (13) = gZ g + (219) := by omega
  refine c_putRF (ci := 7) (k := 28) F hH hS rfl (by decide) iX7 (by decide) (kK hOK (by decide) (by decide +kernel)) (by decide) tyX7 tyX7_ok nmX7 rfl (ty := tyX7 28) (fun _ => rfl) (fun _ => rfl) rfl hini rfl rfl k48 dX7_init_110 (by decide +kernel) (fun H locs hH hS => ?_)
  have hH : cH g (338) (219) H := hH
  have hcnt : s.heap.size + (13) = gZ g + (219) := by omega
  refine lv_aload_n F.1 F.2.1 dX7_init_113 rfl (lv_at hl 0 rfl) ?_
  refine z_sipush F dX7_init_114 (by decide) ?_
  refine c_newA (ty := .int) (ck := 9) (i := 1) (N := 176) F hH hS hcnt rfl rfl (fun _ h => h) (fun _ => nc9) (by decide) (List.mem_of_getElem? (i := 4) rfl) (by decide) (by first | rfl | omega) (by omega) (by show _ * 4 ≤ _; omega) (Nat.le_of_ble_eq_true rfl) (Nat.le_of_ble_eq_true rfl) (kK hOK (by decide) (by decide +kernel)) (kN hOK (by decide) (by decide +kernel)) (cfr_of (by decide +kernel)) dX7_init_117 (fun H hH hS => ?_)
  have hH : cH g (338) (220) H := hH
  have hcnt : s.heap.size + (14) = gZ g + (220) := by omega
  refine c_putRF (ci := 7) (k := 29) F hH hS rfl (by decide) iX7 (by decide) (kK hOK (by decide) (by decide +kernel)) (by decide) tyX7 tyX7_ok nmX7 rfl (ty := tyX7 29) (fun _ => rfl) (fun _ => rfl) rfl hini rfl rfl k51 dX7_init_119 (by decide +kernel) (fun H locs hH hS => ?_)
  have hH : cH g (339) (220) H := hH
  have hcnt : s.heap.size + (14) = gZ g + (220) := by omega
  refine lv_aload_n F.1 F.2.1 dX7_init_122 rfl (lv_at hl 0 rfl) ?_
  refine z_sipush F dX7_init_123 (by decide) ?_
  refine c_newA (ty := .int) (ck := 9) (i := 1) (N := 600) F hH hS hcnt rfl rfl (fun _ h => h) (fun _ => nc9) (by decide) (List.mem_of_getElem? (i := 4) rfl) (by decide) (by first | rfl | omega) (by omega) (by show _ * 4 ≤ _; omega) (Nat.le_of_ble_eq_true rfl) (Nat.le_of_ble_eq_true rfl) (kK hOK (by decide) (by decide +kernel)) (kN hOK (by decide) (by decide +kernel)) (cfr_of (by decide +kernel)) dX7_init_126 (fun H hH hS => ?_)
  have hH : cH g (339) (221) H := hH
  have hcnt : s.heap.size + (15) = gZ g + (221) := by omega
  refine c_putRF (ci := 7) (k := 30) F hH hS rfl (by decide) iX7 (by decide) (kK hOK (by decide) (by decide +kernel)) (by decide) tyX7 tyX7_ok nmX7 rfl (ty := tyX7 30) (fun _ => rfl) (fun _ => rfl) rfl hini rfl rfl k54 dX7_init_128 (by decide +kernel) (fun H locs hH hS => ?_)
  have hH : cH g (340) (221) H := hH
  have hcnt : s.heap.size + (15) = gZ g + (221) := by omega
  refine lv_aload_n F.1 F.2.1 dX7_init_131 rfl (lv_at hl 0 rfl) ?_
  refine z_sipush F dX7_init_132 (by decide) ?_
  refine c_newA (ty := .int) (ck := 9) (i := 1) (N := 1200) F hH hS hcnt rfl rfl (fun _ h => h) (fun _ => nc9) (by decide) (List.mem_of_getElem? (i := 4) rfl) (by decide) (by first | rfl | omega) (by omega) (by show _ * 4 ≤ _; omega) (Nat.le_of_ble_eq_true rfl) (Nat.le_of_ble_eq_true rfl) (kK hOK (by decide) (by decide +kernel)) (kN hOK (by decide) (by decide +kernel)) (cfr_of (by decide +kernel)) dX7_init_135 (fun H hH hS => ?_)
  have hH : cH g (340) (222) H := hH
  have hcnt : s.heap.size + (16) = gZ g + (222) := by omega
  refine c_putRF (ci := 7) (k := 31) F hH hS rfl (by decide) iX7 (by decide) (kK hOK (by decide) (by decide +kernel)) (by decide) tyX7 tyX7_ok nmX7 rfl (ty := tyX7 31) (fun _ => rfl) (fun _ => rfl) rfl hini rfl rfl k57 dX7_init_137 (by decide +kernel) (fun H locs hH hS => ?_)
  have hH : cH g (341) (222) H := hH
  have hcnt : s.heap.size + (16) = gZ g + (222) := by omega
  exact c_vret F hr hlk hH hS (Nat.le_of_ble_eq_true rfl) (Nat.le_of_ble_eq_true rfl) dX7_init_140

def rmX2_init : Room := { frames := 2, cells := 33, slots := 768, locals := 32 }
theorem hdX2_init : yX2_init.cls ≠ "java/lang/invoke/MethodHandle" ∧ yX2_init.cls ≠ "java/lang/invoke/VarHandle" ∧ (parseMethodDescriptor yX2_init.desc).map (fun d => d.parameters.length) = some 0 := by decide +kernel
set_option maxHeartbeats 4000000 in
set_option maxRecDepth 100000 in
theorem mk_X2_init (l : Launch) (g : gG) (t o : Nat) (hOK : gOK g) (ho : o < 180) (h1 : kT o = 2) (h2 : kT (o + 1) = 11) (h3 : nT (o + 1) = 16) (h4 : ev t = (2, o, 0, o + 1)) (h5 : cfr t (o + 1)) (hI : ∀ i, i < 16 → kT (o + 2 + 2 * i) = 0 ∧ kT (o + 2 + 2 * i + 1) = 9 ∧ nT (o + 2 + 2 * i + 1) = 32 ∧ ev (t + 1 + 2 * i) = (2, o + 2 + 2 * i, 7, o + 2 + 2 * i + 1) ∧ ev (t + 1 + 2 * i + 1) = (3, o + 1, i, o + 2 + 2 * i) ∧ cfr (t + 1 + 2 * i) (o + 2 + 2 * i) ∧ cfr (t + 1 + 2 * i) (o + 2 + 2 * i + 1) ∧ cR (t + 1 + 2 * i) o 0 = some (o + 1)) : Met l yX2_init wsX2_init rmX2_init (cPre g (t) (o + 1) [.ref (gZ g + o)]) (cQv g (t + 33) (o + 34)) (33) (768) (gA g) := by
  refine cStart (cc := cX2_init) (maxL := 2) (ret := none) (by decide) rfl (Nat.le_of_ble_eq_true rfl) ?_
  intro p e s m below meth c ls H locs F hr hlk hini hH hcnt hS hNst hl
  have hl : lv_has ls 2 [(0, .ref (gZ g + o))] := hl
  have iX0 : ∀ w ∈ u_ws RX0 TX0 15, w ∈ wsX2_init := (by decide +kernel)
  have iX2 : ∀ w ∈ u_ws RX2 TX2 3, w ∈ wsX2_init := (by decide +kernel)
  have k11 : Cond.fieldLink RX2 11 (TX2 0).1 (TX2 0).2.1 (TX2 0).2.2.1 ∈ wsX2_init := List.mem_of_getElem? (i := 5) rfl
  refine lv_aload_n F.1 F.2.1 dX2_init_0 rfl (lv_at hl 0 rfl) ?_
  refine c_obj F hl.1 (List.mem_of_getElem? (i := 1) rfl) (List.mem_of_getElem? (i := 2) rfl) (List.mem_of_getElem? (i := 3) rfl) dX2_init_1 (Nat.le_of_ble_eq_true rfl) (Nat.le_of_ble_eq_true rfl) ?_
  refine lv_aload_n F.1 F.2.1 dX2_init_4 rfl (lv_at hl 0 rfl) ?_
  refine z_bipush F dX2_init_5 (by decide) ?_
  refine c_newR (C := RX0) (ck := 11) (i := 3) (N := 16) F hH hS hcnt rfl (by decide) (List.mem_of_getElem? (i := 4) rfl) hNst.2.2.2.2.1 (by decide) rfl (by decide) (by decide) (by first | exact Nat.le_of_ble_eq_true rfl | (unfold rmX2_init; dsimp only; omega) | omega) (by first | exact Nat.le_of_ble_eq_true rfl | (unfold rmX2_init; dsimp only; omega) | omega) (kK hOK (by omega) h2) (kN hOK (by omega) h3) h5 dX2_init_7 (fun H hH hS => ?_)
  have hH : cH g (t) (o + 2) H := hH
  have hcnt : s.heap.size + (1) = gZ g + (o + 2) := by omega
  refine c_putRF (ci := 2) (k := 0) F hH hS rfl (by decide) iX2 (by omega) (kK hOK (by omega) h1) (by decide) tyX2 tyX2_ok nmX2 rfl (ty := tyX2 0) (fun _ => rfl) (fun _ => rfl) rfl hini rfl rfl k11 dX2_init_10 h4 (fun H locs hH hS => ?_)
  have hH : cH g (t + 1) (o + 2) H := hH
  have hcnt : s.heap.size + (1) = gZ g + (o + 2) := by omega
  refine z_iconst F dX2_init_13 ?_
  refine lv_istore_n (lv' := [(1, .int (iI ((0 : Nat) : Int))), (0, .ref (gZ g + o))]) F.1 F.2.1 dX2_init_14 rfl hl (by decide) rfl (fun ls hl => ?_)
  suffices hloop : ∀ (NN i tt nn cl sl : Nat) (H : Heap) (locs : List Loc) (ls : Array Slot), i ≤ 16 → 16 - i < NN → tt = t + 1 + 2 * i → nn = o + 2 + 2 * i → cl = 1 + 2 * i → sl = 16 + 47 * i → cH g tt nn H → va_S (gA g) s.heap H locs → lv_has ls 2 [(1, .int (iI ((i : Nat) : Int))), (0, .ref (gZ g + o))] →
      W p l e rmX2_init s m ([.ref (gZ g + o)] : List Value).toArray below meth c H locs cl sl (MQ below (cQv g (t + 33) (o + 34)) ([.ref (gZ g + o)] : List Value).toArray s (33) (768) (gA g)) (F0 m 15 ls []) by
    exact hloop 17 0 (t + 1) (o + 2) 1 16 H locs ls (by omega) (by omega) rfl rfl rfl rfl hH hS hl
  clear hH hS hl hcnt
  intro NN
  induction NN with
  | zero => intro i tt nn cl sl H locs ls _ h; exact absurd h (by omega)
  | succ NN ih =>
    intro i tt nn cl sl H locs ls hi hNN htt hnn hcl hsl hH hS hl
    have hcnt : s.heap.size + cl = gZ g + nn := by omega
    refine lv_iload_n F.1 F.2.1 dX2_init_15 rfl (lv_at hl 0 rfl) ?_
    refine z_bipush F dX2_init_16 (by decide) ?_
    refine z_icmp_ge (tgt := 40) F dX2_init_18 (by decide) ⟨by omega, by omega⟩ ⟨by decide, by decide⟩ (fun hc => ?_) (fun hc => ?_)
    · have e1 : tt = t + 33 := by omega
      have e2 : nn = o + 34 := by omega
      subst e1; subst e2
      exact c_vret F hr hlk hH hS (by omega) (by omega) dX2_init_40
    obtain ⟨a1, a2, a3, a4, a5, a6, a7, a8⟩ := hI i (by omega)
    subst htt; subst hnn
    refine lv_aload_n F.1 F.2.1 dX2_init_21 rfl (lv_at hl 1 rfl) ?_
    refine g_getR (ci := 2) (k := 0) (gFix_n F) hH.1 rfl (by decide) iX2 (gO_n (by omega) (kK hOK (by omega) h1)) (by decide) rfl (b := gZ g + (o + 1)) (wR_at a8) k11 dX2_init_22 ?_
    refine lv_iload_n F.1 F.2.1 dX2_init_25 rfl (lv_at hl 0 rfl) ?_
    refine c_new (ci := 0) F hH hS hcnt rfl (by decide) iX0 tyX0 tyX0_ok df0 (kK hOK (by omega) a1) a6 (List.mem_of_getElem? (i := 4) rfl) (List.mem_of_getElem? (i := 6) rfl) (List.mem_of_getElem? (i := 7) rfl) (by first | exact Nat.le_of_ble_eq_true rfl | (unfold rmX2_init; dsimp only; omega) | omega) (by first | exact Nat.le_of_ble_eq_true rfl | (unfold rmX2_init; dsimp only; omega) | omega) dX2_init_26 (fun H hH hS => ?_)
    have hH : cH g (t + 1 + 2 * i) (o + 2 + 2 * i + 1) H := (by have hh := hH; first | exact hh | exact cH_eq (by omega) (by omega) hh)
    have hcnt : s.heap.size + (cl + 1) = gZ g + (o + 2 + 2 * i + 1) := by omega
    refine lv_dup F.1 F.2.1 dX2_init_29 rfl ?_
    refine c_callN (As := []) (rest := [.ref (gZ g + (o + 2 + 2 * i)), .int (iI ((i : Nat) : Int)), .ref (gZ g + (o + 1))]) (mc := 1) (ms := 32) F hNst hl.1 hH hS hcnt (mk_X0_init l g (t + 1 + 2 * i) (o + 2 + 2 * i) hOK (by omega) a1 a2 a3 a4 a7) ⟨va_cnB 0 F.2.2.2.2.1 gX2_init_X0_init_n17 rfl rfl rfl hNst.2.2.2.1 (F.2.2.2.2.1 _ (List.mem_of_getElem? (i := 7) rfl)) hdX0_init ⟨Nat.le_of_ble_eq_true rfl, Nat.le_of_ble_eq_true rfl⟩, rfl, F.2.2.2.2.1 _ (List.mem_of_getElem? (i := 8) rfl)⟩ rfl rfl (Nat.le_of_ble_eq_true rfl) dX2_init_30 ⟨(by first | exact Nat.le_of_ble_eq_true rfl | (unfold rmX2_init; dsimp only; omega) | omega), (by first | exact Nat.le_of_ble_eq_true rfl | (unfold rmX2_init; dsimp only; omega) | omega)⟩ (fun H locs hH hS => ?_)
    have hH : cH g (t + 1 + 2 * i + 1) (o + 2 + 2 * i + 2) H := (by have hh := hH; first | exact hh | exact cH_eq (by omega) (by omega) hh)
    have hcnt : s.heap.size + (cl + 2) = gZ g + (o + 2 + 2 * i + 2) := by omega
    refine c_aast (ck := 11) (ci := 0) (i := 3) (N := 16) F hH hS rfl (by decide) rfl (by decide) (by omega) (by omega) (kK hOK (by omega) h2) (kN hOK (by omega) h3) (kK hOK (by omega) a1) (by omega) (by omega) dX2_init_33 a5 (fun H locs hH hS => ?_)
    have hH : cH g (t + 1 + 2 * i + 2) (o + 2 + 2 * i + 2) H := (by have hh := hH; first | exact hh | exact cH_eq (by omega) (by omega) hh)
    have hcnt : s.heap.size + (cl + 2) = gZ g + (o + 2 + 2 * i + 2) := by omega
    refine z_iinc (lv' := [(1, .int (iI (((i : Nat) : Int) + 1))), (0, .ref (gZ g + o))]) F dX2_init_34 hl (k := 0) rfl (by decide) rfl (fun ls hl => ?_)
    refine z_goto (tgt := 15) F dX2_init_37 (by decide) ?_
    exact ih (i + 1) _ _ _ _ H locs ls (by omega) (by omega) (by omega) (by omega) (by omega) (by omega) hH hS hl

def rmX6_newBags120 : Room := { frames := 2, cells := 33, slots := 11600, locals := 34 }
theorem hdX6_newBags : yX6_newBags.cls ≠ "java/lang/invoke/MethodHandle" ∧ yX6_newBags.cls ≠ "java/lang/invoke/VarHandle" ∧ (parseMethodDescriptor yX6_newBags.desc).map (fun d => d.parameters.length) = some 1 := by decide +kernel
set_option maxHeartbeats 4000000 in
set_option maxRecDepth 100000 in
theorem mk_X6_newBags120 (l : Launch) (g : gG) (t o : Nat) (hOK : gOK g) (ho : o < 190) (h2 : kT o = 12) (h3 : nT o = 16) (h5 : cfr t o) (hI : ∀ i, i < 16 → kT (o + 1 + 2 * i) = 4 ∧ kT (o + 1 + 2 * i + 1) = 9 ∧ nT (o + 1 + 2 * i + 1) = 6 * 120 ∧ ev (t + 4 * i) = (1, o + 1 + 2 * i, 0, 4) ∧ ev (t + 4 * i + 1) = (1, o + 1 + 2 * i, 1, 120) ∧ ev (t + 4 * i + 2) = (2, o + 1 + 2 * i, 2, o + 1 + 2 * i + 1) ∧ ev (t + 4 * i + 3) = (3, o, i, o + 1 + 2 * i) ∧ cfr (t + 4 * i) (o + 1 + 2 * i) ∧ cfr (t + 4 * i + 2) (o + 1 + 2 * i + 1)) : Met l yX6_newBags wsX6_newBags rmX6_newBags120 (cPre g (t) (o) [.int (iI 120)]) (cQr g (t + 64) (o + 33) (o)) (33) (11600) (gA g) := by
  refine cStart (cc := cX6_newBags) (maxL := 3) (ret := (some ((.array (.object "BagTree$Rows"))))) (by decide) rfl (Nat.le_of_ble_eq_true rfl) ?_
  intro p e s m below meth c ls H locs F hr hlk hini hH hcnt hS hNst hl
  have hl : lv_has ls 3 [(0, .int (iI 120))] := hl
  have iX4 : ∀ w ∈ u_ws RX4 TX4 4, w ∈ wsX6_newBags := (by decide +kernel)
  refine z_bipush F dX6_newBags_0 (by decide) ?_
  refine c_newR (C := RX4) (ck := 12) (i := 4) (N := 16) F hH hS hcnt rfl (by decide) (List.mem_of_getElem? (i := 1) rfl) hNst.2.2.2.2.2 (by decide) rfl (by decide) (by decide) (by first | exact Nat.le_of_ble_eq_true rfl | (unfold rmX6_newBags120; dsimp only; omega) | omega) (by first | exact Nat.le_of_ble_eq_true rfl | (unfold rmX6_newBags120; dsimp only; omega) | omega) (kK hOK (by omega) h2) (kN hOK (by omega) h3) h5 dX6_newBags_2 (fun H hH hS => ?_)
  have hH : cH g (t) (o + 1) H := hH
  have hcnt : s.heap.size + (1) = gZ g + (o + 1) := by omega
  refine lv_astore_n (lv' := [(1, .ref (gZ g + o)), (0, .int (iI 120))]) F.1 F.2.1 dX6_newBags_5 rfl hl (by decide) rfl (fun ls hl => ?_)
  refine z_iconst F dX6_newBags_6 ?_
  refine lv_istore_n (lv' := [(2, .int (iI ((0 : Nat) : Int))), (1, .ref (gZ g + o)), (0, .int (iI 120))]) F.1 F.2.1 dX6_newBags_7 rfl hl (by decide) rfl (fun ls hl => ?_)
  suffices hloop : ∀ (NN i tt nn cl sl : Nat) (H : Heap) (locs : List Loc) (ls : Array Slot), i ≤ 16 → 16 - i < NN → tt = t + 4 * i → nn = o + 1 + 2 * i → cl = 1 + 2 * i → sl = 16 + 724 * i → cH g tt nn H → va_S (gA g) s.heap H locs → lv_has ls 3 [(2, .int (iI ((i : Nat) : Int))), (1, .ref (gZ g + o)), (0, .int (iI 120))] →
      W p l e rmX6_newBags120 s m ([.int (iI 120)] : List Value).toArray below meth c H locs cl sl (MQ below (cQr g (t + 64) (o + 33) (o)) ([.int (iI 120)] : List Value).toArray s (33) (11600) (gA g)) (F0 m 8 ls []) by
    exact hloop 17 0 t (o + 1) 1 16 H locs ls (by omega) (by omega) rfl rfl rfl rfl hH hS hl
  clear hH hS hl hcnt
  intro NN
  induction NN with
  | zero => intro i tt nn cl sl H locs ls _ h; exact absurd h (by omega)
  | succ NN ih =>
    intro i tt nn cl sl H locs ls hi hNN htt hnn hcl hsl hH hS hl
    have hcnt : s.heap.size + cl = gZ g + nn := by omega
    refine lv_iload_n F.1 F.2.1 dX6_newBags_8 rfl (lv_at hl 0 rfl) ?_
    refine z_bipush F dX6_newBags_9 (by decide) ?_
    refine z_icmp_ge (tgt := 32) F dX6_newBags_11 (by decide) ⟨by omega, by omega⟩ ⟨by decide, by decide⟩ (fun hc => ?_) (fun hc => ?_)
    · have e1 : tt = t + 64 := by omega
      have e2 : nn = o + 33 := by omega
      subst e1; subst e2
      refine lv_aload_n F.1 F.2.1 dX6_newBags_32 rfl (lv_at hl 1 rfl) ?_
      exact c_aret F hr (Or.inr ⟨_, rfl⟩) hlk hH hS (by omega) (by omega) dX6_newBags_33
    obtain ⟨a1, a2, a3, a4, a5, a6, a7, a8, a9⟩ := hI i (by omega)
    subst htt; subst hnn
    refine lv_aload_n F.1 F.2.1 dX6_newBags_14 rfl (lv_at hl 1 rfl) ?_
    refine lv_iload_n F.1 F.2.1 dX6_newBags_15 rfl (lv_at hl 0 rfl) ?_
    refine c_new (ci := 4) F hH hS hcnt rfl (by decide) iX4 tyX4 tyX4_ok df4 (kK hOK (by omega) a1) a8 (List.mem_of_getElem? (i := 1) rfl) (List.mem_of_getElem? (i := 2) rfl) (List.mem_of_getElem? (i := 3) rfl) (by first | exact Nat.le_of_ble_eq_true rfl | (unfold rmX6_newBags120; dsimp only; omega) | omega) (by first | exact Nat.le_of_ble_eq_true rfl | (unfold rmX6_newBags120; dsimp only; omega) | omega) dX6_newBags_16 (fun H hH hS => ?_)
    have hH : cH g (t + 4 * i) (o + 1 + 2 * i + 1) H := hH
    have hcnt : s.heap.size + (cl + 1) = gZ g + (o + 1 + 2 * i + 1) := by omega
    refine lv_dup F.1 F.2.1 dX6_newBags_19 rfl ?_
    refine z_iconst F dX6_newBags_20 ?_
    refine lv_iload_n F.1 F.2.1 dX6_newBags_21 rfl (lv_at hl 2 rfl) ?_
    refine c_callI (As := [.int (iI 4), .int (iI 120)]) (rest := [.ref (gZ g + (o + 1 + 2 * i)), .int (iI ((i : Nat) : Int)), .ref (gZ g + o)]) (mc := 1) (ms := 720) F hNst hl.1 hH hS hcnt (mk_X4_init l g (t + 4 * i) (o + 1 + 2 * i) 4 120 hOK (by omega) a1 a2 a3 a4 a5 a6 a9 (by decide)) (cwI 2 F.2.2.2.2.1 gX6_newBags_X4_init rfl rfl rfl (F.2.2.2.2.1 _ (List.mem_of_getElem? (i := 3) rfl)) (F.2.2.2.2.1 _ (List.mem_of_getElem? (i := 4) rfl)) (F.2.2.2.2.1 _ (List.mem_of_getElem? (i := 5) rfl)) rfl hdX4_init ⟨Nat.le_of_ble_eq_true rfl, Nat.le_of_ble_eq_true rfl⟩) rfl rfl (Nat.le_of_ble_eq_true rfl) dX6_newBags_22 ⟨(by first | exact Nat.le_of_ble_eq_true rfl | (unfold rmX6_newBags120; dsimp only; omega) | omega), (by first | exact Nat.le_of_ble_eq_true rfl | (unfold rmX6_newBags120; dsimp only; omega) | omega)⟩ (fun H locs hH hS => ?_)
    have hH : cH g (t + 4 * i + 3) (o + 1 + 2 * i + 2) H := hH
    have hcnt : s.heap.size + (cl + 2) = gZ g + (o + 1 + 2 * i + 2) := by omega
    refine c_aast (ck := 12) (ci := 4) (i := 4) (N := 16) F hH hS rfl (by decide) rfl (by decide) (by omega) (by omega) (kK hOK (by omega) h2) (kN hOK (by omega) h3) (kK hOK (by omega) a1) (by omega) (by omega) dX6_newBags_25 a7 (fun H locs hH hS => ?_)
    have hH : cH g (t + 4 * i + 4) (o + 1 + 2 * i + 2) H := hH
    have hcnt : s.heap.size + (cl + 2) = gZ g + (o + 1 + 2 * i + 2) := by omega
    refine z_iinc (lv' := [(2, .int (iI (((i : Nat) : Int) + 1))), (1, .ref (gZ g + o)), (0, .int (iI 120))]) F dX6_newBags_26 hl (k := 0) rfl (by decide) rfl (fun ls hl => ?_)
    refine z_goto (tgt := 8) F dX6_newBags_29 (by decide) ?_
    exact ih (i + 1) _ _ _ _ H locs ls (by omega) (by omega) (by omega) (by omega) (by omega) (by omega) hH hS hl

def rmX6_newBags240 : Room := { frames := 2, cells := 33, slots := 23120, locals := 34 }
set_option maxHeartbeats 4000000 in
set_option maxRecDepth 100000 in
theorem mk_X6_newBags240 (l : Launch) (g : gG) (t o : Nat) (hOK : gOK g) (ho : o < 190) (h2 : kT o = 12) (h3 : nT o = 16) (h5 : cfr t o) (hI : ∀ i, i < 16 → kT (o + 1 + 2 * i) = 4 ∧ kT (o + 1 + 2 * i + 1) = 9 ∧ nT (o + 1 + 2 * i + 1) = 6 * 240 ∧ ev (t + 4 * i) = (1, o + 1 + 2 * i, 0, 4) ∧ ev (t + 4 * i + 1) = (1, o + 1 + 2 * i, 1, 240) ∧ ev (t + 4 * i + 2) = (2, o + 1 + 2 * i, 2, o + 1 + 2 * i + 1) ∧ ev (t + 4 * i + 3) = (3, o, i, o + 1 + 2 * i) ∧ cfr (t + 4 * i) (o + 1 + 2 * i) ∧ cfr (t + 4 * i + 2) (o + 1 + 2 * i + 1)) : Met l yX6_newBags wsX6_newBags rmX6_newBags240 (cPre g (t) (o) [.int (iI 240)]) (cQr g (t + 64) (o + 33) (o)) (33) (23120) (gA g) := by
  refine cStart (cc := cX6_newBags) (maxL := 3) (ret := (some ((.array (.object "BagTree$Rows"))))) (by decide) rfl (Nat.le_of_ble_eq_true rfl) ?_
  intro p e s m below meth c ls H locs F hr hlk hini hH hcnt hS hNst hl
  have hl : lv_has ls 3 [(0, .int (iI 240))] := hl
  have iX4 : ∀ w ∈ u_ws RX4 TX4 4, w ∈ wsX6_newBags := (by decide +kernel)
  refine z_bipush F dX6_newBags_0 (by decide) ?_
  refine c_newR (C := RX4) (ck := 12) (i := 4) (N := 16) F hH hS hcnt rfl (by decide) (List.mem_of_getElem? (i := 1) rfl) hNst.2.2.2.2.2 (by decide) rfl (by decide) (by decide) (by first | exact Nat.le_of_ble_eq_true rfl | (unfold rmX6_newBags240; dsimp only; omega) | omega) (by first | exact Nat.le_of_ble_eq_true rfl | (unfold rmX6_newBags240; dsimp only; omega) | omega) (kK hOK (by omega) h2) (kN hOK (by omega) h3) h5 dX6_newBags_2 (fun H hH hS => ?_)
  have hH : cH g (t) (o + 1) H := hH
  have hcnt : s.heap.size + (1) = gZ g + (o + 1) := by omega
  refine lv_astore_n (lv' := [(1, .ref (gZ g + o)), (0, .int (iI 240))]) F.1 F.2.1 dX6_newBags_5 rfl hl (by decide) rfl (fun ls hl => ?_)
  refine z_iconst F dX6_newBags_6 ?_
  refine lv_istore_n (lv' := [(2, .int (iI ((0 : Nat) : Int))), (1, .ref (gZ g + o)), (0, .int (iI 240))]) F.1 F.2.1 dX6_newBags_7 rfl hl (by decide) rfl (fun ls hl => ?_)
  suffices hloop : ∀ (NN i tt nn cl sl : Nat) (H : Heap) (locs : List Loc) (ls : Array Slot), i ≤ 16 → 16 - i < NN → tt = t + 4 * i → nn = o + 1 + 2 * i → cl = 1 + 2 * i → sl = 16 + 1444 * i → cH g tt nn H → va_S (gA g) s.heap H locs → lv_has ls 3 [(2, .int (iI ((i : Nat) : Int))), (1, .ref (gZ g + o)), (0, .int (iI 240))] →
      W p l e rmX6_newBags240 s m ([.int (iI 240)] : List Value).toArray below meth c H locs cl sl (MQ below (cQr g (t + 64) (o + 33) (o)) ([.int (iI 240)] : List Value).toArray s (33) (23120) (gA g)) (F0 m 8 ls []) by
    exact hloop 17 0 t (o + 1) 1 16 H locs ls (by omega) (by omega) rfl rfl rfl rfl hH hS hl
  clear hH hS hl hcnt
  intro NN
  induction NN with
  | zero => intro i tt nn cl sl H locs ls _ h; exact absurd h (by omega)
  | succ NN ih =>
    intro i tt nn cl sl H locs ls hi hNN htt hnn hcl hsl hH hS hl
    have hcnt : s.heap.size + cl = gZ g + nn := by omega
    refine lv_iload_n F.1 F.2.1 dX6_newBags_8 rfl (lv_at hl 0 rfl) ?_
    refine z_bipush F dX6_newBags_9 (by decide) ?_
    refine z_icmp_ge (tgt := 32) F dX6_newBags_11 (by decide) ⟨by omega, by omega⟩ ⟨by decide, by decide⟩ (fun hc => ?_) (fun hc => ?_)
    · have e1 : tt = t + 64 := by omega
      have e2 : nn = o + 33 := by omega
      subst e1; subst e2
      refine lv_aload_n F.1 F.2.1 dX6_newBags_32 rfl (lv_at hl 1 rfl) ?_
      exact c_aret F hr (Or.inr ⟨_, rfl⟩) hlk hH hS (by omega) (by omega) dX6_newBags_33
    obtain ⟨a1, a2, a3, a4, a5, a6, a7, a8, a9⟩ := hI i (by omega)
    subst htt; subst hnn
    refine lv_aload_n F.1 F.2.1 dX6_newBags_14 rfl (lv_at hl 1 rfl) ?_
    refine lv_iload_n F.1 F.2.1 dX6_newBags_15 rfl (lv_at hl 0 rfl) ?_
    refine c_new (ci := 4) F hH hS hcnt rfl (by decide) iX4 tyX4 tyX4_ok df4 (kK hOK (by omega) a1) a8 (List.mem_of_getElem? (i := 1) rfl) (List.mem_of_getElem? (i := 2) rfl) (List.mem_of_getElem? (i := 3) rfl) (by first | exact Nat.le_of_ble_eq_true rfl | (unfold rmX6_newBags240; dsimp only; omega) | omega) (by first | exact Nat.le_of_ble_eq_true rfl | (unfold rmX6_newBags240; dsimp only; omega) | omega) dX6_newBags_16 (fun H hH hS => ?_)
    have hH : cH g (t + 4 * i) (o + 1 + 2 * i + 1) H := hH
    have hcnt : s.heap.size + (cl + 1) = gZ g + (o + 1 + 2 * i + 1) := by omega
    refine lv_dup F.1 F.2.1 dX6_newBags_19 rfl ?_
    refine z_iconst F dX6_newBags_20 ?_
    refine lv_iload_n F.1 F.2.1 dX6_newBags_21 rfl (lv_at hl 2 rfl) ?_
    refine c_callI (As := [.int (iI 4), .int (iI 240)]) (rest := [.ref (gZ g + (o + 1 + 2 * i)), .int (iI ((i : Nat) : Int)), .ref (gZ g + o)]) (mc := 1) (ms := 1440) F hNst hl.1 hH hS hcnt (mk_X4_init l g (t + 4 * i) (o + 1 + 2 * i) 4 240 hOK (by omega) a1 a2 a3 a4 a5 a6 a9 (by decide)) (cwI 2 F.2.2.2.2.1 gX6_newBags_X4_init rfl rfl rfl (F.2.2.2.2.1 _ (List.mem_of_getElem? (i := 3) rfl)) (F.2.2.2.2.1 _ (List.mem_of_getElem? (i := 4) rfl)) (F.2.2.2.2.1 _ (List.mem_of_getElem? (i := 5) rfl)) rfl hdX4_init ⟨Nat.le_of_ble_eq_true rfl, Nat.le_of_ble_eq_true rfl⟩) rfl rfl (Nat.le_of_ble_eq_true rfl) dX6_newBags_22 ⟨(by first | exact Nat.le_of_ble_eq_true rfl | (unfold rmX6_newBags240; dsimp only; omega) | omega), (by first | exact Nat.le_of_ble_eq_true rfl | (unfold rmX6_newBags240; dsimp only; omega) | omega)⟩ (fun H locs hH hS => ?_)
    have hH : cH g (t + 4 * i + 3) (o + 1 + 2 * i + 2) H := hH
    have hcnt : s.heap.size + (cl + 2) = gZ g + (o + 1 + 2 * i + 2) := by omega
    refine c_aast (ck := 12) (ci := 4) (i := 4) (N := 16) F hH hS rfl (by decide) rfl (by decide) (by omega) (by omega) (kK hOK (by omega) h2) (kN hOK (by omega) h3) (kK hOK (by omega) a1) (by omega) (by omega) dX6_newBags_25 a7 (fun H locs hH hS => ?_)
    have hH : cH g (t + 4 * i + 4) (o + 1 + 2 * i + 2) H := hH
    have hcnt : s.heap.size + (cl + 2) = gZ g + (o + 1 + 2 * i + 2) := by omega
    refine z_iinc (lv' := [(2, .int (iI (((i : Nat) : Int) + 1))), (1, .ref (gZ g + o)), (0, .int (iI 240))]) F dX6_newBags_26 hl (k := 0) rfl (by decide) rfl (fun ls hl => ?_)
    refine z_goto (tgt := 8) F dX6_newBags_29 (by decide) ?_
    exact ih (i + 1) _ _ _ _ H locs ls (by omega) (by omega) (by omega) (by omega) (by omega) (by omega) hH hS hl

def rmX6_newHistory : Room := { frames := 2, cells := 17, slots := 1960, locals := 34 }
theorem hdX6_newHistory : yX6_newHistory.cls ≠ "java/lang/invoke/MethodHandle" ∧ yX6_newHistory.cls ≠ "java/lang/invoke/VarHandle" ∧ (parseMethodDescriptor yX6_newHistory.desc).map (fun d => d.parameters.length) = some 0 := by decide +kernel
set_option maxHeartbeats 4000000 in
set_option maxRecDepth 100000 in
theorem mk_X6_newHistory (l : Launch) (g : gG) (t o : Nat) (hOK : gOK g) (ho : o < 190) (h2 : kT o = 12) (h3 : nT o = 8) (h5 : cfr t o) (hI : ∀ i, i < 8 → kT (o + 1 + 2 * i) = 4 ∧ kT (o + 1 + 2 * i + 1) = 9 ∧ nT (o + 1 + 2 * i + 1) = 6 * 40 ∧ ev (t + 4 * i) = (1, o + 1 + 2 * i, 0, 5) ∧ ev (t + 4 * i + 1) = (1, o + 1 + 2 * i, 1, 40) ∧ ev (t + 4 * i + 2) = (2, o + 1 + 2 * i, 2, o + 1 + 2 * i + 1) ∧ ev (t + 4 * i + 3) = (3, o, i, o + 1 + 2 * i) ∧ cfr (t + 4 * i) (o + 1 + 2 * i) ∧ cfr (t + 4 * i + 2) (o + 1 + 2 * i + 1)) : Met l yX6_newHistory wsX6_newHistory rmX6_newHistory (cPre g (t) (o) []) (cQr g (t + 32) (o + 17) (o)) (17) (1960) (gA g) := by
  refine cStart (cc := cX6_newHistory) (maxL := 2) (ret := (some ((.array (.object "BagTree$Rows"))))) (by decide) rfl (Nat.le_of_ble_eq_true rfl) ?_
  intro p e s m below meth c ls H locs F hr hlk hini hH hcnt hS hNst hl
  have hl : lv_has ls 2 [] := hl
  have iX4 : ∀ w ∈ u_ws RX4 TX4 4, w ∈ wsX6_newHistory := (by decide +kernel)
  refine z_bipush F dX6_newHistory_0 (by decide) ?_
  refine c_newR (C := RX4) (ck := 12) (i := 4) (N := 8) F hH hS hcnt rfl (by decide) (List.mem_of_getElem? (i := 1) rfl) hNst.2.2.2.2.2 (by decide) rfl (by decide) (by decide) (by first | exact Nat.le_of_ble_eq_true rfl | (unfold rmX6_newHistory; dsimp only; omega) | omega) (by first | exact Nat.le_of_ble_eq_true rfl | (unfold rmX6_newHistory; dsimp only; omega) | omega) (kK hOK (by omega) h2) (kN hOK (by omega) h3) h5 dX6_newHistory_2 (fun H hH hS => ?_)
  have hH : cH g (t) (o + 1) H := hH
  have hcnt : s.heap.size + (1) = gZ g + (o + 1) := by omega
  refine lv_astore_n (lv' := [(0, .ref (gZ g + o))]) F.1 F.2.1 dX6_newHistory_5 rfl hl (by decide) rfl (fun ls hl => ?_)
  refine z_iconst F dX6_newHistory_6 ?_
  refine lv_istore_n (lv' := [(1, .int (iI ((0 : Nat) : Int))), (0, .ref (gZ g + o))]) F.1 F.2.1 dX6_newHistory_7 rfl hl (by decide) rfl (fun ls hl => ?_)
  suffices hloop : ∀ (NN i tt nn cl sl : Nat) (H : Heap) (locs : List Loc) (ls : Array Slot), i ≤ 8 → 8 - i < NN → tt = t + 4 * i → nn = o + 1 + 2 * i → cl = 1 + 2 * i → sl = 8 + 244 * i → cH g tt nn H → va_S (gA g) s.heap H locs → lv_has ls 2 [(1, .int (iI ((i : Nat) : Int))), (0, .ref (gZ g + o))] →
      W p l e rmX6_newHistory s m ([] : List Value).toArray below meth c H locs cl sl (MQ below (cQr g (t + 32) (o + 17) (o)) ([] : List Value).toArray s (17) (1960) (gA g)) (F0 m 8 ls []) by
    exact hloop 9 0 t (o + 1) 1 8 H locs ls (by omega) (by omega) rfl rfl rfl rfl hH hS hl
  clear hH hS hl hcnt
  intro NN
  induction NN with
  | zero => intro i tt nn cl sl H locs ls _ h; exact absurd h (by omega)
  | succ NN ih =>
    intro i tt nn cl sl H locs ls hi hNN htt hnn hcl hsl hH hS hl
    have hcnt : s.heap.size + cl = gZ g + nn := by omega
    refine lv_iload_n F.1 F.2.1 dX6_newHistory_8 rfl (lv_at hl 0 rfl) ?_
    refine z_bipush F dX6_newHistory_9 (by decide) ?_
    refine z_icmp_ge (tgt := 33) F dX6_newHistory_11 (by decide) ⟨by omega, by omega⟩ ⟨by decide, by decide⟩ (fun hc => ?_) (fun hc => ?_)
    · have e1 : tt = t + 32 := by omega
      have e2 : nn = o + 17 := by omega
      subst e1; subst e2
      refine lv_aload_n F.1 F.2.1 dX6_newHistory_33 rfl (lv_at hl 1 rfl) ?_
      exact c_aret F hr (Or.inr ⟨_, rfl⟩) hlk hH hS (by omega) (by omega) dX6_newHistory_34
    obtain ⟨a1, a2, a3, a4, a5, a6, a7, a8, a9⟩ := hI i (by omega)
    subst htt; subst hnn
    refine lv_aload_n F.1 F.2.1 dX6_newHistory_14 rfl (lv_at hl 1 rfl) ?_
    refine lv_iload_n F.1 F.2.1 dX6_newHistory_15 rfl (lv_at hl 0 rfl) ?_
    refine c_new (ci := 4) F hH hS hcnt rfl (by decide) iX4 tyX4 tyX4_ok df4 (kK hOK (by omega) a1) a8 (List.mem_of_getElem? (i := 1) rfl) (List.mem_of_getElem? (i := 2) rfl) (List.mem_of_getElem? (i := 3) rfl) (by first | exact Nat.le_of_ble_eq_true rfl | (unfold rmX6_newHistory; dsimp only; omega) | omega) (by first | exact Nat.le_of_ble_eq_true rfl | (unfold rmX6_newHistory; dsimp only; omega) | omega) dX6_newHistory_16 (fun H hH hS => ?_)
    have hH : cH g (t + 4 * i) (o + 1 + 2 * i + 1) H := hH
    have hcnt : s.heap.size + (cl + 1) = gZ g + (o + 1 + 2 * i + 1) := by omega
    refine lv_dup F.1 F.2.1 dX6_newHistory_19 rfl ?_
    refine z_iconst F dX6_newHistory_20 ?_
    refine z_bipush F dX6_newHistory_21 (by decide) ?_
    refine c_callI (As := [.int (iI 5), .int (iI 40)]) (rest := [.ref (gZ g + (o + 1 + 2 * i)), .int (iI ((i : Nat) : Int)), .ref (gZ g + o)]) (mc := 1) (ms := 240) F hNst hl.1 hH hS hcnt (mk_X4_init l g (t + 4 * i) (o + 1 + 2 * i) 5 40 hOK (by omega) a1 a2 a3 a4 a5 a6 a9 (by decide)) (cwI 2 F.2.2.2.2.1 gX6_newHistory_X4_init rfl rfl rfl (F.2.2.2.2.1 _ (List.mem_of_getElem? (i := 3) rfl)) (F.2.2.2.2.1 _ (List.mem_of_getElem? (i := 4) rfl)) (F.2.2.2.2.1 _ (List.mem_of_getElem? (i := 5) rfl)) rfl hdX4_init ⟨Nat.le_of_ble_eq_true rfl, Nat.le_of_ble_eq_true rfl⟩) rfl rfl (Nat.le_of_ble_eq_true rfl) dX6_newHistory_23 ⟨(by first | exact Nat.le_of_ble_eq_true rfl | (unfold rmX6_newHistory; dsimp only; omega) | omega), (by first | exact Nat.le_of_ble_eq_true rfl | (unfold rmX6_newHistory; dsimp only; omega) | omega)⟩ (fun H locs hH hS => ?_)
    have hH : cH g (t + 4 * i + 3) (o + 1 + 2 * i + 2) H := hH
    have hcnt : s.heap.size + (cl + 2) = gZ g + (o + 1 + 2 * i + 2) := by omega
    refine c_aast (ck := 12) (ci := 4) (i := 4) (N := 8) F hH hS rfl (by decide) rfl (by decide) (by omega) (by omega) (kK hOK (by omega) h2) (kN hOK (by omega) h3) (kK hOK (by omega) a1) (by omega) (by omega) dX6_newHistory_26 a7 (fun H locs hH hS => ?_)
    have hH : cH g (t + 4 * i + 4) (o + 1 + 2 * i + 2) H := hH
    have hcnt : s.heap.size + (cl + 2) = gZ g + (o + 1 + 2 * i + 2) := by omega
    refine z_iinc (lv' := [(1, .int (iI (((i : Nat) : Int) + 1))), (0, .ref (gZ g + o))]) F dX6_newHistory_27 hl (k := 0) rfl (by decide) rfl (fun ls hl => ?_)
    refine z_goto (tgt := 8) F dX6_newHistory_30 (by decide) ?_
    exact ih (i + 1) _ _ _ _ H locs ls (by omega) (by omega) (by omega) (by omega) (by omega) (by omega) hH hS hl

theorem pl_8 : ∀ i, i < 16 → kT (8 + 2 + 2 * i) = 0 ∧ kT (8 + 2 + 2 * i + 1) = 9 ∧ nT (8 + 2 + 2 * i + 1) = 32 ∧ ev (6 + 1 + 2 * i) = (2, 8 + 2 + 2 * i, 7, 8 + 2 + 2 * i + 1) ∧ ev (6 + 1 + 2 * i + 1) = (3, 8 + 1, i, 8 + 2 + 2 * i) ∧ cfr (6 + 1 + 2 * i) (8 + 2 + 2 * i) ∧ cfr (6 + 1 + 2 * i) (8 + 2 + 2 * i + 1) ∧ cR (6 + 1 + 2 * i) 8 0 = some (8 + 1) := by unfold cfr; decide +kernel
theorem pl_42 : ∀ i, i < 16 → kT (42 + 2 + 2 * i) = 0 ∧ kT (42 + 2 + 2 * i + 1) = 9 ∧ nT (42 + 2 + 2 * i + 1) = 32 ∧ ev (42 + 1 + 2 * i) = (2, 42 + 2 + 2 * i, 7, 42 + 2 + 2 * i + 1) ∧ ev (42 + 1 + 2 * i + 1) = (3, 42 + 1, i, 42 + 2 + 2 * i) ∧ cfr (42 + 1 + 2 * i) (42 + 2 + 2 * i) ∧ cfr (42 + 1 + 2 * i) (42 + 2 + 2 * i + 1) ∧ cR (42 + 1 + 2 * i) 42 0 = some (42 + 1) := by unfold cfr; decide +kernel
theorem rwa_80 : ∀ i, i < 16 → kT (80 + 1 + 2 * i) = 4 ∧ kT (80 + 1 + 2 * i + 1) = 9 ∧ nT (80 + 1 + 2 * i + 1) = 6 * 120 := by decide +kernel
theorem rwb_80 : ∀ i, i < 16 → ev (80 + 4 * i) = (1, 80 + 1 + 2 * i, 0, 4) ∧ ev (80 + 4 * i + 1) = (1, 80 + 1 + 2 * i, 1, 120) ∧ ev (80 + 4 * i + 2) = (2, 80 + 1 + 2 * i, 2, 80 + 1 + 2 * i + 1) ∧ ev (80 + 4 * i + 3) = (3, 80, i, 80 + 1 + 2 * i) := by decide +kernel
theorem rwc_80 : ∀ i, i < 16 → cfr (80 + 4 * i) (80 + 1 + 2 * i) ∧ cfr (80 + 4 * i + 2) (80 + 1 + 2 * i + 1) := by unfold cfr; decide +kernel
theorem rw_80 : ∀ i, i < 16 → kT (80 + 1 + 2 * i) = 4 ∧ kT (80 + 1 + 2 * i + 1) = 9 ∧ nT (80 + 1 + 2 * i + 1) = 6 * 120 ∧ ev (80 + 4 * i) = (1, 80 + 1 + 2 * i, 0, 4) ∧ ev (80 + 4 * i + 1) = (1, 80 + 1 + 2 * i, 1, 120) ∧ ev (80 + 4 * i + 2) = (2, 80 + 1 + 2 * i, 2, 80 + 1 + 2 * i + 1) ∧ ev (80 + 4 * i + 3) = (3, 80, i, 80 + 1 + 2 * i) ∧ cfr (80 + 4 * i) (80 + 1 + 2 * i) ∧ cfr (80 + 4 * i + 2) (80 + 1 + 2 * i + 1) := fun i hi => ⟨(rwa_80 i hi).1, (rwa_80 i hi).2.1, (rwa_80 i hi).2.2, (rwb_80 i hi).1, (rwb_80 i hi).2.1, (rwb_80 i hi).2.2.1, (rwb_80 i hi).2.2.2, rwc_80 i hi⟩
theorem rwa_113 : ∀ i, i < 16 → kT (113 + 1 + 2 * i) = 4 ∧ kT (113 + 1 + 2 * i + 1) = 9 ∧ nT (113 + 1 + 2 * i + 1) = 6 * 120 := by decide +kernel
theorem rwb_113 : ∀ i, i < 16 → ev (145 + 4 * i) = (1, 113 + 1 + 2 * i, 0, 4) ∧ ev (145 + 4 * i + 1) = (1, 113 + 1 + 2 * i, 1, 120) ∧ ev (145 + 4 * i + 2) = (2, 113 + 1 + 2 * i, 2, 113 + 1 + 2 * i + 1) ∧ ev (145 + 4 * i + 3) = (3, 113, i, 113 + 1 + 2 * i) := by decide +kernel
theorem rwc_113 : ∀ i, i < 16 → cfr (145 + 4 * i) (113 + 1 + 2 * i) ∧ cfr (145 + 4 * i + 2) (113 + 1 + 2 * i + 1) := by unfold cfr; decide +kernel
theorem rw_113 : ∀ i, i < 16 → kT (113 + 1 + 2 * i) = 4 ∧ kT (113 + 1 + 2 * i + 1) = 9 ∧ nT (113 + 1 + 2 * i + 1) = 6 * 120 ∧ ev (145 + 4 * i) = (1, 113 + 1 + 2 * i, 0, 4) ∧ ev (145 + 4 * i + 1) = (1, 113 + 1 + 2 * i, 1, 120) ∧ ev (145 + 4 * i + 2) = (2, 113 + 1 + 2 * i, 2, 113 + 1 + 2 * i + 1) ∧ ev (145 + 4 * i + 3) = (3, 113, i, 113 + 1 + 2 * i) ∧ cfr (145 + 4 * i) (113 + 1 + 2 * i) ∧ cfr (145 + 4 * i + 2) (113 + 1 + 2 * i + 1) := fun i hi => ⟨(rwa_113 i hi).1, (rwa_113 i hi).2.1, (rwa_113 i hi).2.2, (rwb_113 i hi).1, (rwb_113 i hi).2.1, (rwb_113 i hi).2.2.1, (rwb_113 i hi).2.2.2, rwc_113 i hi⟩
theorem rwa_146 : ∀ i, i < 16 → kT (146 + 1 + 2 * i) = 4 ∧ kT (146 + 1 + 2 * i + 1) = 9 ∧ nT (146 + 1 + 2 * i + 1) = 6 * 240 := by decide +kernel
theorem rwb_146 : ∀ i, i < 16 → ev (210 + 4 * i) = (1, 146 + 1 + 2 * i, 0, 4) ∧ ev (210 + 4 * i + 1) = (1, 146 + 1 + 2 * i, 1, 240) ∧ ev (210 + 4 * i + 2) = (2, 146 + 1 + 2 * i, 2, 146 + 1 + 2 * i + 1) ∧ ev (210 + 4 * i + 3) = (3, 146, i, 146 + 1 + 2 * i) := by decide +kernel
theorem rwc_146 : ∀ i, i < 16 → cfr (210 + 4 * i) (146 + 1 + 2 * i) ∧ cfr (210 + 4 * i + 2) (146 + 1 + 2 * i + 1) := by unfold cfr; decide +kernel
theorem rw_146 : ∀ i, i < 16 → kT (146 + 1 + 2 * i) = 4 ∧ kT (146 + 1 + 2 * i + 1) = 9 ∧ nT (146 + 1 + 2 * i + 1) = 6 * 240 ∧ ev (210 + 4 * i) = (1, 146 + 1 + 2 * i, 0, 4) ∧ ev (210 + 4 * i + 1) = (1, 146 + 1 + 2 * i, 1, 240) ∧ ev (210 + 4 * i + 2) = (2, 146 + 1 + 2 * i, 2, 146 + 1 + 2 * i + 1) ∧ ev (210 + 4 * i + 3) = (3, 146, i, 146 + 1 + 2 * i) ∧ cfr (210 + 4 * i) (146 + 1 + 2 * i) ∧ cfr (210 + 4 * i + 2) (146 + 1 + 2 * i + 1) := fun i hi => ⟨(rwa_146 i hi).1, (rwa_146 i hi).2.1, (rwa_146 i hi).2.2, (rwb_146 i hi).1, (rwb_146 i hi).2.1, (rwb_146 i hi).2.2.1, (rwb_146 i hi).2.2.2, rwc_146 i hi⟩
theorem rwa_188 : ∀ i, i < 8 → kT (188 + 1 + 2 * i) = 4 ∧ kT (188 + 1 + 2 * i + 1) = 9 ∧ nT (188 + 1 + 2 * i + 1) = 6 * 40 := by decide +kernel
theorem rwb_188 : ∀ i, i < 8 → ev (292 + 4 * i) = (1, 188 + 1 + 2 * i, 0, 5) ∧ ev (292 + 4 * i + 1) = (1, 188 + 1 + 2 * i, 1, 40) ∧ ev (292 + 4 * i + 2) = (2, 188 + 1 + 2 * i, 2, 188 + 1 + 2 * i + 1) ∧ ev (292 + 4 * i + 3) = (3, 188, i, 188 + 1 + 2 * i) := by decide +kernel
theorem rwc_188 : ∀ i, i < 8 → cfr (292 + 4 * i) (188 + 1 + 2 * i) ∧ cfr (292 + 4 * i + 2) (188 + 1 + 2 * i + 1) := by unfold cfr; decide +kernel
theorem rw_188 : ∀ i, i < 8 → kT (188 + 1 + 2 * i) = 4 ∧ kT (188 + 1 + 2 * i + 1) = 9 ∧ nT (188 + 1 + 2 * i + 1) = 6 * 40 ∧ ev (292 + 4 * i) = (1, 188 + 1 + 2 * i, 0, 5) ∧ ev (292 + 4 * i + 1) = (1, 188 + 1 + 2 * i, 1, 40) ∧ ev (292 + 4 * i + 2) = (2, 188 + 1 + 2 * i, 2, 188 + 1 + 2 * i + 1) ∧ ev (292 + 4 * i + 3) = (3, 188, i, 188 + 1 + 2 * i) ∧ cfr (292 + 4 * i) (188 + 1 + 2 * i) ∧ cfr (292 + 4 * i + 2) (188 + 1 + 2 * i + 1) := fun i hi => ⟨(rwa_188 i hi).1, (rwa_188 i hi).2.1, (rwa_188 i hi).2.2, (rwb_188 i hi).1, (rwb_188 i hi).2.1, (rwb_188 i hi).2.2.1, (rwb_188 i hi).2.2.2, rwc_188 i hi⟩
