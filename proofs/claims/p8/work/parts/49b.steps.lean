theorem hdX7_packed : yX7_packed.cls = RX7 ∧ yX7_packed.cls ≠ "java/lang/invoke/MethodHandle" ∧ yX7_packed.cls ≠ "java/lang/invoke/VarHandle" ∧ (parseMethodDescriptor yX7_packed.desc).map (fun d => d.parameters.length) = some 1 := by decide +kernel
theorem hdX7_isWord : yX7_isWord.cls = RX7 ∧ yX7_isWord.cls ≠ "java/lang/invoke/MethodHandle" ∧ yX7_isWord.cls ≠ "java/lang/invoke/VarHandle" ∧ (parseMethodDescriptor yX7_isWord.desc).map (fun d => d.parameters.length) = some 1 := by decide +kernel
theorem hdX7_isSign : yX7_isSign.cls = RX7 ∧ yX7_isSign.cls ≠ "java/lang/invoke/MethodHandle" ∧ yX7_isSign.cls ≠ "java/lang/invoke/VarHandle" ∧ (parseMethodDescriptor yX7_isSign.desc).map (fun d => d.parameters.length) = some 1 := by decide +kernel
theorem hdX7_mustSign : yX7_mustSign.cls = RX7 ∧ yX7_mustSign.cls ≠ "java/lang/invoke/MethodHandle" ∧ yX7_mustSign.cls ≠ "java/lang/invoke/VarHandle" ∧ (parseMethodDescriptor yX7_mustSign.desc).map (fun d => d.parameters.length) = some 1 := by decide +kernel
theorem hdX7_mustWord : yX7_mustWord.cls = RX7 ∧ yX7_mustWord.cls ≠ "java/lang/invoke/MethodHandle" ∧ yX7_mustWord.cls ≠ "java/lang/invoke/VarHandle" ∧ (parseMethodDescriptor yX7_mustWord.desc).map (fun d => d.parameters.length) = some 1 := by decide +kernel
theorem hdX7_isReserved : yX7_isReserved.cls = RX7 ∧ yX7_isReserved.cls ≠ "java/lang/invoke/MethodHandle" ∧ yX7_isReserved.cls ≠ "java/lang/invoke/VarHandle" ∧ (parseMethodDescriptor yX7_isReserved.desc).map (fun d => d.parameters.length) = some 0 := by decide +kernel
def rmX7_named : Room := { frames := 0, cells := 0, slots := 0, locals := 0 }
theorem hdX7_named : yX7_named.cls = RX7 ∧ yX7_named.cls ≠ "java/lang/invoke/MethodHandle" ∧ yX7_named.cls ≠ "java/lang/invoke/VarHandle" ∧ (parseMethodDescriptor yX7_named.desc).map (fun d => d.parameters.length) = some 1 := by decide +kernel
set_option maxHeartbeats 4000000 in
set_option maxRecDepth 100000 in
/-- named -/
theorem c_X7_named (l : Launch) (g : gG) (gh : gGh) (T : Nat → Int32) (I : gI) (R : gR) (J : gJ) (AI : gI) (AJ : gJ) (AR : gR) (mo : Nat) (lw : Int64) (hv : mInv g gh R I AI) (hm : gO g mo 7) (hT : AI (gh 50 0) = T) : gMet l g yX7_named tsX7_named rmX7_named [.ref mo, .long lw] (I, R, J, AI, AJ, AR) (gQi g (fun (z : Int) (w : gS) => I = w.1 ∧ R = w.2.1 ∧ J = w.2.2.1 ∧ AI = w.2.2.2.1 ∧ AJ = w.2.2.2.2.1 ∧ AR = w.2.2.2.2.2 ∧ (-1 ≤ z ∧ z < (I mo 5).toInt) ∧ ((0 ≤ z → AJ (gh 54 0) z.toNat = lw) ∧ (z < 0 → ∀ j : Int, 0 ≤ j → j < (I mo 5).toInt → AJ (gh 54 0) j.toNat ≠ lw)))) := by
  refine gStart (cc := cX7_named) (maxL := 4) (ret := (some (.int))) (by decide) rfl (Nat.le_of_ble_eq_true rfl) ?_
  intro p e s m below meth c ls F hr hlk hH hz hS hl
  have hl : lv_has ls 4 [(0, .ref mo), (1, .long lw)] := hl
  have hS : va_S (gA g) s.heap s.heap [] := hS
  obtain ⟨H, hHe⟩ : ∃ H : Heap, H = s.heap := ⟨_, rfl⟩
  obtain ⟨locs, hlo⟩ : ∃ k : List Loc, k = [] := ⟨_, rfl⟩
  have hH : gH g I R J AI AJ AR H := by rw [hHe]; exact hH
  have hS : va_S (gA g) s.heap H locs := by rw [hHe, hlo]; exact hS
  suffices hw : W p l e rmX7_named s m ([.ref mo, .long lw] : List Value).toArray below meth c H locs 0 0 (MQ below (gQi g (fun (z : Int) (w : gS) => I = w.1 ∧ R = w.2.1 ∧ J = w.2.2.1 ∧ AI = w.2.2.2.1 ∧ AJ = w.2.2.2.2.1 ∧ AR = w.2.2.2.2.2 ∧ (-1 ≤ z ∧ z < (I mo 5).toInt) ∧ ((0 ≤ z → AJ (gh 54 0) z.toNat = lw) ∧ (z < 0 → ∀ j : Int, 0 ≤ j → j < (I mo 5).toInt → AJ (gh 54 0) j.toNat ≠ lw)))) ([.ref mo, .long lw] : List Value).toArray s 0 0 (gA g)) (F0 m 0 ls []) by
    rw [hHe, hlo] at hw; exact hw
  clear hHe hlo
  have hb0 := mJ hv hm
  unfold mNum1 at hb0
  have iX7 : ∀ w ∈ u_ws RX7 TX7 32, w ∈ tsX7_named := fun w h => List.mem_cons_of_mem _ (inTB7 w h)
  have k184 : Cond.fieldLink RX7 184 (TX7 5).1 (TX7 5).2.1 (TX7 5).2.2.1 ∈ tsX7_named := List.mem_cons_of_mem _ fl_184
  have k20 : Cond.fieldLink RX7 20 (TX7 4).1 (TX7 4).2.1 (TX7 4).2.2.1 ∈ tsX7_named := List.mem_cons_of_mem _ fl_20
  refine z_iconst F dX7_named_0 ?_
  refine lv_istore_n (lv' := [(3, .int (iI 0)), (0, .ref mo), (1, .long lw)]) F.1 F.2.1 dX7_named_1 rfl hl (by decide) rfl (fun ls hl => ?_)
  have cut_2_0 : ∀ (NN : Nat) (k : Int) (H : Heap) (locs : List Loc) (ls : Array Slot), zr k → (0 ≤ k ∧ k ≤ (I mo 5).toInt) → (∀ j : Int, 0 ≤ j → j < k → AJ (gh 54 0) j.toNat ≠ lw) → ((I mo 5).toInt - k) < ((NN : Nat) : Int) → gH g I R J AI AJ AR H → va_S (gA g) s.heap H locs → lv_has ls 4 [(3, .int (iI k)), (0, .ref mo), (1, .long lw)] → W p l e rmX7_named s m ([.ref mo, .long lw] : List Value).toArray below meth c H locs 0 0 (MQ below (gQi g (fun (z : Int) (w : gS) => I = w.1 ∧ R = w.2.1 ∧ J = w.2.2.1 ∧ AI = w.2.2.2.1 ∧ AJ = w.2.2.2.2.1 ∧ AR = w.2.2.2.2.2 ∧ (-1 ≤ z ∧ z < (I mo 5).toInt) ∧ ((0 ≤ z → AJ (gh 54 0) z.toNat = lw) ∧ (z < 0 → ∀ j : Int, 0 ≤ j → j < (I mo 5).toInt → AJ (gh 54 0) j.toNat ≠ lw)))) ([.ref mo, .long lw] : List Value).toArray s 0 0 (gA g)) (F0 m 2 ls []) := by
    intro NN2
    induction NN2 with
    | zero =>
      intro k H locs ls zk hk hno hm2 hH hS hl
      exact absurd hm2 (by omega)
    | succ NN2 ih2 =>
      intro k H locs ls zk hk hno hm2 hH hS hl
      refine lv_iload_n F.1 F.2.1 dX7_named_2 rfl (lv_at hl 0 rfl) ?_
      refine lv_aload_n F.1 F.2.1 dX7_named_3 rfl (lv_at hl 1 rfl) ?_
      refine g_getI (ci := 7) (k := 5) F hH rfl (by decide) iX7 hm (by decide) rfl k184 dX7_named_4 ?_
      have b_2 := mJ hv hm
      unfold mNum1 at b_2
      refine z_icmp_ge (tgt := 29) F dX7_named_7 (by decide) zk (zr_t _) (fun c_3 => ?_) (fun c_3 => ?_)
      · refine z_iconst F dX7_named_29 ?_
        exact g_iret F hr hlk hH hS hz ⟨by decide, by decide⟩ ⟨rfl, rfl, rfl, rfl, rfl, rfl, by first | omega | rfl | (dsimp only; omega), by first | exact ⟨fun _ => hlc.mp (by omega), fun h => absurd h (by omega)⟩ | exact ⟨fun h => absurd h (by decide), fun _ j h1 h2 => hno j h1 (by omega)⟩⟩ dX7_named_30
      · refine lv_aload_n F.1 F.2.1 dX7_named_10 rfl (lv_at hl 1 rfl) ?_
        refine g_getR (ci := 7) (k := 4) F hH rfl (by decide) iX7 hm (by decide) rfl (b := gh 54 0) (hv.1 mo hm).2.2.2.1 k20 dX7_named_11 ?_
        refine lv_iload_n F.1 F.2.1 dX7_named_14 rfl (lv_at hl 0 rfl) ?_
        have hx15 : 0 ≤ k ∧ k < ((16 : Nat) : Int) ∧ k ≤ 2147483647 := ⟨by omega, by omega, by omega⟩
        refine g_lald F hH (hv.1 mo hm).2.2.2.2 hx15.1 hx15.2.1 hx15.2.2 dX7_named_15 ?_
        refine lv_topl (fun j_4 ej_4 => ?_)
        refine lv_lload_n F.1 F.2.1 dX7_named_16 rfl (lv_at hl 2 rfl) ?_
        refine W.lcmp F.1 F.2.1 dX7_named_17 ?_
        refine z_top (fun v_5 zv_5 ev_5 => ?_)
        have lv_5 : v_5 = 0 ↔ j_4 = lw := by rw [ev_5]; exact z_lcmp
        have hlc : v_5 = 0 ↔ AJ (gh 54 0) k.toNat = lw := by rw [← ej_4]; exact lv_5
        refine z_if_ne (tgt := 23) F dX7_named_18 (by decide) zv_5 (fun c_6 => ?_) (fun c_6 => ?_)
        · refine z_iinc (lv' := [(3, .int (iI (k + 1))), (0, .ref mo), (1, .long lw)]) F dX7_named_23 hl (k := 0) rfl (by decide) rfl (fun ls hl => ?_)
          refine z_goto (tgt := 2) F dX7_named_26 (by decide) ?_
          exact ih2 (k + 1) H locs ls ⟨by omega, by omega⟩ (by omega) (by first | exact (fun j h1 h2 => absurd h2 (by omega)) | exact (named_step hno (fun h => absurd (hlc.mpr h) (by omega)))) (by omega) hH hS (lv_sub hl [0, 1, 2] rfl)
        · refine lv_iload_n F.1 F.2.1 dX7_named_21 rfl (lv_at hl 0 rfl) ?_
          exact g_iret F hr hlk hH hS hz zk ⟨rfl, rfl, rfl, rfl, rfl, rfl, by first | omega | rfl | (dsimp only; omega), by first | exact ⟨fun _ => hlc.mp (by omega), fun h => absurd h (by omega)⟩ | exact ⟨fun h => absurd h (by decide), fun _ j h1 h2 => hno j h1 (by omega)⟩⟩ dX7_named_22
  exact cut_2_0 ((((I mo 5).toInt - 0) + 1 : Int).toNat) 0 H locs ls ⟨by decide, by decide⟩ (by omega) (by first | exact (fun j h1 h2 => absurd h2 (by omega)) | exact (named_step hno (fun h => absurd (hlc.mpr h) (by omega)))) (by omega) hH hS (lv_sub hl [0, 1, 2] rfl)

theorem hdX7_newName : yX7_newName.cls = RX7 ∧ yX7_newName.cls ≠ "java/lang/invoke/MethodHandle" ∧ yX7_newName.cls ≠ "java/lang/invoke/VarHandle" ∧ (parseMethodDescriptor yX7_newName.desc).map (fun d => d.parameters.length) = some 0 := by decide +kernel
theorem hdX7_relation : yX7_relation.cls = RX7 ∧ yX7_relation.cls ≠ "java/lang/invoke/MethodHandle" ∧ yX7_relation.cls ≠ "java/lang/invoke/VarHandle" ∧ (parseMethodDescriptor yX7_relation.desc).map (fun d => d.parameters.length) = some 0 := by decide +kernel
def rmX7_columns : Room := { frames := 0, cells := 0, slots := 0, locals := 0 }
theorem hdX7_columns : yX7_columns.cls = RX7 ∧ yX7_columns.cls ≠ "java/lang/invoke/MethodHandle" ∧ yX7_columns.cls ≠ "java/lang/invoke/VarHandle" ∧ (parseMethodDescriptor yX7_columns.desc).map (fun d => d.parameters.length) = some 1 := by decide +kernel
set_option maxHeartbeats 4000000 in
set_option maxRecDepth 100000 in
/-- columns -/
theorem c_X7_columns (l : Launch) (g : gG) (gh : gGh) (T : Nat → Int32) (I : gI) (R : gR) (J : gJ) (AI : gI) (AJ : gJ) (AR : gR) (mo : Nat) (rr : Int) (zrr : zr rr) (hv : mInv g gh R I AI) (hm : gO g mo 7) (hT : AI (gh 50 0) = T) (hr0 : 0 ≤ rr ∧ rr ≤ 15) : gMet l g yX7_columns tsX7_columns rmX7_columns [.ref mo, .int (iI rr)] (I, R, J, AI, AJ, AR) (gQi g (fun (z : Int) (w : gS) => I = w.1 ∧ R = w.2.1 ∧ J = w.2.2.1 ∧ AI = w.2.2.2.1 ∧ AJ = w.2.2.2.2.1 ∧ AR = w.2.2.2.2.2 ∧ (z = tI (AI (gh 53 0)) (40 * rr + 1)))) := by
  refine gStart (cc := cX7_columns) (maxL := 2) (ret := (some (.int))) (by decide) rfl (Nat.le_of_ble_eq_true rfl) ?_
  intro p e s m below meth c ls F hr hlk hH hz hS hl
  have hl : lv_has ls 2 [(0, .ref mo), (1, .int (iI rr))] := hl
  have hS : va_S (gA g) s.heap s.heap [] := hS
  obtain ⟨H, hHe⟩ : ∃ H : Heap, H = s.heap := ⟨_, rfl⟩
  obtain ⟨locs, hlo⟩ : ∃ k : List Loc, k = [] := ⟨_, rfl⟩
  have hH : gH g I R J AI AJ AR H := by rw [hHe]; exact hH
  have hS : va_S (gA g) s.heap H locs := by rw [hHe, hlo]; exact hS
  suffices hw : W p l e rmX7_columns s m ([.ref mo, .int (iI rr)] : List Value).toArray below meth c H locs 0 0 (MQ below (gQi g (fun (z : Int) (w : gS) => I = w.1 ∧ R = w.2.1 ∧ J = w.2.2.1 ∧ AI = w.2.2.2.1 ∧ AJ = w.2.2.2.2.1 ∧ AR = w.2.2.2.2.2 ∧ (z = tI (AI (gh 53 0)) (40 * rr + 1)))) ([.ref mo, .int (iI rr)] : List Value).toArray s 0 0 (gA g)) (F0 m 0 ls []) by
    rw [hHe, hlo] at hw; exact hw
  clear hHe hlo
  have iX7 : ∀ w ∈ u_ws RX7 TX7 32, w ∈ tsX7_columns := fun w h => List.mem_cons_of_mem _ (inTB7 w h)
  have k17 : Cond.fieldLink RX7 17 (TX7 3).1 (TX7 3).2.1 (TX7 3).2.2.1 ∈ tsX7_columns := List.mem_cons_of_mem _ fl_17
  refine lv_aload_n F.1 F.2.1 dX7_columns_0 rfl (lv_at hl 0 rfl) ?_
  obtain ⟨r_1a, r_1b⟩ : R mo 3 = some (gh 53 0) ∧ gAr g (gh 53 0) 9 640 := mR hv hm (q := (3, 640)) (by decide)
  refine g_getR (ci := 7) (k := 3) F hH rfl (by decide) iX7 hm (by decide) rfl (b := gh 53 0) r_1a k17 dX7_columns_1 ?_
  refine z_bipush F dX7_columns_4 (by decide) ?_
  refine lv_iload_n F.1 F.2.1 dX7_columns_6 rfl (lv_at hl 1 rfl) ?_
  refine z_imul F dX7_columns_7 ?_
  refine z_iconst F dX7_columns_8 ?_
  refine z_iadd F dX7_columns_9 ?_
  have hx10 : 0 ≤ ((40 * rr) + 1) ∧ ((40 * rr) + 1) < ((640 : Nat) : Int) ∧ ((40 * rr) + 1) ≤ 2147483647 := ⟨by omega, by omega, by omega⟩
  refine g_iald F hH r_1b hx10.1 hx10.2.1 hx10.2.2 dX7_columns_10 ?_
  exact g_iret F hr hlk hH hS hz (zr_t _) ⟨rfl, rfl, rfl, rfl, rfl, rfl, rfl⟩ dX7_columns_11

theorem hdX7_column : yX7_column.cls = RX7 ∧ yX7_column.cls ≠ "java/lang/invoke/MethodHandle" ∧ yX7_column.cls ≠ "java/lang/invoke/VarHandle" ∧ (parseMethodDescriptor yX7_column.desc).map (fun d => d.parameters.length) = some 1 := by decide +kernel
theorem hdX7_numberTold : yX7_numberTold.cls = RX7 ∧ yX7_numberTold.cls ≠ "java/lang/invoke/MethodHandle" ∧ yX7_numberTold.cls ≠ "java/lang/invoke/VarHandle" ∧ (parseMethodDescriptor yX7_numberTold.desc).map (fun d => d.parameters.length) = some 0 := by decide +kernel
theorem hdX7_sets : yX7_sets.cls = RX7 ∧ yX7_sets.cls ≠ "java/lang/invoke/MethodHandle" ∧ yX7_sets.cls ≠ "java/lang/invoke/VarHandle" ∧ (parseMethodDescriptor yX7_sets.desc).map (fun d => d.parameters.length) = some 2 := by decide +kernel
theorem hdX7_setsPart : yX7_setsPart.cls = RX7 ∧ yX7_setsPart.cls ≠ "java/lang/invoke/MethodHandle" ∧ yX7_setsPart.cls ≠ "java/lang/invoke/VarHandle" ∧ (parseMethodDescriptor yX7_setsPart.desc).map (fun d => d.parameters.length) = some 5 := by decide +kernel
theorem hdX7_header : yX7_header.cls = RX7 ∧ yX7_header.cls ≠ "java/lang/invoke/MethodHandle" ∧ yX7_header.cls ≠ "java/lang/invoke/VarHandle" ∧ (parseMethodDescriptor yX7_header.desc).map (fun d => d.parameters.length) = some 5 := by decide +kernel