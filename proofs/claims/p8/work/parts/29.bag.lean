theorem hdX6_putBytes : yX6_putBytes.cls = RX6 ∧ yX6_putBytes.cls ≠ "java/lang/invoke/MethodHandle" ∧ yX6_putBytes.cls ≠ "java/lang/invoke/VarHandle" ∧ (parseMethodDescriptor yX6_putBytes.desc).map (fun d => d.parameters.length) = some 1 := by decide +kernel
theorem hdX6_feed : yX6_feed.cls = RX6 ∧ yX6_feed.cls ≠ "java/lang/invoke/MethodHandle" ∧ yX6_feed.cls ≠ "java/lang/invoke/VarHandle" ∧ (parseMethodDescriptor yX6_feed.desc).map (fun d => d.parameters.length) = some 3 := by decide +kernel
theorem hdX6_end : yX6_end.cls = RX6 ∧ yX6_end.cls ≠ "java/lang/invoke/MethodHandle" ∧ yX6_end.cls ≠ "java/lang/invoke/VarHandle" ∧ (parseMethodDescriptor yX6_end.desc).map (fun d => d.parameters.length) = some 1 := by decide +kernel
def rmX6_isRelation : Room := { frames := 0, cells := 0, slots := 0, locals := 0 }
theorem hdX6_isRelation : yX6_isRelation.cls = RX6 ∧ yX6_isRelation.cls ≠ "java/lang/invoke/MethodHandle" ∧ yX6_isRelation.cls ≠ "java/lang/invoke/VarHandle" ∧ (parseMethodDescriptor yX6_isRelation.desc).map (fun d => d.parameters.length) = some 1 := by decide +kernel
set_option maxHeartbeats 4000000 in
set_option maxRecDepth 100000 in
/-- a relation -/
theorem c_X6_isRelation (l : Launch) (g : gG) (gh : gGh) (pA bA nA : Nat) (I : gI) (R : gR) (J : gJ) (AI : gI) (AJ : gJ) (AR : gR) (x : Nat) (rel : Int) (zrel : zr rel) (hv : gInv g gh R AR I AI) (hx : xS g gh R AR x pA bA nA) : gMet l g yX6_isRelation wsX6_isRelation rmX6_isRelation [.ref x, .int (iI rel)] (I, R, J, AI, AJ, AR) (gQi g (fun (z : Int) (w : gS) => I = w.1 ∧ R = w.2.1 ∧ J = w.2.2.1 ∧ AI = w.2.2.2.1 ∧ AJ = w.2.2.2.2.1 ∧ AR = w.2.2.2.2.2 ∧ ((z = 0 ∨ z = 1) ∧ (z = 1 → 0 ≤ rel ∧ rel < (I pA 1).toInt ∧ rel ≤ 15)))) := by
  refine gStart (cc := cX6_isRelation) (maxL := 2) (ret := (some (.boolean))) (by decide) rfl (Nat.le_of_ble_eq_true rfl) ?_
  intro p e s m below meth c ls F hr hlk hH hz hS hl
  have hl : lv_has ls 2 [(0, .ref x), (1, .int (iI rel))] := hl
  have hS : va_S (gA g) s.heap s.heap [] := hS
  obtain ⟨H, hHe⟩ : ∃ H : Heap, H = s.heap := ⟨_, rfl⟩
  obtain ⟨locs, hlo⟩ : ∃ k : List Loc, k = [] := ⟨_, rfl⟩
  have hH : gH g I R J AI AJ AR H := by rw [hHe]; exact hH
  have hS : va_S (gA g) s.heap H locs := by rw [hHe, hlo]; exact hS
  suffices hw : W p l e rmX6_isRelation s m ([.ref x, .int (iI rel)] : List Value).toArray below meth c H locs 0 0 (MQ below (gQi g (fun (z : Int) (w : gS) => I = w.1 ∧ R = w.2.1 ∧ J = w.2.2.1 ∧ AI = w.2.2.2.1 ∧ AJ = w.2.2.2.2.1 ∧ AR = w.2.2.2.2.2 ∧ ((z = 0 ∨ z = 1) ∧ (z = 1 → 0 ≤ rel ∧ rel < (I pA 1).toInt ∧ rel ≤ 15)))) ([.ref x, .int (iI rel)] : List Value).toArray s 0 0 (gA g)) (F0 m 0 ls []) by
    rw [hHe, hlo] at hw; exact hw
  clear hHe hlo
  have iX6 : ∀ w ∈ u_ws RX6 TX6 18, w ∈ wsX6_isRelation := (by decide +kernel)
  have iX2 : ∀ w ∈ u_ws RX2 TX2 3, w ∈ wsX6_isRelation := (by decide +kernel)
  have k23 : Cond.fieldLink RX6 23 (TX6 3).1 (TX6 3).2.1 (TX6 3).2.2.1 ∈ wsX6_isRelation := List.mem_of_getElem? (i := 1) rfl
  have k96 : Cond.fieldLink RX6 96 (TX2 1).1 (TX2 1).2.1 (TX2 1).2.2.1 ∈ wsX6_isRelation := List.mem_of_getElem? (i := 2) rfl
  refine lv_iload_n F.1 F.2.1 dX6_isRelation_0 rfl (lv_at hl 1 rfl) ?_
  refine z_if_lt (tgt := 19) F dX6_isRelation_1 (by decide) zrel (fun c_1 => ?_) (fun c_1 => ?_)
  · refine z_iconst F dX6_isRelation_19 ?_
    exact g_zret F hr hlk hH hS hz (by omega) ⟨rfl, rfl, rfl, rfl, rfl, rfl, ⟨by omega, fun _ => by omega⟩⟩ dX6_isRelation_20
  · refine lv_iload_n F.1 F.2.1 dX6_isRelation_4 rfl (lv_at hl 1 rfl) ?_
    refine lv_aload_n F.1 F.2.1 dX6_isRelation_5 rfl (lv_at hl 0 rfl) ?_
    refine g_getR (ci := 6) (k := 3) F hH rfl (by decide) iX6 hx.1 (by decide) rfl (b := pA) hx.2.1 k23 dX6_isRelation_6 ?_
    refine g_getI (ci := 2) (k := 1) F hH rfl (by decide) iX2 hx.2.2.1 (by decide) rfl k96 dX6_isRelation_9 ?_
    have b_2 := gI_plan hv hx.2.2.1
    refine z_icmp_ge (tgt := 19) F dX6_isRelation_12 (by decide) zrel (zr_t _) (fun c_3 => ?_) (fun c_3 => ?_)
    · refine z_iconst F dX6_isRelation_19 ?_
      exact g_zret F hr hlk hH hS hz (by omega) ⟨rfl, rfl, rfl, rfl, rfl, rfl, ⟨by omega, fun _ => by omega⟩⟩ dX6_isRelation_20
    · refine z_iconst F dX6_isRelation_15 ?_
      refine z_goto (tgt := 20) F dX6_isRelation_16 (by decide) ?_
      exact g_zret F hr hlk hH hS hz (by omega) ⟨rfl, rfl, rfl, rfl, rfl, rfl, ⟨by omega, fun _ => by omega⟩⟩ dX6_isRelation_20

theorem hdX6_isRing : yX6_isRing.cls = RX6 ∧ yX6_isRing.cls ≠ "java/lang/invoke/MethodHandle" ∧ yX6_isRing.cls ≠ "java/lang/invoke/VarHandle" ∧ (parseMethodDescriptor yX6_isRing.desc).map (fun d => d.parameters.length) = some 1 := by decide +kernel
theorem hdX6_change : yX6_change.cls = RX6 ∧ yX6_change.cls ≠ "java/lang/invoke/MethodHandle" ∧ yX6_change.cls ≠ "java/lang/invoke/VarHandle" ∧ (parseMethodDescriptor yX6_change.desc).map (fun d => d.parameters.length) = some 6 := by decide +kernel
theorem hdX6_cancel : yX6_cancel.cls = RX6 ∧ yX6_cancel.cls ≠ "java/lang/invoke/MethodHandle" ∧ yX6_cancel.cls ≠ "java/lang/invoke/VarHandle" ∧ (parseMethodDescriptor yX6_cancel.desc).map (fun d => d.parameters.length) = some 0 := by decide +kernel
theorem hdX6_setKey : yX6_setKey.cls = RX6 ∧ yX6_setKey.cls ≠ "java/lang/invoke/MethodHandle" ∧ yX6_setKey.cls ≠ "java/lang/invoke/VarHandle" ∧ (parseMethodDescriptor yX6_setKey.desc).map (fun d => d.parameters.length) = some 5 := by decide +kernel
theorem hdX6_fallsBelowZero : yX6_fallsBelowZero.cls = RX6 ∧ yX6_fallsBelowZero.cls ≠ "java/lang/invoke/MethodHandle" ∧ yX6_fallsBelowZero.cls ≠ "java/lang/invoke/VarHandle" ∧ (parseMethodDescriptor yX6_fallsBelowZero.desc).map (fun d => d.parameters.length) = some 2 := by decide +kernel
theorem hdX6_pickChanges : yX6_pickChanges.cls = RX6 ∧ yX6_pickChanges.cls ≠ "java/lang/invoke/MethodHandle" ∧ yX6_pickChanges.cls ≠ "java/lang/invoke/VarHandle" ∧ (parseMethodDescriptor yX6_pickChanges.desc).map (fun d => d.parameters.length) = some 2 := by decide +kernel
theorem hdX6_reckonNext : yX6_reckonNext.cls = RX6 ∧ yX6_reckonNext.cls ≠ "java/lang/invoke/MethodHandle" ∧ yX6_reckonNext.cls ≠ "java/lang/invoke/VarHandle" ∧ (parseMethodDescriptor yX6_reckonNext.desc).map (fun d => d.parameters.length) = some 2 := by decide +kernel
theorem hdX6_movedInViews : yX6_movedInViews.cls = RX6 ∧ yX6_movedInViews.cls ≠ "java/lang/invoke/MethodHandle" ∧ yX6_movedInViews.cls ≠ "java/lang/invoke/VarHandle" ∧ (parseMethodDescriptor yX6_movedInViews.desc).map (fun d => d.parameters.length) = some 0 := by decide +kernel
theorem hdX6_cameTo : yX6_cameTo.cls = RX6 ∧ yX6_cameTo.cls ≠ "java/lang/invoke/MethodHandle" ∧ yX6_cameTo.cls ≠ "java/lang/invoke/VarHandle" ∧ (parseMethodDescriptor yX6_cameTo.desc).map (fun d => d.parameters.length) = some 1 := by decide +kernel
theorem hdX6_cameToViews : yX6_cameToViews.cls = RX6 ∧ yX6_cameToViews.cls ≠ "java/lang/invoke/MethodHandle" ∧ yX6_cameToViews.cls ≠ "java/lang/invoke/VarHandle" ∧ (parseMethodDescriptor yX6_cameToViews.desc).map (fun d => d.parameters.length) = some 0 := by decide +kernel
theorem hdX6_tuplesOfViews : yX6_tuplesOfViews.cls = RX6 ∧ yX6_tuplesOfViews.cls ≠ "java/lang/invoke/MethodHandle" ∧ yX6_tuplesOfViews.cls ≠ "java/lang/invoke/VarHandle" ∧ (parseMethodDescriptor yX6_tuplesOfViews.desc).map (fun d => d.parameters.length) = some 0 := by decide +kernel
theorem hdX6_size : yX6_size.cls = RX6 ∧ yX6_size.cls ≠ "java/lang/invoke/MethodHandle" ∧ yX6_size.cls ≠ "java/lang/invoke/VarHandle" ∧ (parseMethodDescriptor yX6_size.desc).map (fun d => d.parameters.length) = some 1 := by decide +kernel
theorem hdX6_moved : yX6_moved.cls = RX6 ∧ yX6_moved.cls ≠ "java/lang/invoke/MethodHandle" ∧ yX6_moved.cls ≠ "java/lang/invoke/VarHandle" ∧ (parseMethodDescriptor yX6_moved.desc).map (fun d => d.parameters.length) = some 1 := by decide +kernel
theorem hdX6_came : yX6_came.cls = RX6 ∧ yX6_came.cls ≠ "java/lang/invoke/MethodHandle" ∧ yX6_came.cls ≠ "java/lang/invoke/VarHandle" ∧ (parseMethodDescriptor yX6_came.desc).map (fun d => d.parameters.length) = some 1 := by decide +kernel
theorem hdX6_would : yX6_would.cls = RX6 ∧ yX6_would.cls ≠ "java/lang/invoke/MethodHandle" ∧ yX6_would.cls ≠ "java/lang/invoke/VarHandle" ∧ (parseMethodDescriptor yX6_would.desc).map (fun d => d.parameters.length) = some 1 := by decide +kernel
theorem hdX6_round : yX6_round.cls = RX6 ∧ yX6_round.cls ≠ "java/lang/invoke/MethodHandle" ∧ yX6_round.cls ≠ "java/lang/invoke/VarHandle" ∧ (parseMethodDescriptor yX6_round.desc).map (fun d => d.parameters.length) = some 5 := by decide +kernel
theorem hdX6_rounds : yX6_rounds.cls = RX6 ∧ yX6_rounds.cls ≠ "java/lang/invoke/MethodHandle" ∧ yX6_rounds.cls ≠ "java/lang/invoke/VarHandle" ∧ (parseMethodDescriptor yX6_rounds.desc).map (fun d => d.parameters.length) = some 1 := by decide +kernel
theorem hdX6_differs : yX6_differs.cls = RX6 ∧ yX6_differs.cls ≠ "java/lang/invoke/MethodHandle" ∧ yX6_differs.cls ≠ "java/lang/invoke/VarHandle" ∧ (parseMethodDescriptor yX6_differs.desc).map (fun d => d.parameters.length) = some 1 := by decide +kernel
def rmX6_of : Room := { frames := 1, cells := 0, slots := 0, locals := 23 }
theorem hdX6_of : yX6_of.cls = RX6 ∧ yX6_of.cls ≠ "java/lang/invoke/MethodHandle" ∧ yX6_of.cls ≠ "java/lang/invoke/VarHandle" ∧ (parseMethodDescriptor yX6_of.desc).map (fun d => d.parameters.length) = some 2 := by decide +kernel
set_option maxHeartbeats 4000000 in
set_option maxRecDepth 100000 in
/-- of -/
theorem c_X6_of (l : Launch) (g : gG) (gh : gGh) (pA bA nA : Nat) (I : gI) (R : gR) (J : gJ) (AI : gI) (AJ : gJ) (AR : gR) (x : Nat) (rel : Int) (wh : Int) (zrel : zr rel) (zwh : zr wh) (hv : gInv g gh R AR I AI) (hx : xS g gh R AR x pA bA nA) : gMet l g yX6_of wsX6_of rmX6_of [.ref x, .int (iI rel), .int (iI wh)] (I, R, J, AI, AJ, AR) (gQi g (fun (z : Int) (w : gS) => I = w.1 ∧ R = w.2.1 ∧ J = w.2.2.1 ∧ AI = w.2.2.2.1 ∧ AJ = w.2.2.2.2.1 ∧ AR = w.2.2.2.2.2)) := by
  refine gStart (cc := cX6_of) (maxL := 4) (ret := (some (.int))) (by decide) rfl (Nat.le_of_ble_eq_true rfl) ?_
  intro p e s m below meth c ls F hr hlk hH hz hS hl
  have hl : lv_has ls 4 [(0, .ref x), (1, .int (iI rel)), (2, .int (iI wh))] := hl
  have hS : va_S (gA g) s.heap s.heap [] := hS
  obtain ⟨H, hHe⟩ : ∃ H : Heap, H = s.heap := ⟨_, rfl⟩
  obtain ⟨locs, hlo⟩ : ∃ k : List Loc, k = [] := ⟨_, rfl⟩
  have hH : gH g I R J AI AJ AR H := by rw [hHe]; exact hH
  have hS : va_S (gA g) s.heap H locs := by rw [hHe, hlo]; exact hS
  suffices hw : W p l e rmX6_of s m ([.ref x, .int (iI rel), .int (iI wh)] : List Value).toArray below meth c H locs 0 0 (MQ below (gQi g (fun (z : Int) (w : gS) => I = w.1 ∧ R = w.2.1 ∧ J = w.2.2.1 ∧ AI = w.2.2.2.1 ∧ AJ = w.2.2.2.2.1 ∧ AR = w.2.2.2.2.2)) ([.ref x, .int (iI rel), .int (iI wh)] : List Value).toArray s 0 0 (gA g)) (F0 m 0 ls []) by
    rw [hHe, hlo] at hw; exact hw
  clear hHe hlo
  have iX6 : ∀ w ∈ u_ws RX6 TX6 18, w ∈ wsX6_of := (by decide +kernel)
  have iX2 : ∀ w ∈ u_ws RX2 TX2 3, w ∈ wsX6_of := (by decide +kernel)
  have iX0 : ∀ w ∈ u_ws RX0 TX0 15, w ∈ wsX6_of := (by decide +kernel)
  have k23 : Cond.fieldLink RX6 23 (TX6 3).1 (TX6 3).2.1 (TX6 3).2.2.1 ∈ wsX6_of := List.mem_of_getElem? (i := 1) rfl
  have k113 : Cond.fieldLink RX6 113 (TX2 0).1 (TX2 0).2.1 (TX2 0).2.2.1 ∈ wsX6_of := List.mem_of_getElem? (i := 2) rfl
  have k117 : Cond.fieldLink RX6 117 (TX0 0).1 (TX0 0).2.1 (TX0 0).2.2.1 ∈ wsX6_of := List.mem_of_getElem? (i := 3) rfl
  have k125 : Cond.fieldLink RX6 125 (TX0 2).1 (TX0 2).2.1 (TX0 2).2.2.1 ∈ wsX6_of := List.mem_of_getElem? (i := 4) rfl
  have k224 : Cond.fieldLink RX6 224 (TX0 3).1 (TX0 3).2.1 (TX0 3).2.2.1 ∈ wsX6_of := List.mem_of_getElem? (i := 5) rfl
  have k227 : Cond.fieldLink RX6 227 (TX0 4).1 (TX0 4).2.1 (TX0 4).2.2.1 ∈ wsX6_of := List.mem_of_getElem? (i := 6) rfl
  have k239 : Cond.fieldLink RX6 239 (TX0 13).1 (TX0 13).2.1 (TX0 13).2.2.1 ∈ wsX6_of := List.mem_of_getElem? (i := 7) rfl
  have k245 : Cond.fieldLink RX6 245 (TX0 14).1 (TX0 14).2.1 (TX0 14).2.2.1 ∈ wsX6_of := List.mem_of_getElem? (i := 8) rfl
  refine lv_aload_n F.1 F.2.1 dX6_of_0 rfl (lv_at hl 0 rfl) ?_
  refine lv_iload_n F.1 F.2.1 dX6_of_1 rfl (lv_at hl 1 rfl) ?_
  have b_1 := gI_x hv hx.1
  refine g_calli (g_runV (As := [.int (iI rel)]) (rest := []) (ci := 6) F hl.1 hH hS hz (c_X6_isRelation l g gh pA bA nA I R J AI AJ AR x rel zrel hv hx) (cwV 1 F.2.2.2.2.1 gX6_of_X6_isRelation rfl rfl rfl hdX6_isRelation ⟨Nat.le_of_ble_eq_true rfl, Nat.le_of_ble_eq_true rfl⟩) hx.1 (by decide) rfl rfl rfl (Nat.le_of_ble_eq_true rfl) dX6_of_2 ⟨Nat.zero_le _, Nat.zero_le _⟩) hS (fun v_8 I_2 R_3 J_4 AI_5 AJ_6 AR_7 H locs zv_8 hp_9 hH hS => ?_)
  dsimp only at hp_9
  obtain ⟨rfl, rfl, rfl, rfl, rfl, rfl, q_10⟩ := hp_9
  refine z_if_ne (tgt := 10) F dX6_of_5 (by decide) zv_8 (fun c_11 => ?_) (fun c_11 => ?_)
  · refine lv_aload_n F.1 F.2.1 dX6_of_10 rfl (lv_at hl 0 rfl) ?_
    refine g_getR (ci := 6) (k := 3) F hH rfl (by decide) iX6 hx.1 (by decide) rfl (b := pA) hx.2.1 k23 dX6_of_11 ?_
    obtain ⟨r_12a, r_12b⟩ := gR_lines hv hx.2.2.1
    refine g_getR (ci := 2) (k := 0) F hH rfl (by decide) iX2 hx.2.2.1 (by decide) rfl (b := gh 6 pA) r_12a k113 dX6_of_14 ?_
    refine lv_iload_n F.1 F.2.1 dX6_of_17 rfl (lv_at hl 1 rfl) ?_
    have hx18 : 0 ≤ rel ∧ rel < ((16 : Nat) : Int) ∧ rel ≤ 2147483647 := ⟨by omega, by omega, by omega⟩
    obtain ⟨y_13, y_13a, y_13b, y_13c, y_13d⟩ := gA_lines hv hx.2.2.1 (z := rel) (by omega) (by omega)
    refine g_aldL F hH r_12b hx18.1 hx18.2.1 hx18.2.2 (b := y_13) y_13a dX6_of_18 ?_
    refine lv_astore_n (lv' := [(3, .ref y_13), (0, .ref x), (1, .int (iI rel)), (2, .int (iI wh))]) F.1 F.2.1 dX6_of_19 rfl hl (by decide) rfl (fun ls hl => ?_)
    refine lv_iload_n F.1 F.2.1 dX6_of_20 rfl (lv_at hl 3 rfl) ?_
    have ec_14 : (iI wh).toInt = wh := iI_val zwh
    by_cases c_14 : wh < 0 ∨ 8 < wh
    · refine lv_tableOut (tgt := 121) F.1 F.2.1 dX6_of_21 (by rw [ec_14]; exact c_14) (by decide) ?_
      refine z_iconst F dX6_of_121 ?_
      exact g_iret F hr hlk hH hS hz ⟨by decide, by decide⟩ ⟨rfl, rfl, rfl, rfl, rfl, rfl⟩ dX6_of_122
    by_cases c_14_0 : wh = 0
    · refine lv_tableIn (tgt := 72) (off := 51) F.1 F.2.1 dX6_of_21 (by rw [ec_14]; omega) (by rw [ec_14]; omega) (by rw [ec_14, c_14_0]; rfl) (by decide) ?_
      refine lv_aload_n F.1 F.2.1 dX6_of_72 rfl (lv_at hl 0 rfl) ?_
      refine g_getI (ci := 0) (k := 0) F hH rfl (by decide) iX0 y_13b (by decide) rfl k117 dX6_of_73 ?_
      have b_15 := gI_line hv y_13b
      unfold vLineI at b_15
      exact g_iret F hr hlk hH hS hz (zr_t _) ⟨rfl, rfl, rfl, rfl, rfl, rfl⟩ dX6_of_76
    by_cases c_14_1 : wh = 1
    · refine lv_tableIn (tgt := 77) (off := 56) F.1 F.2.1 dX6_of_21 (by rw [ec_14]; omega) (by rw [ec_14]; omega) (by rw [ec_14, c_14_1]; rfl) (by decide) ?_
      refine lv_aload_n F.1 F.2.1 dX6_of_77 rfl (lv_at hl 0 rfl) ?_
      refine g_getI (ci := 0) (k := 2) F hH rfl (by decide) iX0 y_13b (by decide) rfl k125 dX6_of_78 ?_
      have b_16 := gI_line hv y_13b
      unfold vLineI at b_16
      exact g_iret F hr hlk hH hS hz (zr_t _) ⟨rfl, rfl, rfl, rfl, rfl, rfl⟩ dX6_of_81
    by_cases c_14_2 : wh = 2
    · refine lv_tableIn (tgt := 82) (off := 61) F.1 F.2.1 dX6_of_21 (by rw [ec_14]; omega) (by rw [ec_14]; omega) (by rw [ec_14, c_14_2]; rfl) (by decide) ?_
      refine lv_aload_n F.1 F.2.1 dX6_of_82 rfl (lv_at hl 0 rfl) ?_
      refine g_getI (ci := 0) (k := 3) F hH rfl (by decide) iX0 y_13b (by decide) rfl k224 dX6_of_83 ?_
      have b_17 := gI_line hv y_13b
      unfold vLineI at b_17
      exact g_iret F hr hlk hH hS hz (zr_t _) ⟨rfl, rfl, rfl, rfl, rfl, rfl⟩ dX6_of_86
    by_cases c_14_3 : wh = 3
    · refine lv_tableIn (tgt := 87) (off := 66) F.1 F.2.1 dX6_of_21 (by rw [ec_14]; omega) (by rw [ec_14]; omega) (by rw [ec_14, c_14_3]; rfl) (by decide) ?_
      refine lv_aload_n F.1 F.2.1 dX6_of_87 rfl (lv_at hl 0 rfl) ?_
      refine g_getI (ci := 0) (k := 4) F hH rfl (by decide) iX0 y_13b (by decide) rfl k227 dX6_of_88 ?_
      have b_18 := gI_line hv y_13b
      unfold vLineI at b_18
      exact g_iret F hr hlk hH hS hz (zr_t _) ⟨rfl, rfl, rfl, rfl, rfl, rfl⟩ dX6_of_91
    by_cases c_14_4 : wh = 4
    · refine lv_tableIn (tgt := 92) (off := 71) F.1 F.2.1 dX6_of_21 (by rw [ec_14]; omega) (by rw [ec_14]; omega) (by rw [ec_14, c_14_4]; rfl) (by decide) ?_
      refine lv_aload_n F.1 F.2.1 dX6_of_92 rfl (lv_at hl 0 rfl) ?_
      refine g_getI (ci := 0) (k := 13) F hH rfl (by decide) iX0 y_13b (by decide) rfl k239 dX6_of_93 ?_
      refine z_norm (fun v_19 zv_19 ev_19 => ?_)
      exact g_iret F hr hlk hH hS hz zv_19 ⟨rfl, rfl, rfl, rfl, rfl, rfl⟩ dX6_of_96
    by_cases c_14_5 : wh = 5
    · refine lv_tableIn (tgt := 97) (off := 76) F.1 F.2.1 dX6_of_21 (by rw [ec_14]; omega) (by rw [ec_14]; omega) (by rw [ec_14, c_14_5]; rfl) (by decide) ?_
      refine lv_aload_n F.1 F.2.1 dX6_of_97 rfl (lv_at hl 1 rfl) ?_
      refine g_getR (ci := 6) (k := 3) F hH rfl (by decide) iX6 hx.1 (by decide) rfl (b := pA) hx.2.1 k23 dX6_of_98 ?_
      refine lv_iload_n F.1 F.2.1 dX6_of_101 rfl (lv_at hl 2 rfl) ?_
      have b_20 := gI_plan hv hx.2.2.1
      refine g_calli (g_runV (As := [.int (iI rel)]) (rest := []) (ci := 2) F hl.1 hH hS hz (c_X2_hangingOn l g gh I R J AI AJ AR pA rel zrel hv hx.2.2.1) (cwV 1 F.2.2.2.2.1 gX6_of_X2_hangingOn rfl rfl rfl hdX2_hangingOn ⟨Nat.le_of_ble_eq_true rfl, Nat.le_of_ble_eq_true rfl⟩) hx.2.2.1 (by decide) rfl rfl rfl (Nat.le_of_ble_eq_true rfl) dX6_of_102 ⟨Nat.zero_le _, Nat.zero_le _⟩) hS (fun v_27 I_21 R_22 J_23 AI_24 AJ_25 AR_26 H locs zv_27 hp_28 hH hS => ?_)
      dsimp only at hp_28
      obtain ⟨rfl, rfl, rfl, rfl, rfl, rfl⟩ := hp_28
      exact g_iret F hr hlk hH hS hz zv_27 ⟨rfl, rfl, rfl, rfl, rfl, rfl⟩ dX6_of_105
    by_cases c_14_6 : wh = 6
    · refine lv_tableIn (tgt := 106) (off := 85) F.1 F.2.1 dX6_of_21 (by rw [ec_14]; omega) (by rw [ec_14]; omega) (by rw [ec_14, c_14_6]; rfl) (by decide) ?_
      refine lv_aload_n F.1 F.2.1 dX6_of_106 rfl (lv_at hl 0 rfl) ?_
      refine g_getI (ci := 0) (k := 14) F hH rfl (by decide) iX0 y_13b (by decide) rfl k245 dX6_of_107 ?_
      refine z_norm (fun v_29 zv_29 ev_29 => ?_)
      exact g_iret F hr hlk hH hS hz zv_29 ⟨rfl, rfl, rfl, rfl, rfl, rfl⟩ dX6_of_110
    by_cases c_14_7 : wh = 7
    · refine lv_tableIn (tgt := 111) (off := 90) F.1 F.2.1 dX6_of_21 (by rw [ec_14]; omega) (by rw [ec_14]; omega) (by rw [ec_14, c_14_7]; rfl) (by decide) ?_
      refine lv_aload_n F.1 F.2.1 dX6_of_111 rfl (lv_at hl 0 rfl) ?_
      have b_30 := gI_line hv y_13b
      unfold vLineI at b_30
      refine g_calli (g_runV (As := []) (rest := []) (ci := 0) F hl.1 hH hS hz (c_X0_firstLetter l g gh I R J AI AJ AR y_13 hv y_13b) (cwV 0 F.2.2.2.2.1 gX6_of_X0_firstLetter rfl rfl rfl hdX0_firstLetter ⟨Nat.le_of_ble_eq_true rfl, Nat.le_of_ble_eq_true rfl⟩) y_13b (by decide) rfl rfl rfl (Nat.le_of_ble_eq_true rfl) dX6_of_112 ⟨Nat.zero_le _, Nat.zero_le _⟩) hS (fun v_37 I_31 R_32 J_33 AI_34 AJ_35 AR_36 H locs zv_37 hp_38 hH hS => ?_)
      dsimp only at hp_38
      obtain ⟨rfl, rfl, rfl, rfl, rfl, rfl⟩ := hp_38
      exact g_iret F hr hlk hH hS hz zv_37 ⟨rfl, rfl, rfl, rfl, rfl, rfl⟩ dX6_of_115
    have c_14_8 : wh = 8 := by omega
    refine lv_tableIn (tgt := 116) (off := 95) F.1 F.2.1 dX6_of_21 (by rw [ec_14]; omega) (by rw [ec_14]; omega) (by rw [ec_14, c_14_8]; rfl) (by decide) ?_
    refine lv_aload_n F.1 F.2.1 dX6_of_116 rfl (lv_at hl 0 rfl) ?_
    have b_39 := gI_line hv y_13b
    unfold vLineI at b_39
    refine g_calli (g_runV (As := []) (rest := []) (ci := 0) F hl.1 hH hS hz (c_X0_lastLetter l g gh I R J AI AJ AR y_13 hv y_13b) (cwV 0 F.2.2.2.2.1 gX6_of_X0_lastLetter rfl rfl rfl hdX0_lastLetter ⟨Nat.le_of_ble_eq_true rfl, Nat.le_of_ble_eq_true rfl⟩) y_13b (by decide) rfl rfl rfl (Nat.le_of_ble_eq_true rfl) dX6_of_117 ⟨Nat.zero_le _, Nat.zero_le _⟩) hS (fun v_46 I_40 R_41 J_42 AI_43 AJ_44 AR_45 H locs zv_46 hp_47 hH hS => ?_)
    dsimp only at hp_47
    obtain ⟨rfl, rfl, rfl, rfl, rfl, rfl⟩ := hp_47
    exact g_iret F hr hlk hH hS hz zv_46 ⟨rfl, rfl, rfl, rfl, rfl, rfl⟩ dX6_of_120
  · refine z_iconst F dX6_of_8 ?_
    exact g_iret F hr hlk hH hS hz ⟨by decide, by decide⟩ ⟨rfl, rfl, rfl, rfl, rfl, rfl⟩ dX6_of_9

theorem hdX6_told : yX6_told.cls = RX6 ∧ yX6_told.cls ≠ "java/lang/invoke/MethodHandle" ∧ yX6_told.cls ≠ "java/lang/invoke/VarHandle" ∧ (parseMethodDescriptor yX6_told.desc).map (fun d => d.parameters.length) = some 1 := by decide +kernel
theorem hdX6_gatherValues : yX6_gatherValues.cls = RX6 ∧ yX6_gatherValues.cls ≠ "java/lang/invoke/MethodHandle" ∧ yX6_gatherValues.cls ≠ "java/lang/invoke/VarHandle" ∧ (parseMethodDescriptor yX6_gatherValues.desc).map (fun d => d.parameters.length) = some 2 := by decide +kernel
theorem hdX6_remember : yX6_remember.cls = RX6 ∧ yX6_remember.cls ≠ "java/lang/invoke/MethodHandle" ∧ yX6_remember.cls ≠ "java/lang/invoke/VarHandle" ∧ (parseMethodDescriptor yX6_remember.desc).map (fun d => d.parameters.length) = some 1 := by decide +kernel