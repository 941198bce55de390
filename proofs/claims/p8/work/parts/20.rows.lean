def rmX4_cell : Room := { frames := 0, cells := 0, slots := 0, locals := 0 }
theorem hdX4_cell : yX4_cell.cls = RX4 ∧ yX4_cell.cls ≠ "java/lang/invoke/MethodHandle" ∧ yX4_cell.cls ≠ "java/lang/invoke/VarHandle" ∧ (parseMethodDescriptor yX4_cell.desc).map (fun d => d.parameters.length) = some 2 := by decide +kernel
set_option maxHeartbeats 4000000 in
set_option maxRecDepth 100000 in
/-- the cell at a row and a place -/
theorem c_X4_cell (l : Launch) (g : gG) (gh : gGh) (I : gI) (R : gR) (J : gJ) (AI : gI) (AJ : gJ) (AR : gR) (a : Nat) (row : Int) (place : Int) (zrow : zr row) (zplace : zr place) (hv : gInv g gh R AR I AI) (ha : gO g a 4) (h0 : 0 ≤ row) (h1 : row < (gh 1 a : Int)) (h2 : 0 ≤ place) (h3 : place ≤ 5) : gMet l g yX4_cell wsX4_cell rmX4_cell [.ref a, .int (iI row), .int (iI place)] (I, R, J, AI, AJ, AR) (gQi g (fun (z : Int) (w : gS) => I = w.1 ∧ R = w.2.1 ∧ J = w.2.2.1 ∧ AI = w.2.2.2.1 ∧ AJ = w.2.2.2.2.1 ∧ AR = w.2.2.2.2.2 ∧ (z = (AI (gh 0 a) (row * 6 + place).toNat).toInt))) := by
  refine gStart (cc := cX4_cell) (maxL := 3) (ret := (some (.int))) (by decide) rfl (Nat.le_of_ble_eq_true rfl) ?_
  intro p e s m below meth c ls F hr hlk hH hz hS hl
  have hl : lv_has ls 3 [(0, .ref a), (1, .int (iI row)), (2, .int (iI place))] := hl
  have hS : va_S (gA g) s.heap s.heap [] := hS
  obtain ⟨H, hHe⟩ : ∃ H : Heap, H = s.heap := ⟨_, rfl⟩
  obtain ⟨locs, hlo⟩ : ∃ k : List Loc, k = [] := ⟨_, rfl⟩
  have hH : gH g I R J AI AJ AR H := by rw [hHe]; exact hH
  have hS : va_S (gA g) s.heap H locs := by rw [hHe, hlo]; exact hS
  suffices hw : W p l e rmX4_cell s m ([.ref a, .int (iI row), .int (iI place)] : List Value).toArray below meth c H locs 0 0 (MQ below (gQi g (fun (z : Int) (w : gS) => I = w.1 ∧ R = w.2.1 ∧ J = w.2.2.1 ∧ AI = w.2.2.2.1 ∧ AJ = w.2.2.2.2.1 ∧ AR = w.2.2.2.2.2 ∧ (z = (AI (gh 0 a) (row * 6 + place).toNat).toInt))) ([.ref a, .int (iI row), .int (iI place)] : List Value).toArray s 0 0 (gA g)) (F0 m 0 ls []) by
    rw [hHe, hlo] at hw; exact hw
  clear hHe hlo
  have iX4 : ∀ w ∈ u_ws RX4 TX4 4, w ∈ wsX4_cell := (by decide +kernel)
  have k16 : Cond.fieldLink RX4 16 (TX4 2).1 (TX4 2).2.1 (TX4 2).2.2.1 ∈ wsX4_cell := List.mem_of_getElem? (i := 1) rfl
  refine lv_aload_n F.1 F.2.1 dX4_cell_0 rfl (lv_at hl 0 rfl) ?_
  obtain ⟨b_1a, b_1b, b_1c, b_1d, b_1e, b_1f, b_1g, b_1h⟩ := gI_rows hv ha
  obtain ⟨r_2a, r_2b⟩ := gR_cells hv ha
  refine g_getR (ci := 4) (k := 2) F hH rfl (by decide) iX4 ha (by decide) rfl (b := gh 0 a) r_2a k16 dX4_cell_1 ?_
  refine lv_iload_n F.1 F.2.1 dX4_cell_4 rfl (lv_at hl 1 rfl) ?_
  refine z_bipush F dX4_cell_5 (by decide) ?_
  refine z_imul F dX4_cell_7 ?_
  refine lv_iload_n F.1 F.2.1 dX4_cell_8 rfl (lv_at hl 2 rfl) ?_
  refine z_iadd F dX4_cell_9 ?_
  have hx10 : 0 ≤ ((row * 6) + place) ∧ ((row * 6) + place) < ((6 * gh 1 a : Nat) : Int) ∧ ((row * 6) + place) ≤ 2147483647 := ⟨by omega, by omega, by omega⟩
  refine g_iald F hH r_2b hx10.1 hx10.2.1 hx10.2.2 dX4_cell_10 ?_
  exact g_iret F hr hlk hH hS hz (zr_t _) ⟨rfl, rfl, rfl, rfl, rfl, rfl, rfl⟩ dX4_cell_11

def rmX4_setCell : Room := { frames := 0, cells := 0, slots := 0, locals := 0 }
theorem hdX4_setCell : yX4_setCell.cls = RX4 ∧ yX4_setCell.cls ≠ "java/lang/invoke/MethodHandle" ∧ yX4_setCell.cls ≠ "java/lang/invoke/VarHandle" ∧ (parseMethodDescriptor yX4_setCell.desc).map (fun d => d.parameters.length) = some 3 := by decide +kernel
set_option maxHeartbeats 4000000 in
set_option maxRecDepth 100000 in
/-- sets one cell -/
theorem c_X4_setCell (l : Launch) (g : gG) (gh : gGh) (I : gI) (R : gR) (J : gJ) (AI : gI) (AJ : gJ) (AR : gR) (a : Nat) (row : Int) (place : Int) (v : Int) (zrow : zr row) (zplace : zr place) (zv : zr v) (hv : gInv g gh R AR I AI) (ha : gO g a 4) (h0 : 0 ≤ row) (h1 : row < (gh 1 a : Int)) (h2 : 0 ≤ place) (h3 : place ≤ 5) (h5 : gh 2 a = 5 → place ≠ 0) (hfz : gh 2 a = 5 → gh 42 0 = 1 → a ≠ gh 37 0) : gMet l g yX4_setCell wsX4_setCell rmX4_setCell [.ref a, .int (iI row), .int (iI place), .int (iI v)] (I, R, J, AI, AJ, AR) (gQv g (fun w : gS => I = w.1 ∧ R = w.2.1 ∧ J = w.2.2.1 ∧ AJ = w.2.2.2.2.1 ∧ AR = w.2.2.2.2.2 ∧ ((w.2.2.2.1) = gup2 AI (gh 0 a) (row * 6 + place).toNat (iI v)) ∧ (gInv g gh R AR I (w.2.2.2.1)) ∧ (∀ b, b ≠ gh 0 a → (w.2.2.2.1) b = AI b))) := by
  refine gStart (cc := cX4_setCell) (maxL := 4) (ret := none) (by decide) rfl (Nat.le_of_ble_eq_true rfl) ?_
  intro p e s m below meth c ls F hr hlk hH hz hS hl
  have hl : lv_has ls 4 [(0, .ref a), (1, .int (iI row)), (2, .int (iI place)), (3, .int (iI v))] := hl
  have hS : va_S (gA g) s.heap s.heap [] := hS
  obtain ⟨H, hHe⟩ : ∃ H : Heap, H = s.heap := ⟨_, rfl⟩
  obtain ⟨locs, hlo⟩ : ∃ k : List Loc, k = [] := ⟨_, rfl⟩
  have hH : gH g I R J AI AJ AR H := by rw [hHe]; exact hH
  have hS : va_S (gA g) s.heap H locs := by rw [hHe, hlo]; exact hS
  suffices hw : W p l e rmX4_setCell s m ([.ref a, .int (iI row), .int (iI place), .int (iI v)] : List Value).toArray below meth c H locs 0 0 (MQ below (gQv g (fun w : gS => I = w.1 ∧ R = w.2.1 ∧ J = w.2.2.1 ∧ AJ = w.2.2.2.2.1 ∧ AR = w.2.2.2.2.2 ∧ ((w.2.2.2.1) = gup2 AI (gh 0 a) (row * 6 + place).toNat (iI v)) ∧ (gInv g gh R AR I (w.2.2.2.1)) ∧ (∀ b, b ≠ gh 0 a → (w.2.2.2.1) b = AI b))) ([.ref a, .int (iI row), .int (iI place), .int (iI v)] : List Value).toArray s 0 0 (gA g)) (F0 m 0 ls []) by
    rw [hHe, hlo] at hw; exact hw
  clear hHe hlo
  have iX4 : ∀ w ∈ u_ws RX4 TX4 4, w ∈ wsX4_setCell := (by decide +kernel)
  have k16 : Cond.fieldLink RX4 16 (TX4 2).1 (TX4 2).2.1 (TX4 2).2.2.1 ∈ wsX4_setCell := List.mem_of_getElem? (i := 1) rfl
  refine lv_aload_n F.1 F.2.1 dX4_setCell_0 rfl (lv_at hl 0 rfl) ?_
  obtain ⟨b_1a, b_1b, b_1c, b_1d, b_1e, b_1f, b_1g, b_1h⟩ := gI_rows hv ha
  obtain ⟨r_2a, r_2b⟩ := gR_cells hv ha
  refine g_getR (ci := 4) (k := 2) F hH rfl (by decide) iX4 ha (by decide) rfl (b := gh 0 a) r_2a k16 dX4_setCell_1 ?_
  refine lv_iload_n F.1 F.2.1 dX4_setCell_4 rfl (lv_at hl 1 rfl) ?_
  refine z_bipush F dX4_setCell_5 (by decide) ?_
  refine z_imul F dX4_setCell_7 ?_
  refine lv_iload_n F.1 F.2.1 dX4_setCell_8 rfl (lv_at hl 2 rfl) ?_
  refine z_iadd F dX4_setCell_9 ?_
  refine lv_iload_n F.1 F.2.1 dX4_setCell_10 rfl (lv_at hl 3 rfl) ?_
  have hx11 : 0 ≤ ((row * 6) + place) ∧ ((row * 6) + place) < ((6 * gh 1 a : Nat) : Int) ∧ ((row * 6) + place) ≤ 2147483647 := ⟨by omega, by omega, by omega⟩
  refine g_iast F hH hS r_2b hx11.1 hx11.2.1 hx11.2.2 dX4_setCell_11 (fun H locs hH hS => ?_)
  obtain ⟨AI_3, eAI_3⟩ : ∃ qQ, qQ = gup2 AI (gh 0 a) (((row * 6) + place)).toNat (iI (v)) := ⟨_, rfl⟩
  rw [← eAI_3] at hH
  have kAI_3 : ∀ b, b ≠ (gh 0 a) → AI_3 b = AI b := fun b hb => by rw [eAI_3]; exact funext fun j => gup2_a _ _ hb
  have hv : gInv g gh R AR I AI_3 := by rw [eAI_3]; exact gInv_cell1 hv ha (by omega) (by omega) (by first | exact hfz | omega)
  exact g_vret F hr hlk hH hS hz ⟨rfl, rfl, rfl, rfl, rfl, eAI_3, hv, fun b hb => kAI_3 b hb⟩ dX4_setCell_12

def rmX4_amount : Room := { frames := 0, cells := 0, slots := 0, locals := 0 }
theorem hdX4_amount : yX4_amount.cls = RX4 ∧ yX4_amount.cls ≠ "java/lang/invoke/MethodHandle" ∧ yX4_amount.cls ≠ "java/lang/invoke/VarHandle" ∧ (parseMethodDescriptor yX4_amount.desc).map (fun d => d.parameters.length) = some 1 := by decide +kernel
set_option maxHeartbeats 4000000 in
set_option maxRecDepth 100000 in
/-- the amount of a row -/
theorem c_X4_amount (l : Launch) (g : gG) (gh : gGh) (I : gI) (R : gR) (J : gJ) (AI : gI) (AJ : gJ) (AR : gR) (a : Nat) (row : Int) (zrow : zr row) (hv : gInv g gh R AR I AI) (ha : gO g a 4) (h0 : 0 ≤ row) (h1 : row < (gh 1 a : Int)) : gMet l g yX4_amount wsX4_amount rmX4_amount [.ref a, .int (iI row)] (I, R, J, AI, AJ, AR) (gQi g (fun (z : Int) (w : gS) => I = w.1 ∧ R = w.2.1 ∧ J = w.2.2.1 ∧ AI = w.2.2.2.1 ∧ AJ = w.2.2.2.2.1 ∧ AR = w.2.2.2.2.2 ∧ (z = (AI (gh 0 a) (row * 6 + (I a 0).toInt).toNat).toInt))) := by
  refine gStart (cc := cX4_amount) (maxL := 2) (ret := (some (.int))) (by decide) rfl (Nat.le_of_ble_eq_true rfl) ?_
  intro p e s m below meth c ls F hr hlk hH hz hS hl
  have hl : lv_has ls 2 [(0, .ref a), (1, .int (iI row))] := hl
  have hS : va_S (gA g) s.heap s.heap [] := hS
  obtain ⟨H, hHe⟩ : ∃ H : Heap, H = s.heap := ⟨_, rfl⟩
  obtain ⟨locs, hlo⟩ : ∃ k : List Loc, k = [] := ⟨_, rfl⟩
  have hH : gH g I R J AI AJ AR H := by rw [hHe]; exact hH
  have hS : va_S (gA g) s.heap H locs := by rw [hHe, hlo]; exact hS
  suffices hw : W p l e rmX4_amount s m ([.ref a, .int (iI row)] : List Value).toArray below meth c H locs 0 0 (MQ below (gQi g (fun (z : Int) (w : gS) => I = w.1 ∧ R = w.2.1 ∧ J = w.2.2.1 ∧ AI = w.2.2.2.1 ∧ AJ = w.2.2.2.2.1 ∧ AR = w.2.2.2.2.2 ∧ (z = (AI (gh 0 a) (row * 6 + (I a 0).toInt).toNat).toInt))) ([.ref a, .int (iI row)] : List Value).toArray s 0 0 (gA g)) (F0 m 0 ls []) by
    rw [hHe, hlo] at hw; exact hw
  clear hHe hlo
  have iX4 : ∀ w ∈ u_ws RX4 TX4 4, w ∈ wsX4_amount := (by decide +kernel)
  have k16 : Cond.fieldLink RX4 16 (TX4 2).1 (TX4 2).2.1 (TX4 2).2.2.1 ∈ wsX4_amount := List.mem_of_getElem? (i := 1) rfl
  have k7 : Cond.fieldLink RX4 7 (TX4 0).1 (TX4 0).2.1 (TX4 0).2.2.1 ∈ wsX4_amount := List.mem_of_getElem? (i := 2) rfl
  refine lv_aload_n F.1 F.2.1 dX4_amount_0 rfl (lv_at hl 0 rfl) ?_
  obtain ⟨b_1a, b_1b, b_1c, b_1d, b_1e, b_1f, b_1g, b_1h⟩ := gI_rows hv ha
  obtain ⟨r_2a, r_2b⟩ := gR_cells hv ha
  refine g_getR (ci := 4) (k := 2) F hH rfl (by decide) iX4 ha (by decide) rfl (b := gh 0 a) r_2a k16 dX4_amount_1 ?_
  refine lv_iload_n F.1 F.2.1 dX4_amount_4 rfl (lv_at hl 1 rfl) ?_
  refine z_bipush F dX4_amount_5 (by decide) ?_
  refine z_imul F dX4_amount_7 ?_
  refine lv_aload_n F.1 F.2.1 dX4_amount_8 rfl (lv_at hl 0 rfl) ?_
  refine g_getI (ci := 4) (k := 0) F hH rfl (by decide) iX4 ha (by decide) rfl k7 dX4_amount_9 ?_
  refine z_iadd F dX4_amount_12 ?_
  have hx13 : 0 ≤ ((row * 6) + ((I a 0).toInt)) ∧ ((row * 6) + ((I a 0).toInt)) < ((6 * gh 1 a : Nat) : Int) ∧ ((row * 6) + ((I a 0).toInt)) ≤ 2147483647 := ⟨by omega, by omega, by omega⟩
  refine g_iald F hH r_2b hx13.1 hx13.2.1 hx13.2.2 dX4_amount_13 ?_
  exact g_iret F hr hlk hH hS hz (zr_t _) ⟨rfl, rfl, rfl, rfl, rfl, rfl, rfl⟩ dX4_amount_14

theorem hdX4_copyKey : yX4_copyKey.cls = RX4 ∧ yX4_copyKey.cls ≠ "java/lang/invoke/MethodHandle" ∧ yX4_copyKey.cls ≠ "java/lang/invoke/VarHandle" ∧ (parseMethodDescriptor yX4_copyKey.desc).map (fun d => d.parameters.length) = some 3 := by decide +kernel
theorem hdX4_compareRow : yX4_compareRow.cls = RX4 ∧ yX4_compareRow.cls ≠ "java/lang/invoke/MethodHandle" ∧ yX4_compareRow.cls ≠ "java/lang/invoke/VarHandle" ∧ (parseMethodDescriptor yX4_compareRow.desc).map (fun d => d.parameters.length) = some 3 := by decide +kernel
theorem hdX4_find : yX4_find.cls = RX4 ∧ yX4_find.cls ≠ "java/lang/invoke/MethodHandle" ∧ yX4_find.cls ≠ "java/lang/invoke/VarHandle" ∧ (parseMethodDescriptor yX4_find.desc).map (fun d => d.parameters.length) = some 1 := by decide +kernel
theorem hdX4_amountOf : yX4_amountOf.cls = RX4 ∧ yX4_amountOf.cls ≠ "java/lang/invoke/MethodHandle" ∧ yX4_amountOf.cls ≠ "java/lang/invoke/VarHandle" ∧ (parseMethodDescriptor yX4_amountOf.desc).map (fun d => d.parameters.length) = some 1 := by decide +kernel
theorem hdX4_insert : yX4_insert.cls = RX4 ∧ yX4_insert.cls ≠ "java/lang/invoke/MethodHandle" ∧ yX4_insert.cls ≠ "java/lang/invoke/VarHandle" ∧ (parseMethodDescriptor yX4_insert.desc).map (fun d => d.parameters.length) = some 3 := by decide +kernel
theorem hdX4_removeRow : yX4_removeRow.cls = RX4 ∧ yX4_removeRow.cls ≠ "java/lang/invoke/MethodHandle" ∧ yX4_removeRow.cls ≠ "java/lang/invoke/VarHandle" ∧ (parseMethodDescriptor yX4_removeRow.desc).map (fun d => d.parameters.length) = some 1 := by decide +kernel
theorem hdX4_addAmount : yX4_addAmount.cls = RX4 ∧ yX4_addAmount.cls ≠ "java/lang/invoke/MethodHandle" ∧ yX4_addAmount.cls ≠ "java/lang/invoke/VarHandle" ∧ (parseMethodDescriptor yX4_addAmount.desc).map (fun d => d.parameters.length) = some 2 := by decide +kernel
theorem hdX4_append : yX4_append.cls = RX4 ∧ yX4_append.cls ≠ "java/lang/invoke/MethodHandle" ∧ yX4_append.cls ≠ "java/lang/invoke/VarHandle" ∧ (parseMethodDescriptor yX4_append.desc).map (fun d => d.parameters.length) = some 3 := by decide +kernel
theorem hdX4_orderOfHeads : yX4_orderOfHeads.cls = RX4 ∧ yX4_orderOfHeads.cls ≠ "java/lang/invoke/MethodHandle" ∧ yX4_orderOfHeads.cls ≠ "java/lang/invoke/VarHandle" ∧ (parseMethodDescriptor yX4_orderOfHeads.desc).map (fun d => d.parameters.length) = some 4 := by decide +kernel
theorem hdX4_gather : yX4_gather.cls = RX4 ∧ yX4_gather.cls ≠ "java/lang/invoke/MethodHandle" ∧ yX4_gather.cls ≠ "java/lang/invoke/VarHandle" ∧ (parseMethodDescriptor yX4_gather.desc).map (fun d => d.parameters.length) = some 3 := by decide +kernel