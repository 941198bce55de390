def rmX4_cell : Room := { frames := 0, cells := 0, slots := 0, locals := 0 }
theorem hdX4_cell : yX4_cell.cls = RX4 ∧ yX4_cell.cls ≠ "java/lang/invoke/MethodHandle" ∧ yX4_cell.cls ≠ "java/lang/invoke/VarHandle" ∧ (parseMethodDescriptor yX4_cell.desc).map (fun d => d.parameters.length) = some 2 := by decide +kernel
set_option maxHeartbeats 4000000 in
set_option maxRecDepth 100000 in
/-- the cell at a row and a place -/
theorem c_X4_cell (l : Launch) (g : gG) (gh : gGh) (I : gI) (R : gR) (J : gJ) (AI : gI) (AJ : gJ) (AR : gR) (a : Nat) (row : Int) (place : Int) (zrow : zr row) (zplace : zr place) (hv : gInv g gh R AR I AI) (ha : gO g a 4) (h0 : 0 ≤ row) (h1 : row < (gh 1 a : Int)) (h2 : 0 ≤ place) (h3 : place ≤ 5) : gMet l g yX4_cell wsX4_cell rmX4_cell [.ref a, .int (iI row), .int (iI place)] (I, R, J, AI, AJ, AR) (gQi g (fun (z : Int) (w : gS) => I = w.1 ∧ R = w.2.1 ∧ J = w.2.2.1 ∧ AI = w.2.2.2.1 ∧ AJ = w.2.2.2.2.1 ∧ AR = w.2.2.2.2.2 ∧ (z = (AI (gh 0 a) (row * 6 + place).toNat).toInt))) := by
  refine gStart (cc := cX4_cell) (maxL := 3) (ret := (some (.int))) (by decide) rfl (Nat.le_of_ble_eq_true rfl) ?_
  intro p e s m below meth c ls F hr hlk hH hz hS hl
  have hl : lv_has ls 3 [(0, .ref a), (1, .int (iI row)), (2, .int (iI place))] := hl
  have hS : va_S (gA g) s.heap s.heap [] := hS
  obtain ⟨H, hHe⟩ : ∃ H : Heap, H = s.heap := ⟨_, rfl⟩
  obtain ⟨locs, hlo⟩ : ∃ k : List Loc, k = [] := ⟨_, rfl⟩
  have hH : gH g I R J AI AJ AR H := by rw [hHe]; exact hH
  have hS : va_S (gA g) s.heap H locs := by rw [hHe, hlo]; exact hS
  suffices hw : W p l e rmX4_cell s m ([.ref a, .int (iI row), .int (iI place)] : List Value).toArray below meth c H locs 0 0 (MQ below (gQi g (fun (z : Int) (w : gS) => I = w.1 ∧ R = w.2.1 ∧ J = w.2.2.1 ∧ AI = w.2.2.2.1 ∧ AJ = w.2.2.2.2.1 ∧ AR = w.2.2.2.2.2 ∧ (z = (AI (gh 0 a) (row * 6 + place).toNat).toInt))) ([.ref a, .int (iI row), .int (iI place)] : List Value).toArray s 0 0 (gA g)) (F0 m 0 ls []) by
    rw [hHe, hlo] at hw; exact hw
  clear hHe hlo
  have iX4 : ∀ w ∈ u_ws RX4 TX4 4, w ∈ wsX4_cell := (by decide +kernel)
  have k16 : Cond.fieldLink RX4 16 (TX4 2).1 (TX4 2).2.1 (TX4 2).2.2.1 ∈ wsX4_cell := List.mem_of_getElem? (i := 1) rfl
  refine lv_aload_n F.1 F.2.1 dX4_cell_0 rfl (lv_at hl 0 rfl) ?_
  obtain ⟨b_1a, b_1b, b_1c, b_1d, b_1e, b_1f, b_1g, b_1h⟩ := gI_rows hv ha
  obtain ⟨r_2a, r_2b⟩ := gR_cells hv ha
  refine g_getR (ci := 4) (k := 2) F hH rfl (by decide) iX4 ha (by decide) rfl (b := gh 0 a) r_2a k16 dX4_cell_1 ?_
  refine lv_iload_n F.1 F.2.1 dX4_cell_4 rfl (lv_at hl 1 rfl) ?_
  refine z_bipush F dX4_cell_5 (by decide) ?_
  refine z_imul F dX4_cell_7 ?_
  refine lv_iload_n F.1 F.2.1 dX4_cell_8 rfl (lv_at hl 2 rfl) ?_
  refine z_iadd F dX4_cell_9 ?_
  have hx10 : 0 ≤ ((row * 6) + place) ∧ ((row * 6) + place) < ((6 * gh 1 a : Nat) : Int) ∧ ((row * 6) + place) ≤ 2147483647 := ⟨by omega, by omega, by omega⟩
  refine g_iald F hH r_2b hx10.1 hx10.2.1 hx10.2.2 dX4_cell_10 ?_
  exact g_iret F hr hlk hH hS hz (zr_t _) ⟨rfl, rfl, rfl, rfl, rfl, rfl, rfl⟩ dX4_cell_11

def rmX4_setCell : Room := { frames := 0, cells := 0, slots := 0, locals := 0 }
theorem hdX4_setCell : yX4_setCell.cls = RX4 ∧ yX4_setCell.cls ≠ "java/lang/invoke/MethodHandle" ∧ yX4_setCell.cls ≠ "java/lang/invoke/VarHandle" ∧ (parseMethodDescriptor yX4_setCell.desc).map (fun d => d.parameters.length) = some 3 := by decide +kernel
set_option maxHeartbeats 4000000 in
set_option maxRecDepth 100000 in
/-- sets one cell -/
theorem c_X4_setCell (l : Launch) (g : gG) (gh : gGh) (I : gI) (R : gR) (J : gJ) (AI : gI) (AJ : gJ) (AR : gR) (a : Nat) (row : Int) (place : Int) (v : Int) (zrow : zr row) (zplace : zr place) (zv : zr v) (hv : gInv g gh R AR I AI) (ha : gO g a 4) (h0 : 0 ≤ row) (h1 : row < (gh 1 a : Int)) (h2 : 0 ≤ place) (h3 : place ≤ 5) (h5 : gh 2 a = 5 → place ≠ 0) (hfz : gh 2 a = 5 → gh 42 0 = 1 → a ≠ gh 37 0) : gMet l g yX4_setCell wsX4_setCell rmX4_setCell [.ref a, .int (iI row), .int (iI place), .int (iI v)] (I, R, J, AI, AJ, AR) (gQv g (fun w : gS => I = w.1 ∧ R = w.2.1 ∧ J = w.2.2.1 ∧ AJ = w.2.2.2.2.1 ∧ AR = w.2.2.2.2.2 ∧ ((w.2.2.2.1) = gup2 AI (gh 0 a) (row * 6 + place).toNat (iI v)) ∧ (gInv g gh R AR I (w.2.2.2.1)) ∧ (∀ b, b ≠ gh 0 a → (w.2.2.2.1) b = AI b))) := by
  refine gStart (cc := cX4_setCell) (maxL := 4) (ret := none) (by decide) rfl (Nat.le_of_ble_eq_true rfl) ?_
  intro p e s m below meth c ls F hr hlk hH hz hS hl
  have hl : lv_has ls 4 [(0, .ref a), (1, .int (iI row)), (2, .int (iI place)), (3, .int (iI v))] := hl
  have hS : va_S (gA g) s.heap s.heap [] := hS
  obtain ⟨H, hHe⟩ : ∃ H : Heap, H = s.heap := ⟨_, rfl⟩
  obtain ⟨locs, hlo⟩ : ∃ k : List Loc, k = [] := ⟨_, rfl⟩
  have hH : gH g I R J AI AJ AR H := by rw [hHe]; exact hH
  have hS : va_S (gA g) s.heap H locs := by rw [hHe, hlo]; exact hS
  suffices hw : W p l e rmX4_setCell s m ([.ref a, .int (iI row), .int (iI place), .int (iI v)] : List Value).toArray below meth c H locs 0 0 (MQ below (gQv g (fun w : gS => I = w.1 ∧ R = w.2.1 ∧ J = w.2.2.1 ∧ AJ = w.2.2.2.2.1 ∧ AR = w.2.2.2.2.2 ∧ ((w.2.2.2.1) = gup2 AI (gh 0 a) (row * 6 + place).toNat (iI v)) ∧ (gInv g gh R AR I (w.2.2.2.1)) ∧ (∀ b, b ≠ gh 0 a → (w.2.2.2.1) b = AI b))) ([.ref a, .int (iI row), .int (iI place), .int (iI v)] : List Value).toArray s 0 0 (gA g)) (F0 m 0 ls []) by
    rw [hHe, hlo] at hw; exact hw
  clear hHe hlo
  have iX4 : ∀ w ∈ u_ws RX4 TX4 4, w ∈ wsX4_setCell := (by decide +kernel)
  have k16 : Cond.fieldLink RX4 16 (TX4 2).1 (TX4 2).2.1 (TX4 2).2.2.1 ∈ wsX4_setCell := List.mem_of_getElem? (i := 1) rfl
  refine lv_aload_n F.1 F.2.1 dX4_setCell_0 rfl (lv_at hl 0 rfl) ?_
  obtain ⟨b_1a, b_1b, b_1c, b_1d, b_1e, b_1f, b_1g, b_1h⟩ := gI_rows hv ha
  obtain ⟨r_2a, r_2b⟩ := gR_cells hv ha
  refine g_getR (ci := 4) (k := 2) F hH rfl (by decide) iX4 ha (by decide) rfl (b := gh 0 a) r_2a k16 dX4_setCell_1 ?_
  refine lv_iload_n F.1 F.2.1 dX4_setCell_4 rfl (lv_at hl 1 rfl) ?_
  refine z_bipush F dX4_setCell_5 (by decide) ?_
  refine z_imul F dX4_setCell_7 ?_
  refine lv_iload_n F.1 F.2.1 dX4_setCell_8 rfl (lv_at hl 2 rfl) ?_
  refine z_iadd F dX4_setCell_9 ?_
  refine lv_iload_n F.1 F.2.1 dX4_setCell_10 rfl (lv_at hl 3 rfl) ?_
  have hx11 : 0 ≤ ((row * 6) + place) ∧ ((row * 6) + place) < ((6 * gh 1 a : Nat) : Int) ∧ ((row * 6) + place) ≤ 2147483647 := ⟨by omega, by omega, by omega⟩
  refine g_iast F hH hS r_2b hx11.1 hx11.2.1 hx11.2.2 dX4_setCell_11 (fun H locs hH hS => ?_)
  obtain ⟨AI_3, eAI_3⟩ : ∃ qQ, qQ = gup2 AI (gh 0 a) (((row * 6) + place)).toNat (iI (v)) := ⟨_, rfl⟩
  rw [← eAI_3] at hH
  have kAI_3 : ∀ b, b ≠ (gh 0 a) → AI_3 b = AI b := fun b hb => by rw [eAI_3]; exact funext fun j => gup2_a _ _ hb
  have hv : gInv g gh R AR I AI_3 := by rw [eAI_3]; exact gInv_cell1 hv ha (by omega) (by omega) (by first | exact hfz | omega)
  exact g_vret F hr hlk hH hS hz ⟨rfl, rfl, rfl, rfl, rfl, eAI_3, hv, fun b hb => kAI_3 b hb⟩ dX4_setCell_12

def rmX4_amount : Room := { frames := 0, cells := 0, slots := 0, locals := 0 }
theorem hdX4_amount : yX4_amount.cls = RX4 ∧ yX4_amount.cls ≠ "java/lang/invoke/MethodHandle" ∧ yX4_amount.cls ≠ "java/lang/invoke/VarHandle" ∧ (parseMethodDescriptor yX4_amount.desc).map (fun d => d.parameters.length) = some 1 := by decide +kernel
set_option maxHeartbeats 4000000 in
set_option maxRecDepth 100000 in
/-- the amount of a row -/
theorem c_X4_amount (l : Launch) (g : gG) (gh : gGh) (I : gI) (R : gR) (J : gJ) (AI : gI) (AJ : gJ) (AR : gR) (a : Nat) (row : Int) (zrow : zr row) (hv : gInv g gh R AR I AI) (ha : gO g a 4) (h0 : 0 ≤ row) (h1 : row < (gh 1 a : Int)) : gMet l g yX4_amount wsX4_amount rmX4_amount [.ref a, .int (iI row)] (I, R, J, AI, AJ, AR) (gQi g (fun (z : Int) (w : gS) => I = w.1 ∧ R = w.2.1 ∧ J = w.2.2.1 ∧ AI = w.2.2.2.1 ∧ AJ = w.2.2.2.2.1 ∧ AR = w.2.2.2.2.2 ∧ (z = (AI (gh 0 a) (row * 6 + (I a 0).toInt).toNat).toInt))) := by
  refine gStart (cc := cX4_amount) (maxL := 2) (ret := (some (.int))) (by decide) rfl (Nat.le_of_ble_eq_true rfl) ?_
  intro p e s m below meth c ls F hr hlk hH hz hS hl
  have hl : lv_has ls 2 [(0, .ref a), (1, .int (iI row))] := hl
  have hS : va_S (gA g) s.heap s.heap [] := hS
  obtain ⟨H, hHe⟩ : ∃ H : Heap, H = s.heap := ⟨_, rfl⟩
  obtain ⟨locs, hlo⟩ : ∃ k : List Loc, k = [] := ⟨_, rfl⟩
  have hH : gH g I R J AI AJ AR H := by rw [hHe]; exact hH
  have hS : va_S (gA g) s.heap H locs := by rw [hHe, hlo]; exact hS
  suffices hw : W p l e rmX4_amount s m ([.ref a, .int (iI row)] : List Value).toArray below meth c H locs 0 0 (MQ below (gQi g (fun (z : Int) (w : gS) => I = w.1 ∧ R = w.2.1 ∧ J = w.2.2.1 ∧ AI = w.2.2.2.1 ∧ AJ = w.2.2.2.2.1 ∧ AR = w.2.2.2.2.2 ∧ (z = (AI (gh 0 a) (row * 6 + (I a 0).toInt).toNat).toInt))) ([.ref a, .int (iI row)] : List Value).toArray s 0 0 (gA g)) (F0 m 0 ls []) by
    rw [hHe, hlo] at hw; exact hw
  clear hHe hlo
  have iX4 : ∀ w ∈ u_ws RX4 TX4 4, w ∈ wsX4_amount := (by decide +kernel)
  have k16 : Cond.fieldLink RX4 16 (TX4 2).1 (TX4 2).2.1 (TX4 2).2.2.1 ∈ wsX4_amount := List.mem_of_getElem? (i := 1) rfl
  have k7 : Cond.fieldLink RX4 7 (TX4 0).1 (TX4 0).2.1 (TX4 0).2.2.1 ∈ wsX4_amount := List.mem_of_getElem? (i := 2) rfl
  refine lv_aload_n F.1 F.2.1 dX4_amount_0 rfl (lv_at hl 0 rfl) ?_
  obtain ⟨b_1a, b_1b, b_1c, b_1d, b_1e, b_1f, b_1g, b_1h⟩ := gI_rows hv ha
  obtain ⟨r_2a, r_2b⟩ := gR_cells hv ha
  refine g_getR (ci := 4) (k := 2) F hH rfl (by decide) iX4 ha (by decide) rfl (b := gh 0 a) r_2a k16 dX4_amount_1 ?_
  refine lv_iload_n F.1 F.2.1 dX4_amount_4 rfl (lv_at hl 1 rfl) ?_
  refine z_bipush F dX4_amount_5 (by decide) ?_
  refine z_imul F dX4_amount_7 ?_
  refine lv_aload_n F.1 F.2.1 dX4_amount_8 rfl (lv_at hl 0 rfl) ?_
  refine g_getI (ci := 4) (k := 0) F hH rfl (by decide) iX4 ha (by decide) rfl k7 dX4_amount_9 ?_
  refine z_iadd F dX4_amount_12 ?_
  have hx13 : 0 ≤ ((row * 6) + ((I a 0).toInt)) ∧ ((row * 6) + ((I a 0).toInt)) < ((6 * gh 1 a : Nat) : Int) ∧ ((row * 6) + ((I a 0).toInt)) ≤ 2147483647 := ⟨by omega, by omega, by omega⟩
  refine g_iald F hH r_2b hx13.1 hx13.2.1 hx13.2.2 dX4_amount_13 ?_
  exact g_iret F hr hlk hH hS hz (zr_t _) ⟨rfl, rfl, rfl, rfl, rfl, rfl, rfl⟩ dX4_amount_14

def rmX4_copyKey : Room := { frames := 1, cells := 0, slots := 0, locals := 60 }
theorem hdX4_copyKey : yX4_copyKey.cls = RX4 ∧ yX4_copyKey.cls ≠ "java/lang/invoke/MethodHandle" ∧ yX4_copyKey.cls ≠ "java/lang/invoke/VarHandle" ∧ (parseMethodDescriptor yX4_copyKey.desc).map (fun d => d.parameters.length) = some 3 := by decide +kernel
set_option maxHeartbeats 4000000 in
set_option maxRecDepth 100000 in
/-- fills a key with the keys of a row -/
theorem c_X4_copyKey (l : Launch) (g : gG) (gh : gGh) (I : gI) (R : gR) (J : gJ) (AI : gI) (AJ : gJ) (AR : gR) (a : Nat) (row : Int) (from_ : Int) (k : Nat) (zrow : zr row) (zfrom_ : zr from_) (hv : gInv g gh R AR I AI) (ha : gO g a 4) (h0 : 0 ≤ row) (h1 : row < (gh 1 a : Int)) (hk : gAr g k 9 5) (hk0 : gh 9 k = 0) (h2 : 0 ≤ from_) (h3 : from_ ≤ 4) : gMet l g yX4_copyKey wsX4_copyKey rmX4_copyKey [.ref a, .int (iI row), .int (iI from_), .ref k] (I, R, J, AI, AJ, AR) (gQv g (fun w : gS => I = w.1 ∧ R = w.2.1 ∧ J = w.2.2.1 ∧ AJ = w.2.2.2.2.1 ∧ AR = w.2.2.2.2.2 ∧ (∀ b, b ≠ k → (w.2.2.2.1) b = AI b) ∧ (gInv g gh R AR I (w.2.2.2.1)))) := by
  refine gStart (cc := cX4_copyKey) (maxL := 4) (ret := none) (by decide) rfl (Nat.le_of_ble_eq_true rfl) ?_
  intro p e s m below meth c ls F hr hlk hH hz hS hl
  have hl : lv_has ls 4 [(0, .ref a), (1, .int (iI row)), (2, .int (iI from_)), (3, .ref k)] := hl
  have hS : va_S (gA g) s.heap s.heap [] := hS
  obtain ⟨H, hHe⟩ : ∃ H : Heap, H = s.heap := ⟨_, rfl⟩
  obtain ⟨locs, hlo⟩ : ∃ k : List Loc, k = [] := ⟨_, rfl⟩
  have hH : gH g I R J AI AJ AR H := by rw [hHe]; exact hH
  have hS : va_S (gA g) s.heap H locs := by rw [hHe, hlo]; exact hS
  suffices hw : W p l e rmX4_copyKey s m ([.ref a, .int (iI row), .int (iI from_), .ref k] : List Value).toArray below meth c H locs 0 0 (MQ below (gQv g (fun w : gS => I = w.1 ∧ R = w.2.1 ∧ J = w.2.2.1 ∧ AJ = w.2.2.2.2.1 ∧ AR = w.2.2.2.2.2 ∧ (∀ b, b ≠ k → (w.2.2.2.1) b = AI b) ∧ (gInv g gh R AR I (w.2.2.2.1)))) ([.ref a, .int (iI row), .int (iI from_), .ref k] : List Value).toArray s 0 0 (gA g)) (F0 m 0 ls []) by
    rw [hHe, hlo] at hw; exact hw
  clear hHe hlo
  have iX4 : ∀ w ∈ u_ws RX4 TX4 4, w ∈ wsX4_copyKey := (by decide +kernel)
  have k16 : Cond.fieldLink RX4 16 (TX4 2).1 (TX4 2).2.1 (TX4 2).2.2.1 ∈ wsX4_copyKey := List.mem_of_getElem? (i := 1) rfl
  have k7 : Cond.fieldLink RX4 7 (TX4 0).1 (TX4 0).2.1 (TX4 0).2.2.1 ∈ wsX4_copyKey := List.mem_of_getElem? (i := 2) rfl
  refine lv_aload_n F.1 F.2.1 dX4_copyKey_0 rfl (lv_at hl 0 rfl) ?_
  obtain ⟨b_1a, b_1b, b_1c, b_1d, b_1e, b_1f, b_1g, b_1h⟩ := gI_rows hv ha
  obtain ⟨r_2a, r_2b⟩ := gR_cells hv ha
  refine g_getR (ci := 4) (k := 2) F hH rfl (by decide) iX4 ha (by decide) rfl (b := gh 0 a) r_2a k16 dX4_copyKey_1 ?_
  refine lv_iload_n F.1 F.2.1 dX4_copyKey_4 rfl (lv_at hl 1 rfl) ?_
  refine z_bipush F dX4_copyKey_5 (by decide) ?_
  refine z_imul F dX4_copyKey_7 ?_
  refine lv_iload_n F.1 F.2.1 dX4_copyKey_8 rfl (lv_at hl 2 rfl) ?_
  refine z_iadd F dX4_copyKey_9 ?_
  refine lv_aload_n F.1 F.2.1 dX4_copyKey_10 rfl (lv_at hl 3 rfl) ?_
  refine z_iconst F dX4_copyKey_11 ?_
  refine lv_aload_n F.1 F.2.1 dX4_copyKey_12 rfl (lv_at hl 0 rfl) ?_
  refine g_getI (ci := 4) (k := 0) F hH rfl (by decide) iX4 ha (by decide) rfl k7 dX4_copyKey_13 ?_
  refine lv_iload_n F.1 F.2.1 dX4_copyKey_16 rfl (lv_at hl 2 rfl) ?_
  refine z_isub F dX4_copyKey_17 ?_
  have hx18 : 0 ≤ ((row * 6) + from_) ∧ 0 ≤ (0 : Int) ∧ 0 ≤ (((I a 0).toInt) - from_) ∧ ((row * 6) + from_) + (((I a 0).toInt) - from_) ≤ ((6 * gh 1 a : Nat) : Int) ∧ (0 : Int) + (((I a 0).toInt) - from_) ≤ ((5 : Nat) : Int) ∧ ((row * 6) + from_) ≤ 2147483647 ∧ (0 : Int) ≤ 2147483647 ∧ (((I a 0).toInt) - from_) ≤ 2147483647 := ⟨by omega, by omega, by omega, by omega, by omega, by omega, by omega, by omega⟩
  refine g_copyi (rest := []) F hl.1 hH hS r_2b hk (List.mem_of_getElem? (i := 3) rfl) (List.mem_of_getElem? (i := 4) rfl) (List.mem_of_getElem? (i := 5) rfl) (List.mem_of_getElem? (i := 6) rfl) hx18 (Nat.le_of_ble_eq_true rfl) (Nat.le_of_ble_eq_true rfl) dX4_copyKey_18 (fun H locs hH hS => ?_)
  obtain ⟨AI_3, eAI_3⟩ : ∃ qQ, qQ = gup1 AI k (va_cpy (AI (gh 0 a)) (AI k) (((row * 6) + from_)).toNat ((0 : Int)).toNat ((((I a 0).toInt) - from_)).toNat) := ⟨_, rfl⟩
  rw [← eAI_3] at hH
  have kAI_3 : ∀ b, b ≠ k → AI_3 b = AI b := fun b hb => by rw [eAI_3]; exact gup1_a _ _ hb
  have hv : gInv g gh R AR I AI_3 := gInv_plain hv hk0 kAI_3
  exact g_vret F hr hlk hH hS hz ⟨rfl, rfl, rfl, rfl, rfl, kAI_3, hv⟩ dX4_copyKey_21

def rmX4_compareRow : Room := { frames := 0, cells := 0, slots := 0, locals := 0 }
theorem hdX4_compareRow : yX4_compareRow.cls = RX4 ∧ yX4_compareRow.cls ≠ "java/lang/invoke/MethodHandle" ∧ yX4_compareRow.cls ≠ "java/lang/invoke/VarHandle" ∧ (parseMethodDescriptor yX4_compareRow.desc).map (fun d => d.parameters.length) = some 3 := by decide +kernel
set_option maxHeartbeats 4000000 in
set_option maxRecDepth 100000 in
/-- compares a row with a key -/
theorem c_X4_compareRow (l : Launch) (g : gG) (gh : gGh) (n : Nat) (I : gI) (R : gR) (J : gJ) (AI : gI) (AJ : gJ) (AR : gR) (a : Nat) (row : Int) (o : Nat) (from_ : Int) (zrow : zr row) (zfrom_ : zr from_) (hv : gInv g gh R AR I AI) (ha : gO g a 4) (h0 : 0 ≤ row) (h1 : row < (gh 1 a : Int)) (ho : gAr g o 9 n) (hn : n ≤ 1440) (h2 : 0 ≤ from_) (h3 : from_ + (gh 2 a : Int) ≤ (n : Int)) : gMet l g yX4_compareRow wsX4_compareRow rmX4_compareRow [.ref a, .int (iI row), .ref o, .int (iI from_)] (I, R, J, AI, AJ, AR) (gQi g (fun (z : Int) (w : gS) => I = w.1 ∧ R = w.2.1 ∧ J = w.2.2.1 ∧ AI = w.2.2.2.1 ∧ AJ = w.2.2.2.2.1 ∧ AR = w.2.2.2.2.2 ∧ (-1 ≤ z ∧ z ≤ 1))) := by
  refine gStart (cc := cX4_compareRow) (maxL := 8) (ret := (some (.int))) (by decide) rfl (Nat.le_of_ble_eq_true rfl) ?_
  intro p e s m below meth c ls F hr hlk hH hz hS hl
  have hl : lv_has ls 8 [(0, .ref a), (1, .int (iI row)), (2, .ref o), (3, .int (iI from_))] := hl
  have hS : va_S (gA g) s.heap s.heap [] := hS
  obtain ⟨H, hHe⟩ : ∃ H : Heap, H = s.heap := ⟨_, rfl⟩
  obtain ⟨locs, hlo⟩ : ∃ k : List Loc, k = [] := ⟨_, rfl⟩
  have hH : gH g I R J AI AJ AR H := by rw [hHe]; exact hH
  have hS : va_S (gA g) s.heap H locs := by rw [hHe, hlo]; exact hS
  suffices hw : W p l e rmX4_compareRow s m ([.ref a, .int (iI row), .ref o, .int (iI from_)] : List Value).toArray below meth c H locs 0 0 (MQ below (gQi g (fun (z : Int) (w : gS) => I = w.1 ∧ R = w.2.1 ∧ J = w.2.2.1 ∧ AI = w.2.2.2.1 ∧ AJ = w.2.2.2.2.1 ∧ AR = w.2.2.2.2.2 ∧ (-1 ≤ z ∧ z ≤ 1))) ([.ref a, .int (iI row), .ref o, .int (iI from_)] : List Value).toArray s 0 0 (gA g)) (F0 m 0 ls []) by
    rw [hHe, hlo] at hw; exact hw
  clear hHe hlo
  have iX4 : ∀ w ∈ u_ws RX4 TX4 4, w ∈ wsX4_compareRow := (by decide +kernel)
  have k7 : Cond.fieldLink RX4 7 (TX4 0).1 (TX4 0).2.1 (TX4 0).2.2.1 ∈ wsX4_compareRow := List.mem_of_getElem? (i := 1) rfl
  have k16 : Cond.fieldLink RX4 16 (TX4 2).1 (TX4 2).2.1 (TX4 2).2.2.1 ∈ wsX4_compareRow := List.mem_of_getElem? (i := 2) rfl
  refine lv_iload_n F.1 F.2.1 dX4_compareRow_0 rfl (lv_at hl 1 rfl) ?_
  refine z_bipush F dX4_compareRow_1 (by decide) ?_
  refine z_imul F dX4_compareRow_3 ?_
  refine lv_istore (lv' := [(4, .int (iI (row * 6))), (0, .ref a), (1, .int (iI row)), (2, .ref o), (3, .int (iI from_))]) F.1 F.2.1 dX4_compareRow_4 hl (by decide) rfl (fun ls hl => ?_)
  refine z_iconst F dX4_compareRow_6 ?_
  refine lv_istore (lv' := [(5, .int (iI 0)), (4, .int (iI (row * 6))), (0, .ref a), (1, .int (iI row)), (2, .ref o), (3, .int (iI from_))]) F.1 F.2.1 dX4_compareRow_7 hl (by decide) rfl (fun ls hl => ?_)
  have cut_9_0 : ∀ (NN : Nat) (k : Int) (H : Heap) (locs : List Loc) (ls : Array Slot), zr k → (0 ≤ k ∧ k ≤ 5) → (5 - k) < ((NN : Nat) : Int) → gH g I R J AI AJ AR H → va_S (gA g) s.heap H locs → lv_has ls 8 [(5, .int (iI k)), (4, .int (iI (row * 6))), (0, .ref a), (1, .int (iI row)), (2, .ref o), (3, .int (iI from_))] → W p l e rmX4_compareRow s m ([.ref a, .int (iI row), .ref o, .int (iI from_)] : List Value).toArray below meth c H locs 0 0 (MQ below (gQi g (fun (z : Int) (w : gS) => I = w.1 ∧ R = w.2.1 ∧ J = w.2.2.1 ∧ AI = w.2.2.2.1 ∧ AJ = w.2.2.2.2.1 ∧ AR = w.2.2.2.2.2 ∧ (-1 ≤ z ∧ z ≤ 1))) ([.ref a, .int (iI row), .ref o, .int (iI from_)] : List Value).toArray s 0 0 (gA g)) (F0 m 9 ls []) := by
    intro NN9
    induction NN9 with
    | zero =>
      intro k H locs ls zk hk hm9 hH hS hl
      exact absurd hm9 (by omega)
    | succ NN9 ih9 =>
      intro k H locs ls zk hk hm9 hH hS hl
      refine lv_iload F.1 F.2.1 dX4_compareRow_9 (lv_at hl 0 rfl) ?_
      refine lv_aload_n F.1 F.2.1 dX4_compareRow_11 rfl (lv_at hl 2 rfl) ?_
      refine g_getI (ci := 4) (k := 0) F hH rfl (by decide) iX4 ha (by decide) rfl k7 dX4_compareRow_12 ?_
      obtain ⟨b_2a, b_2b, b_2c, b_2d, b_2e, b_2f, b_2g, b_2h⟩ := gI_rows hv ha
      refine z_icmp_ge (tgt := 64) F dX4_compareRow_15 (by decide) zk (zr_t _) (fun c_3 => ?_) (fun c_3 => ?_)
      · refine z_iconst F dX4_compareRow_64 ?_
        exact g_iret F hr hlk hH hS hz ⟨by decide, by decide⟩ ⟨rfl, rfl, rfl, rfl, rfl, rfl, by first | omega | rfl | (dsimp only; omega)⟩ dX4_compareRow_65
      · refine lv_aload_n F.1 F.2.1 dX4_compareRow_18 rfl (lv_at hl 2 rfl) ?_
        obtain ⟨r_4a, r_4b⟩ := gR_cells hv ha
        refine g_getR (ci := 4) (k := 2) F hH rfl (by decide) iX4 ha (by decide) rfl (b := gh 0 a) r_4a k16 dX4_compareRow_19 ?_
        refine lv_iload F.1 F.2.1 dX4_compareRow_22 (lv_at hl 1 rfl) ?_
        refine lv_iload F.1 F.2.1 dX4_compareRow_24 (lv_at hl 0 rfl) ?_
        refine z_iadd F dX4_compareRow_26 ?_
        have hx27 : 0 ≤ ((row * 6) + k) ∧ ((row * 6) + k) < ((6 * gh 1 a : Nat) : Int) ∧ ((row * 6) + k) ≤ 2147483647 := ⟨by omega, by omega, by omega⟩
        refine g_iald F hH r_4b hx27.1 hx27.2.1 hx27.2.2 dX4_compareRow_27 ?_
        refine z_name (fun v_5 ev_5 => ?_)
        have zv_5 : zr v_5 := by rw [ev_5]; exact zr_t _
        refine lv_istore (lv' := [(6, .int (iI v_5)), (5, .int (iI k)), (4, .int (iI (row * 6))), (0, .ref a), (1, .int (iI row)), (2, .ref o), (3, .int (iI from_))]) F.1 F.2.1 dX4_compareRow_28 hl (by decide) rfl (fun ls hl => ?_)
        refine lv_aload_n F.1 F.2.1 dX4_compareRow_30 rfl (lv_at hl 5 rfl) ?_
        refine lv_iload_n F.1 F.2.1 dX4_compareRow_31 rfl (lv_at hl 6 rfl) ?_
        refine lv_iload F.1 F.2.1 dX4_compareRow_32 (lv_at hl 1 rfl) ?_
        refine z_iadd F dX4_compareRow_34 ?_
        have hx35 : 0 ≤ (from_ + k) ∧ (from_ + k) < ((n : Nat) : Int) ∧ (from_ + k) ≤ 2147483647 := ⟨by omega, by omega, by omega⟩
        refine g_iald F hH ho hx35.1 hx35.2.1 hx35.2.2 dX4_compareRow_35 ?_
        refine z_name (fun v_6 ev_6 => ?_)
        have zv_6 : zr v_6 := by rw [ev_6]; exact zr_t _
        refine lv_istore (lv' := [(7, .int (iI v_6)), (6, .int (iI v_5)), (5, .int (iI k)), (4, .int (iI (row * 6))), (0, .ref a), (1, .int (iI row)), (2, .ref o), (3, .int (iI from_))]) F.1 F.2.1 dX4_compareRow_36 hl (by decide) rfl (fun ls hl => ?_)
        refine lv_iload F.1 F.2.1 dX4_compareRow_38 (lv_at hl 1 rfl) ?_
        refine lv_iload F.1 F.2.1 dX4_compareRow_40 (lv_at hl 0 rfl) ?_
        refine z_icmp_eq (tgt := 58) F dX4_compareRow_42 (by decide) zv_5 zv_6 (fun c_7 => ?_) (fun c_7 => ?_)
        · refine z_iinc (lv' := [(5, .int (iI (k + 1))), (7, .int (iI v_6)), (6, .int (iI v_5)), (4, .int (iI (row * 6))), (0, .ref a), (1, .int (iI row)), (2, .ref o), (3, .int (iI from_))]) F dX4_compareRow_58 hl (k := 2) rfl (by decide) rfl (fun ls hl => ?_)
          refine z_goto (tgt := 9) F dX4_compareRow_61 (by decide) ?_
          exact ih9 (k + 1) H locs ls ⟨by omega, by omega⟩ (by omega) (by omega) hH hS (lv_sub hl [0, 3, 4, 5, 6, 7] rfl)
        · refine lv_iload F.1 F.2.1 dX4_compareRow_45 (lv_at hl 1 rfl) ?_
          refine lv_iload F.1 F.2.1 dX4_compareRow_47 (lv_at hl 0 rfl) ?_
          refine z_icmp_ge (tgt := 56) F dX4_compareRow_49 (by decide) zv_5 zv_6 (fun c_8 => ?_) (fun c_8 => ?_)
          · refine z_iconst F dX4_compareRow_56 ?_
            have cut_57_8 : ∀ (H : Heap) (locs : List Loc) (ls : Array Slot), gH g I R J AI AJ AR H → va_S (gA g) s.heap H locs → lv_has ls 8 [(7, .int (iI v_6)), (6, .int (iI v_5)), (5, .int (iI k)), (4, .int (iI (row * 6))), (0, .ref a), (1, .int (iI row)), (2, .ref o), (3, .int (iI from_))] → W p l e rmX4_compareRow s m ([.ref a, .int (iI row), .ref o, .int (iI from_)] : List Value).toArray below meth c H locs 0 0 (MQ below (gQi g (fun (z : Int) (w : gS) => I = w.1 ∧ R = w.2.1 ∧ J = w.2.2.1 ∧ AI = w.2.2.2.1 ∧ AJ = w.2.2.2.2.1 ∧ AR = w.2.2.2.2.2 ∧ (-1 ≤ z ∧ z ≤ 1))) ([.ref a, .int (iI row), .ref o, .int (iI from_)] : List Value).toArray s 0 0 (gA g)) (F0 m 57 ls [.int (iI 1)]) := by
              intro H locs ls hH hS hl
              exact g_iret F hr hlk hH hS hz ⟨by decide, by decide⟩ ⟨rfl, rfl, rfl, rfl, rfl, rfl, by first | omega | rfl | (dsimp only; omega)⟩ dX4_compareRow_57
            exact cut_57_8 H locs ls hH hS (lv_sub hl [0, 1, 2, 3, 4, 5, 6, 7] rfl)
          · refine z_iconst F dX4_compareRow_52 ?_
            refine z_goto (tgt := 57) F dX4_compareRow_53 (by decide) ?_
            have cut_57_9 : ∀ (H : Heap) (locs : List Loc) (ls : Array Slot), gH g I R J AI AJ AR H → va_S (gA g) s.heap H locs → lv_has ls 8 [(7, .int (iI v_6)), (6, .int (iI v_5)), (5, .int (iI k)), (4, .int (iI (row * 6))), (0, .ref a), (1, .int (iI row)), (2, .ref o), (3, .int (iI from_))] → W p l e rmX4_compareRow s m ([.ref a, .int (iI row), .ref o, .int (iI from_)] : List Value).toArray below meth c H locs 0 0 (MQ below (gQi g (fun (z : Int) (w : gS) => I = w.1 ∧ R = w.2.1 ∧ J = w.2.2.1 ∧ AI = w.2.2.2.1 ∧ AJ = w.2.2.2.2.1 ∧ AR = w.2.2.2.2.2 ∧ (-1 ≤ z ∧ z ≤ 1))) ([.ref a, .int (iI row), .ref o, .int (iI from_)] : List Value).toArray s 0 0 (gA g)) (F0 m 57 ls [.int (iI ((-1)))]) := by
              intro H locs ls hH hS hl
              exact g_iret F hr hlk hH hS hz ⟨by decide, by decide⟩ ⟨rfl, rfl, rfl, rfl, rfl, rfl, by first | omega | rfl | (dsimp only; omega)⟩ dX4_compareRow_57
            exact cut_57_9 H locs ls hH hS (lv_sub hl [0, 1, 2, 3, 4, 5, 6, 7] rfl)
  exact cut_9_0 (((5 - 0) + 1 : Int).toNat) 0 H locs ls ⟨by decide, by decide⟩ (by omega) (by omega) hH hS (lv_sub hl [0, 1, 2, 3, 4, 5] rfl)

def rmX4_find : Room := { frames := 1, cells := 0, slots := 0, locals := 27 }
theorem hdX4_find : yX4_find.cls = RX4 ∧ yX4_find.cls ≠ "java/lang/invoke/MethodHandle" ∧ yX4_find.cls ≠ "java/lang/invoke/VarHandle" ∧ (parseMethodDescriptor yX4_find.desc).map (fun d => d.parameters.length) = some 1 := by decide +kernel
set_option maxHeartbeats 4000000 in
set_option maxRecDepth 100000 in
/-- the row of a key, or -1 less the place where it would come -/
theorem c_X4_find (l : Launch) (g : gG) (gh : gGh) (I : gI) (R : gR) (J : gJ) (AI : gI) (AJ : gJ) (AR : gR) (a : Nat) (k : Nat) (hv : gInv g gh R AR I AI) (ha : gO g a 4) (hk : gAr g k 9 5) : gMet l g yX4_find wsX4_find rmX4_find [.ref a, .ref k] (I, R, J, AI, AJ, AR) (gQi g (fun (z : Int) (w : gS) => I = w.1 ∧ R = w.2.1 ∧ J = w.2.2.1 ∧ AI = w.2.2.2.1 ∧ AJ = w.2.2.2.2.1 ∧ AR = w.2.2.2.2.2 ∧ (-1 - (I a 3).toInt ≤ z ∧ z < (I a 3).toInt))) := by
  refine gStart (cc := cX4_find) (maxL := 6) (ret := (some (.int))) (by decide) rfl (Nat.le_of_ble_eq_true rfl) ?_
  intro p e s m below meth c ls F hr hlk hH hz hS hl
  have hl : lv_has ls 6 [(0, .ref a), (1, .ref k)] := hl
  have hS : va_S (gA g) s.heap s.heap [] := hS
  obtain ⟨H, hHe⟩ : ∃ H : Heap, H = s.heap := ⟨_, rfl⟩
  obtain ⟨locs, hlo⟩ : ∃ k : List Loc, k = [] := ⟨_, rfl⟩
  have hH : gH g I R J AI AJ AR H := by rw [hHe]; exact hH
  have hS : va_S (gA g) s.heap H locs := by rw [hHe, hlo]; exact hS
  suffices hw : W p l e rmX4_find s m ([.ref a, .ref k] : List Value).toArray below meth c H locs 0 0 (MQ below (gQi g (fun (z : Int) (w : gS) => I = w.1 ∧ R = w.2.1 ∧ J = w.2.2.1 ∧ AI = w.2.2.2.1 ∧ AJ = w.2.2.2.2.1 ∧ AR = w.2.2.2.2.2 ∧ (-1 - (I a 3).toInt ≤ z ∧ z < (I a 3).toInt))) ([.ref a, .ref k] : List Value).toArray s 0 0 (gA g)) (F0 m 0 ls []) by
    rw [hHe, hlo] at hw; exact hw
  clear hHe hlo
  have iX4 : ∀ w ∈ u_ws RX4 TX4 4, w ∈ wsX4_find := (by decide +kernel)
  have k34 : Cond.fieldLink RX4 34 (TX4 3).1 (TX4 3).2.1 (TX4 3).2.2.1 ∈ wsX4_find := List.mem_of_getElem? (i := 1) rfl
  refine z_iconst F dX4_find_0 ?_
  refine lv_istore_n (lv' := [(2, .int (iI 0)), (0, .ref a), (1, .ref k)]) F.1 F.2.1 dX4_find_1 rfl hl (by decide) rfl (fun ls hl => ?_)
  refine lv_aload_n F.1 F.2.1 dX4_find_2 rfl (lv_at hl 1 rfl) ?_
  refine g_getI (ci := 4) (k := 3) F hH rfl (by decide) iX4 ha (by decide) rfl k34 dX4_find_3 ?_
  obtain ⟨b_1a, b_1b, b_1c, b_1d, b_1e, b_1f, b_1g, b_1h⟩ := gI_rows hv ha
  refine lv_istore_n (lv' := [(3, .int (iI ((I a 3).toInt))), (2, .int (iI 0)), (0, .ref a), (1, .ref k)]) F.1 F.2.1 dX4_find_6 rfl hl (by decide) rfl (fun ls hl => ?_)
  have cut_7_1 : ∀ (NN : Nat) (lo hi : Int) (H : Heap) (locs : List Loc) (ls : Array Slot), zr lo → zr hi → (0 ≤ lo ∧ lo ≤ hi ∧ hi ≤ (I a 3).toInt) → (hi - lo) < ((NN : Nat) : Int) → gH g I R J AI AJ AR H → va_S (gA g) s.heap H locs → lv_has ls 6 [(3, .int (iI hi)), (2, .int (iI lo)), (0, .ref a), (1, .ref k)] → W p l e rmX4_find s m ([.ref a, .ref k] : List Value).toArray below meth c H locs 0 0 (MQ below (gQi g (fun (z : Int) (w : gS) => I = w.1 ∧ R = w.2.1 ∧ J = w.2.2.1 ∧ AI = w.2.2.2.1 ∧ AJ = w.2.2.2.2.1 ∧ AR = w.2.2.2.2.2 ∧ (-1 - (I a 3).toInt ≤ z ∧ z < (I a 3).toInt))) ([.ref a, .ref k] : List Value).toArray s 0 0 (gA g)) (F0 m 7 ls []) := by
    intro NN7
    induction NN7 with
    | zero =>
      intro lo hi H locs ls zlo zhi hq hm7 hH hS hl
      exact absurd hm7 (by omega)
    | succ NN7 ih7 =>
      intro lo hi H locs ls zlo zhi hq hm7 hH hS hl
      refine lv_iload_n F.1 F.2.1 dX4_find_7 rfl (lv_at hl 1 rfl) ?_
      refine lv_iload_n F.1 F.2.1 dX4_find_8 rfl (lv_at hl 0 rfl) ?_
      refine z_icmp_ge (tgt := 56) F dX4_find_9 (by decide) zlo zhi (fun c_3 => ?_) (fun c_3 => ?_)
      · refine z_iconst F dX4_find_56 ?_
        refine lv_iload_n F.1 F.2.1 dX4_find_57 rfl (lv_at hl 1 rfl) ?_
        refine z_isub F dX4_find_58 ?_
        exact g_iret F hr hlk hH hS hz ⟨by omega, by omega⟩ ⟨rfl, rfl, rfl, rfl, rfl, rfl, by first | omega | rfl | (dsimp only; omega)⟩ dX4_find_59
      · refine lv_iload_n F.1 F.2.1 dX4_find_12 rfl (lv_at hl 1 rfl) ?_
        refine lv_iload_n F.1 F.2.1 dX4_find_13 rfl (lv_at hl 0 rfl) ?_
        refine z_iadd F dX4_find_14 ?_
        refine z_iconst F dX4_find_15 ?_
        refine z_iushr1 F (by omega) (by omega) dX4_find_16 ?_
        refine lv_istore (lv' := [(4, .int (iI ((lo + hi) / 2))), (3, .int (iI hi)), (2, .int (iI lo)), (0, .ref a), (1, .ref k)]) F.1 F.2.1 dX4_find_17 hl (by decide) rfl (fun ls hl => ?_)
        refine lv_aload_n F.1 F.2.1 dX4_find_19 rfl (lv_at hl 3 rfl) ?_
        refine lv_iload F.1 F.2.1 dX4_find_20 (lv_at hl 0 rfl) ?_
        refine lv_aload_n F.1 F.2.1 dX4_find_22 rfl (lv_at hl 4 rfl) ?_
        refine z_iconst F dX4_find_23 ?_
        refine g_calli (g_runV (As := [.int (iI ((lo + hi) / 2)), .ref k, .int (iI 0)]) (rest := []) (ci := 4) F hl.1 hH hS hz (c_X4_compareRow l g gh 5 I R J AI AJ AR a ((lo + hi) / 2) k 0 ⟨by omega, by omega⟩ ⟨by decide, by decide⟩ hv ha (by omega) (by omega) hk (by decide) (by omega) (by omega)) (cwV 3 F.2.2.2.2.1 gX4_find_X4_compareRow rfl rfl rfl hdX4_compareRow ⟨Nat.le_of_ble_eq_true rfl, Nat.le_of_ble_eq_true rfl⟩) ha (by decide) rfl rfl rfl (Nat.le_of_ble_eq_true rfl) dX4_find_24 ⟨Nat.zero_le _, Nat.zero_le _⟩) hS (fun v_10 I_4 R_5 J_6 AI_7 AJ_8 AR_9 H locs zv_10 hp_11 hH hS => ?_)
        dsimp only at hp_11
        obtain ⟨rfl, rfl, rfl, rfl, rfl, rfl, q_12⟩ := hp_11
        refine lv_istore (lv' := [(5, .int (iI v_10)), (4, .int (iI ((lo + hi) / 2))), (3, .int (iI hi)), (2, .int (iI lo)), (0, .ref a), (1, .ref k)]) F.1 F.2.1 dX4_find_27 hl (by decide) rfl (fun ls hl => ?_)
        refine lv_iload F.1 F.2.1 dX4_find_29 (lv_at hl 0 rfl) ?_
        refine z_if_ne (tgt := 37) F dX4_find_31 (by decide) zv_10 (fun c_13 => ?_) (fun c_13 => ?_)
        · refine lv_iload F.1 F.2.1 dX4_find_37 (lv_at hl 0 rfl) ?_
          refine z_if_ge (tgt := 50) F dX4_find_39 (by decide) zv_10 (fun c_14 => ?_) (fun c_14 => ?_)
          · refine lv_iload F.1 F.2.1 dX4_find_50 (lv_at hl 1 rfl) ?_
            refine lv_istore_n (lv' := [(3, .int (iI ((lo + hi) / 2))), (5, .int (iI v_10)), (4, .int (iI ((lo + hi) / 2))), (2, .int (iI lo)), (0, .ref a), (1, .ref k)]) F.1 F.2.1 dX4_find_52 rfl hl (by decide) rfl (fun ls hl => ?_)
            refine z_goto (tgt := 7) F dX4_find_53 (by decide) ?_
            exact ih7 lo ((lo + hi) / 2) H locs ls zlo ⟨by omega, by omega⟩ (by omega) (by omega) hH hS (lv_sub hl [0, 3, 4, 5] rfl)
          · refine lv_iload F.1 F.2.1 dX4_find_42 (lv_at hl 1 rfl) ?_
            refine z_iconst F dX4_find_44 ?_
            refine z_iadd F dX4_find_45 ?_
            refine lv_istore_n (lv' := [(2, .int (iI (((lo + hi) / 2) + 1))), (5, .int (iI v_10)), (4, .int (iI ((lo + hi) / 2))), (3, .int (iI hi)), (0, .ref a), (1, .ref k)]) F.1 F.2.1 dX4_find_46 rfl hl (by decide) rfl (fun ls hl => ?_)
            refine z_goto (tgt := 53) F dX4_find_47 (by decide) ?_
            refine z_goto (tgt := 7) F dX4_find_53 (by decide) ?_
            exact ih7 (((lo + hi) / 2) + 1) hi H locs ls ⟨by omega, by omega⟩ zhi (by omega) (by omega) hH hS (lv_sub hl [3, 0, 4, 5] rfl)
        · refine lv_iload F.1 F.2.1 dX4_find_34 (lv_at hl 1 rfl) ?_
          exact g_iret F hr hlk hH hS hz ⟨by omega, by omega⟩ ⟨rfl, rfl, rfl, rfl, rfl, rfl, by first | omega | rfl | (dsimp only; omega)⟩ dX4_find_36
  exact cut_7_1 (((((I a 3).toInt) - 0) + 1 : Int).toNat) 0 ((I a 3).toInt) H locs ls ⟨by decide, by decide⟩ (zr_t _) (by omega) (by omega) hH hS (lv_sub hl [0, 1, 2, 3] rfl)

def rmX4_amountOf : Room := { frames := 2, cells := 0, slots := 0, locals := 52 }
theorem hdX4_amountOf : yX4_amountOf.cls = RX4 ∧ yX4_amountOf.cls ≠ "java/lang/invoke/MethodHandle" ∧ yX4_amountOf.cls ≠ "java/lang/invoke/VarHandle" ∧ (parseMethodDescriptor yX4_amountOf.desc).map (fun d => d.parameters.length) = some 1 := by decide +kernel
set_option maxHeartbeats 4000000 in
set_option maxRecDepth 100000 in
/-- the amount of a key -/
theorem c_X4_amountOf (l : Launch) (g : gG) (gh : gGh) (I : gI) (R : gR) (J : gJ) (AI : gI) (AJ : gJ) (AR : gR) (a : Nat) (k : Nat) (hv : gInv g gh R AR I AI) (ha : gO g a 4) (hk : gAr g k 9 5) : gMet l g yX4_amountOf wsX4_amountOf rmX4_amountOf [.ref a, .ref k] (I, R, J, AI, AJ, AR) (gQi g (fun (z : Int) (w : gS) => I = w.1 ∧ R = w.2.1 ∧ J = w.2.2.1 ∧ AI = w.2.2.2.1 ∧ AJ = w.2.2.2.2.1 ∧ AR = w.2.2.2.2.2)) := by
  refine gStart (cc := cX4_amountOf) (maxL := 3) (ret := (some (.int))) (by decide) rfl (Nat.le_of_ble_eq_true rfl) ?_
  intro p e s m below meth c ls F hr hlk hH hz hS hl
  have hl : lv_has ls 3 [(0, .ref a), (1, .ref k)] := hl
  have hS : va_S (gA g) s.heap s.heap [] := hS
  obtain ⟨H, hHe⟩ : ∃ H : Heap, H = s.heap := ⟨_, rfl⟩
  obtain ⟨locs, hlo⟩ : ∃ k : List Loc, k = [] := ⟨_, rfl⟩
  have hH : gH g I R J AI AJ AR H := by rw [hHe]; exact hH
  have hS : va_S (gA g) s.heap H locs := by rw [hHe, hlo]; exact hS
  suffices hw : W p l e rmX4_amountOf s m ([.ref a, .ref k] : List Value).toArray below meth c H locs 0 0 (MQ below (gQi g (fun (z : Int) (w : gS) => I = w.1 ∧ R = w.2.1 ∧ J = w.2.2.1 ∧ AI = w.2.2.2.1 ∧ AJ = w.2.2.2.2.1 ∧ AR = w.2.2.2.2.2)) ([.ref a, .ref k] : List Value).toArray s 0 0 (gA g)) (F0 m 0 ls []) by
    rw [hHe, hlo] at hw; exact hw
  clear hHe hlo
  refine lv_aload_n F.1 F.2.1 dX4_amountOf_0 rfl (lv_at hl 0 rfl) ?_
  refine lv_aload_n F.1 F.2.1 dX4_amountOf_1 rfl (lv_at hl 1 rfl) ?_
  obtain ⟨b_1a, b_1b, b_1c, b_1d, b_1e, b_1f, b_1g, b_1h⟩ := gI_rows hv ha
  refine g_calli (g_runV (As := [.ref k]) (rest := []) (ci := 4) F hl.1 hH hS hz (c_X4_find l g gh I R J AI AJ AR a k hv ha hk) (cwV 1 F.2.2.2.2.1 gX4_amountOf_X4_find rfl rfl rfl hdX4_find ⟨Nat.le_of_ble_eq_true rfl, Nat.le_of_ble_eq_true rfl⟩) ha (by decide) rfl rfl rfl (Nat.le_of_ble_eq_true rfl) dX4_amountOf_2 ⟨Nat.zero_le _, Nat.zero_le _⟩) hS (fun v_8 I_2 R_3 J_4 AI_5 AJ_6 AR_7 H locs zv_8 hp_9 hH hS => ?_)
  dsimp only at hp_9
  obtain ⟨rfl, rfl, rfl, rfl, rfl, rfl, q_10⟩ := hp_9
  refine lv_istore_n (lv' := [(2, .int (iI v_8)), (0, .ref a), (1, .ref k)]) F.1 F.2.1 dX4_amountOf_5 rfl hl (by decide) rfl (fun ls hl => ?_)
  refine lv_iload_n F.1 F.2.1 dX4_amountOf_6 rfl (lv_at hl 0 rfl) ?_
  refine z_if_ge (tgt := 14) F dX4_amountOf_7 (by decide) zv_8 (fun c_11 => ?_) (fun c_11 => ?_)
  · refine lv_aload_n F.1 F.2.1 dX4_amountOf_14 rfl (lv_at hl 1 rfl) ?_
    refine lv_iload_n F.1 F.2.1 dX4_amountOf_15 rfl (lv_at hl 0 rfl) ?_
    refine g_calli (g_runV (As := [.int (iI v_8)]) (rest := []) (ci := 4) F hl.1 hH hS hz (c_X4_amount l g gh I R J AI AJ AR a v_8 zv_8 hv ha (by omega) (by omega)) (cwV 1 F.2.2.2.2.1 gX4_amountOf_X4_amount rfl rfl rfl hdX4_amount ⟨Nat.le_of_ble_eq_true rfl, Nat.le_of_ble_eq_true rfl⟩) ha (by decide) rfl rfl rfl (Nat.le_of_ble_eq_true rfl) dX4_amountOf_16 ⟨Nat.zero_le _, Nat.zero_le _⟩) hS (fun v_18 I_12 R_13 J_14 AI_15 AJ_16 AR_17 H locs zv_18 hp_19 hH hS => ?_)
    dsimp only at hp_19
    obtain ⟨rfl, rfl, rfl, rfl, rfl, rfl, q_20⟩ := hp_19
    exact g_iret F hr hlk hH hS hz zv_18 ⟨rfl, rfl, rfl, rfl, rfl, rfl⟩ dX4_amountOf_19
  · refine z_iconst F dX4_amountOf_10 ?_
    refine z_goto (tgt := 19) F dX4_amountOf_11 (by decide) ?_
    exact g_iret F hr hlk hH hS hz ⟨by decide, by decide⟩ ⟨rfl, rfl, rfl, rfl, rfl, rfl⟩ dX4_amountOf_19

def rmX4_insert : Room := { frames := 1, cells := 0, slots := 0, locals := 60 }
theorem hdX4_insert : yX4_insert.cls = RX4 ∧ yX4_insert.cls ≠ "java/lang/invoke/MethodHandle" ∧ yX4_insert.cls ≠ "java/lang/invoke/VarHandle" ∧ (parseMethodDescriptor yX4_insert.desc).map (fun d => d.parameters.length) = some 3 := by decide +kernel
set_option maxHeartbeats 4000000 in
set_option maxRecDepth 100000 in
/-- a row comes in, if there is room -/
theorem c_X4_insert (l : Launch) (g : gG) (gh : gGh) (I : gI) (R : gR) (J : gJ) (AI : gI) (AJ : gJ) (AR : gR) (a : Nat) (row : Int) (k : Nat) (n : Int) (zrow : zr row) (zn : zr n) (hv : gInv g gh R AR I AI) (ha : gO g a 4) (hk : gAr g k 9 5) (hk0 : gh 9 k = 0) (hk5 : gh 2 a = 5 → 0 ≤ (AI k 0).toInt ∧ (AI k 0).toInt ≤ 15) (hfz : gh 2 a = 5 → gh 42 0 = 1 → a ≠ gh 37 0) : gMet l g yX4_insert wsX4_insert rmX4_insert [.ref a, .int (iI row), .ref k, .int (iI n)] (I, R, J, AI, AJ, AR) (gQi g (fun (z : Int) (w : gS) => R = w.2.1 ∧ J = w.2.2.1 ∧ AJ = w.2.2.2.2.1 ∧ AR = w.2.2.2.2.2 ∧ (gInv g gh R AR (w.1) (w.2.2.2.1)) ∧ (∀ b, b ≠ a → (w.1) b = I b) ∧ (∀ b, b ≠ gh 0 a → (w.2.2.2.1) b = AI b) ∧ (z = 0 → (w.1) = I) ∧ (z = 0 ∨ (z = 1 ∧ (I a 3).toInt < (gh 1 a : Int) ∧ 0 ≤ row ∧ row ≤ (I a 3).toInt ∧ ((w.1) a 3).toInt = (I a 3).toInt + 1)))) := by
  refine gStart (cc := cX4_insert) (maxL := 5) (ret := (some (.boolean))) (by decide) rfl (Nat.le_of_ble_eq_true rfl) ?_
  intro p e s m below meth c ls F hr hlk hH hz hS hl
  have hl : lv_has ls 5 [(0, .ref a), (1, .int (iI row)), (2, .ref k), (3, .int (iI n))] := hl
  have hS : va_S (gA g) s.heap s.heap [] := hS
  obtain ⟨H, hHe⟩ : ∃ H : Heap, H = s.heap := ⟨_, rfl⟩
  obtain ⟨locs, hlo⟩ : ∃ k : List Loc, k = [] := ⟨_, rfl⟩
  have hH : gH g I R J AI AJ AR H := by rw [hHe]; exact hH
  have hS : va_S (gA g) s.heap H locs := by rw [hHe, hlo]; exact hS
  suffices hw : W p l e rmX4_insert s m ([.ref a, .int (iI row), .ref k, .int (iI n)] : List Value).toArray below meth c H locs 0 0 (MQ below (gQi g (fun (z : Int) (w : gS) => R = w.2.1 ∧ J = w.2.2.1 ∧ AJ = w.2.2.2.2.1 ∧ AR = w.2.2.2.2.2 ∧ (gInv g gh R AR (w.1) (w.2.2.2.1)) ∧ (∀ b, b ≠ a → (w.1) b = I b) ∧ (∀ b, b ≠ gh 0 a → (w.2.2.2.1) b = AI b) ∧ (z = 0 → (w.1) = I) ∧ (z = 0 ∨ (z = 1 ∧ (I a 3).toInt < (gh 1 a : Int) ∧ 0 ≤ row ∧ row ≤ (I a 3).toInt ∧ ((w.1) a 3).toInt = (I a 3).toInt + 1)))) ([.ref a, .int (iI row), .ref k, .int (iI n)] : List Value).toArray s 0 0 (gA g)) (F0 m 0 ls []) by
    rw [hHe, hlo] at hw; exact hw
  clear hHe hlo
  have hkc : k ≠ gh 0 a := fun q => by have := (hv.1 a ha).1.2.2.1; rw [← q, hk0] at this; exact absurd this (by decide)
  have iX4 : ∀ w ∈ u_ws RX4 TX4 4, w ∈ wsX4_insert := (by decide +kernel)
  have k34 : Cond.fieldLink RX4 34 (TX4 3).1 (TX4 3).2.1 (TX4 3).2.2.1 ∈ wsX4_insert := List.mem_of_getElem? (i := 1) rfl
  have k13 : Cond.fieldLink RX4 13 (TX4 1).1 (TX4 1).2.1 (TX4 1).2.2.1 ∈ wsX4_insert := List.mem_of_getElem? (i := 2) rfl
  have k16 : Cond.fieldLink RX4 16 (TX4 2).1 (TX4 2).2.1 (TX4 2).2.2.1 ∈ wsX4_insert := List.mem_of_getElem? (i := 3) rfl
  have k7 : Cond.fieldLink RX4 7 (TX4 0).1 (TX4 0).2.1 (TX4 0).2.2.1 ∈ wsX4_insert := List.mem_of_getElem? (i := 8) rfl
  refine lv_aload_n F.1 F.2.1 dX4_insert_0 rfl (lv_at hl 0 rfl) ?_
  refine g_getI (ci := 4) (k := 3) F hH rfl (by decide) iX4 ha (by decide) rfl k34 dX4_insert_1 ?_
  obtain ⟨b_1a, b_1b, b_1c, b_1d, b_1e, b_1f, b_1g, b_1h⟩ := gI_rows hv ha
  refine lv_aload_n F.1 F.2.1 dX4_insert_4 rfl (lv_at hl 0 rfl) ?_
  refine g_getI (ci := 4) (k := 1) F hH rfl (by decide) iX4 ha (by decide) rfl k13 dX4_insert_5 ?_
  refine z_icmp_ge (tgt := 23) F dX4_insert_8 (by decide) (zr_t _) (zr_t _) (fun c_2 => ?_) (fun c_2 => ?_)
  · refine z_iconst F dX4_insert_23 ?_
    exact g_zret F hr hlk hH hS hz (by omega) ⟨rfl, rfl, rfl, rfl, hv, fun _ _ => rfl, fun _ _ => rfl, fun _ => rfl, Or.inl rfl⟩ dX4_insert_24
  · refine lv_iload_n F.1 F.2.1 dX4_insert_11 rfl (lv_at hl 1 rfl) ?_
    refine z_if_lt (tgt := 23) F dX4_insert_12 (by decide) zrow (fun c_3 => ?_) (fun c_3 => ?_)
    · refine z_iconst F dX4_insert_23 ?_
      exact g_zret F hr hlk hH hS hz (by omega) ⟨rfl, rfl, rfl, rfl, hv, fun _ _ => rfl, fun _ _ => rfl, fun _ => rfl, Or.inl rfl⟩ dX4_insert_24
    · refine lv_iload_n F.1 F.2.1 dX4_insert_15 rfl (lv_at hl 1 rfl) ?_
      refine lv_aload_n F.1 F.2.1 dX4_insert_16 rfl (lv_at hl 0 rfl) ?_
      refine g_getI (ci := 4) (k := 3) F hH rfl (by decide) iX4 ha (by decide) rfl k34 dX4_insert_17 ?_
      refine z_icmp_le (tgt := 25) F dX4_insert_20 (by decide) zrow (zr_t _) (fun c_4 => ?_) (fun c_4 => ?_)
      · refine lv_iload_n F.1 F.2.1 dX4_insert_25 rfl (lv_at hl 1 rfl) ?_
        refine z_bipush F dX4_insert_26 (by decide) ?_
        refine z_imul F dX4_insert_28 ?_
        refine lv_istore (lv' := [(4, .int (iI (row * 6))), (0, .ref a), (1, .int (iI row)), (2, .ref k), (3, .int (iI n))]) F.1 F.2.1 dX4_insert_29 hl (by decide) rfl (fun ls hl => ?_)
        refine lv_aload_n F.1 F.2.1 dX4_insert_31 rfl (lv_at hl 1 rfl) ?_
        obtain ⟨r_5a, r_5b⟩ := gR_cells hv ha
        refine g_getR (ci := 4) (k := 2) F hH rfl (by decide) iX4 ha (by decide) rfl (b := gh 0 a) r_5a k16 dX4_insert_32 ?_
        refine lv_iload F.1 F.2.1 dX4_insert_35 (lv_at hl 0 rfl) ?_
        refine lv_aload_n F.1 F.2.1 dX4_insert_37 rfl (lv_at hl 1 rfl) ?_
        refine g_getR (ci := 4) (k := 2) F hH rfl (by decide) iX4 ha (by decide) rfl (b := gh 0 a) r_5a k16 dX4_insert_38 ?_
        refine lv_iload F.1 F.2.1 dX4_insert_41 (lv_at hl 0 rfl) ?_
        refine z_bipush F dX4_insert_43 (by decide) ?_
        refine z_iadd F dX4_insert_45 ?_
        refine lv_aload_n F.1 F.2.1 dX4_insert_46 rfl (lv_at hl 1 rfl) ?_
        refine g_getI (ci := 4) (k := 3) F hH rfl (by decide) iX4 ha (by decide) rfl k34 dX4_insert_47 ?_
        refine lv_iload_n F.1 F.2.1 dX4_insert_50 rfl (lv_at hl 2 rfl) ?_
        refine z_isub F dX4_insert_51 ?_
        refine z_bipush F dX4_insert_52 (by decide) ?_
        refine z_imul F dX4_insert_54 ?_
        have hx55 : 0 ≤ (row * 6) ∧ 0 ≤ ((row * 6) + 6) ∧ 0 ≤ ((((I a 3).toInt) - row) * 6) ∧ (row * 6) + ((((I a 3).toInt) - row) * 6) ≤ ((6 * gh 1 a : Nat) : Int) ∧ ((row * 6) + 6) + ((((I a 3).toInt) - row) * 6) ≤ ((6 * gh 1 a : Nat) : Int) ∧ (row * 6) ≤ 2147483647 ∧ ((row * 6) + 6) ≤ 2147483647 ∧ ((((I a 3).toInt) - row) * 6) ≤ 2147483647 := ⟨by omega, by omega, by omega, by omega, by omega, by omega, by omega, by omega⟩
        refine g_copyi (rest := []) F hl.1 hH hS r_5b r_5b (List.mem_of_getElem? (i := 4) rfl) (List.mem_of_getElem? (i := 5) rfl) (List.mem_of_getElem? (i := 6) rfl) (List.mem_of_getElem? (i := 7) rfl) hx55 (Nat.le_of_ble_eq_true rfl) (Nat.le_of_ble_eq_true rfl) dX4_insert_55 (fun H locs hH hS => ?_)
        obtain ⟨AI_6, eAI_6⟩ : ∃ qQ, qQ = gup1 AI (gh 0 a) (va_cpy (AI (gh 0 a)) (AI (gh 0 a)) ((row * 6)).toNat (((row * 6) + 6)).toNat (((((I a 3).toInt) - row) * 6)).toNat) := ⟨_, rfl⟩
        rw [← eAI_6] at hH
        have kAI_6 : ∀ b, b ≠ (gh 0 a) → AI_6 b = AI b := fun b hb => by rw [eAI_6]; exact gup1_a _ _ hb
        have hv : gInv g gh R AR I AI_6 := by rw [eAI_6]; exact gInv_cpyS hv ha ⟨by omega, by omega⟩ ⟨by omega, by omega⟩ ⟨by omega, by omega⟩ (by first | exact hfz | omega)
        refine lv_aload_n F.1 F.2.1 dX4_insert_58 rfl (lv_at hl 3 rfl) ?_
        refine z_iconst F dX4_insert_59 ?_
        refine lv_aload_n F.1 F.2.1 dX4_insert_60 rfl (lv_at hl 1 rfl) ?_
        refine g_getR (ci := 4) (k := 2) F hH rfl (by decide) iX4 ha (by decide) rfl (b := gh 0 a) r_5a k16 dX4_insert_61 ?_
        refine lv_iload F.1 F.2.1 dX4_insert_64 (lv_at hl 0 rfl) ?_
        refine lv_aload_n F.1 F.2.1 dX4_insert_66 rfl (lv_at hl 1 rfl) ?_
        refine g_getI (ci := 4) (k := 0) F hH rfl (by decide) iX4 ha (by decide) rfl k7 dX4_insert_67 ?_
        have hx70 : 0 ≤ (0 : Int) ∧ 0 ≤ (row * 6) ∧ 0 ≤ ((I a 0).toInt) ∧ (0 : Int) + ((I a 0).toInt) ≤ ((5 : Nat) : Int) ∧ (row * 6) + ((I a 0).toInt) ≤ ((6 * gh 1 a : Nat) : Int) ∧ (0 : Int) ≤ 2147483647 ∧ (row * 6) ≤ 2147483647 ∧ ((I a 0).toInt) ≤ 2147483647 := ⟨by omega, by omega, by omega, by omega, by omega, by omega, by omega, by omega⟩
        refine g_copyi (rest := []) F hl.1 hH hS hk r_5b (List.mem_of_getElem? (i := 4) rfl) (List.mem_of_getElem? (i := 5) rfl) (List.mem_of_getElem? (i := 6) rfl) (List.mem_of_getElem? (i := 7) rfl) hx70 (Nat.le_of_ble_eq_true rfl) (Nat.le_of_ble_eq_true rfl) dX4_insert_70 (fun H locs hH hS => ?_)
        obtain ⟨AI_7, eAI_7⟩ : ∃ qQ, qQ = gup1 AI_6 (gh 0 a) (va_cpy (AI_6 k) (AI_6 (gh 0 a)) ((0 : Int)).toNat ((row * 6)).toNat (((I a 0).toInt)).toNat) := ⟨_, rfl⟩
        rw [← eAI_7] at hH
        have kAI_7 : ∀ b, b ≠ (gh 0 a) → AI_7 b = AI_6 b := fun b hb => by rw [eAI_7]; exact gup1_a _ _ hb
        have hv : gInv g gh R AR I AI_7 := by rw [eAI_7]; exact gInv_cpyK hv ha (fun h5 => by rw [kAI_6 k hkc]; exact hk5 h5) ⟨by omega, by omega⟩ ⟨by omega, by omega⟩ (by first | exact hfz | omega)
        refine lv_aload_n F.1 F.2.1 dX4_insert_73 rfl (lv_at hl 1 rfl) ?_
        refine g_getR (ci := 4) (k := 2) F hH rfl (by decide) iX4 ha (by decide) rfl (b := gh 0 a) r_5a k16 dX4_insert_74 ?_
        refine lv_iload F.1 F.2.1 dX4_insert_77 (lv_at hl 0 rfl) ?_
        refine z_iconst F dX4_insert_79 ?_
        refine z_iadd F dX4_insert_80 ?_
        refine z_iconst F dX4_insert_81 ?_
        have hx82 : 0 ≤ ((row * 6) + 5) ∧ ((row * 6) + 5) < ((6 * gh 1 a : Nat) : Int) ∧ ((row * 6) + 5) ≤ 2147483647 := ⟨by omega, by omega, by omega⟩
        refine g_iast F hH hS r_5b hx82.1 hx82.2.1 hx82.2.2 dX4_insert_82 (fun H locs hH hS => ?_)
        obtain ⟨AI_8, eAI_8⟩ : ∃ qQ, qQ = gup2 AI_7 (gh 0 a) (((row * 6) + 5)).toNat (iI (0)) := ⟨_, rfl⟩
        rw [← eAI_8] at hH
        have kAI_8 : ∀ b, b ≠ (gh 0 a) → AI_8 b = AI_7 b := fun b hb => by rw [eAI_8]; exact funext fun j => gup2_a _ _ hb
        have hv : gInv g gh R AR I AI_8 := by rw [eAI_8]; exact gInv_cell1 hv ha (by omega) (by omega) (by first | exact hfz | omega)
        refine lv_aload_n F.1 F.2.1 dX4_insert_83 rfl (lv_at hl 1 rfl) ?_
        refine g_getR (ci := 4) (k := 2) F hH rfl (by decide) iX4 ha (by decide) rfl (b := gh 0 a) r_5a k16 dX4_insert_84 ?_
        refine lv_iload F.1 F.2.1 dX4_insert_87 (lv_at hl 0 rfl) ?_
        refine lv_aload_n F.1 F.2.1 dX4_insert_89 rfl (lv_at hl 1 rfl) ?_
        refine g_getI (ci := 4) (k := 0) F hH rfl (by decide) iX4 ha (by decide) rfl k7 dX4_insert_90 ?_
        refine z_iadd F dX4_insert_93 ?_
        refine lv_iload_n F.1 F.2.1 dX4_insert_94 rfl (lv_at hl 4 rfl) ?_
        have hx95 : 0 ≤ ((row * 6) + ((I a 0).toInt)) ∧ ((row * 6) + ((I a 0).toInt)) < ((6 * gh 1 a : Nat) : Int) ∧ ((row * 6) + ((I a 0).toInt)) ≤ 2147483647 := ⟨by omega, by omega, by omega⟩
        refine g_iast F hH hS r_5b hx95.1 hx95.2.1 hx95.2.2 dX4_insert_95 (fun H locs hH hS => ?_)
        obtain ⟨AI_9, eAI_9⟩ : ∃ qQ, qQ = gup2 AI_8 (gh 0 a) (((row * 6) + ((I a 0).toInt))).toNat (iI (n)) := ⟨_, rfl⟩
        rw [← eAI_9] at hH
        have kAI_9 : ∀ b, b ≠ (gh 0 a) → AI_9 b = AI_8 b := fun b hb => by rw [eAI_9]; exact funext fun j => gup2_a _ _ hb
        have hv : gInv g gh R AR I AI_9 := by rw [eAI_9]; exact gInv_cell1 hv ha (by omega) (by omega) (by first | exact hfz | omega)
        refine lv_aload_n F.1 F.2.1 dX4_insert_96 rfl (lv_at hl 1 rfl) ?_
        refine lv_dup F.1 F.2.1 dX4_insert_97 rfl ?_
        refine g_getI (ci := 4) (k := 3) F hH rfl (by decide) iX4 ha (by decide) rfl k34 dX4_insert_98 ?_
        refine z_iconst F dX4_insert_101 ?_
        refine z_iadd F dX4_insert_102 ?_
        refine g_putI (ci := 4) (k := 3) F hH hS rfl (by decide) iX4 ha (by decide) tyX4 tyX4_ok nmX4 rfl rfl rfl k34 dX4_insert_103 (fun H locs hH hS => ?_)
        obtain ⟨I_10, eI_10⟩ : ∃ qQ, qQ = gup2 I a 3 (iI (((I a 3).toInt) + 1)) := ⟨_, rfl⟩
        rw [← eI_10] at hH
        have kI_10 : ∀ b, b ≠ a → I_10 b = I b := fun b hb => by rw [eI_10]; exact funext fun j => gup2_a _ _ hb
        have w_11 : (I_10 a 3).toInt = ((I a 3).toInt) + 1 := by rw [eI_10, gup2_s]; exact iI_val ⟨by omega, by omega⟩
        have hv : gInv g gh R AR I_10 AI_9 := by rw [eI_10]; exact gInv_len hv ha (by omega) (by omega) (by first | exact hfz | omega)
        refine z_iconst F dX4_insert_106 ?_
        exact g_zret F hr hlk hH hS hz (by omega) ⟨rfl, rfl, rfl, rfl, hv, fun b hb => kI_10 b hb, fun b hb => (((kAI_9 b hb).trans (kAI_8 b hb)).trans (kAI_7 b hb)).trans (kAI_6 b hb), fun h => absurd h (by omega), Or.inr ⟨rfl, by omega, by omega, by omega, by omega⟩⟩ dX4_insert_107
      · refine z_iconst F dX4_insert_23 ?_
        exact g_zret F hr hlk hH hS hz (by omega) ⟨rfl, rfl, rfl, rfl, hv, fun _ _ => rfl, fun _ _ => rfl, fun _ => rfl, Or.inl rfl⟩ dX4_insert_24

def rmX4_removeRow : Room := { frames := 1, cells := 0, slots := 0, locals := 60 }
theorem hdX4_removeRow : yX4_removeRow.cls = RX4 ∧ yX4_removeRow.cls ≠ "java/lang/invoke/MethodHandle" ∧ yX4_removeRow.cls ≠ "java/lang/invoke/VarHandle" ∧ (parseMethodDescriptor yX4_removeRow.desc).map (fun d => d.parameters.length) = some 1 := by decide +kernel
set_option maxHeartbeats 4000000 in
set_option maxRecDepth 100000 in
/-- a row goes out -/
theorem c_X4_removeRow (l : Launch) (g : gG) (gh : gGh) (I : gI) (R : gR) (J : gJ) (AI : gI) (AJ : gJ) (AR : gR) (a : Nat) (row : Int) (zrow : zr row) (hv : gInv g gh R AR I AI) (ha : gO g a 4) (h0 : 0 ≤ row) (h1 : row < (I a 3).toInt) (hfz : gh 2 a = 5 → gh 42 0 = 1 → a ≠ gh 37 0) : gMet l g yX4_removeRow wsX4_removeRow rmX4_removeRow [.ref a, .int (iI row)] (I, R, J, AI, AJ, AR) (gQv g (fun w : gS => R = w.2.1 ∧ J = w.2.2.1 ∧ AJ = w.2.2.2.2.1 ∧ AR = w.2.2.2.2.2 ∧ (gInv g gh R AR (w.1) (w.2.2.2.1)) ∧ (∀ b, b ≠ a → (w.1) b = I b) ∧ (∀ b, b ≠ gh 0 a → (w.2.2.2.1) b = AI b) ∧ (((w.1) a 3).toInt = (I a 3).toInt - 1))) := by
  refine gStart (cc := cX4_removeRow) (maxL := 3) (ret := none) (by decide) rfl (Nat.le_of_ble_eq_true rfl) ?_
  intro p e s m below meth c ls F hr hlk hH hz hS hl
  have hl : lv_has ls 3 [(0, .ref a), (1, .int (iI row))] := hl
  have hS : va_S (gA g) s.heap s.heap [] := hS
  obtain ⟨H, hHe⟩ : ∃ H : Heap, H = s.heap := ⟨_, rfl⟩
  obtain ⟨locs, hlo⟩ : ∃ k : List Loc, k = [] := ⟨_, rfl⟩
  have hH : gH g I R J AI AJ AR H := by rw [hHe]; exact hH
  have hS : va_S (gA g) s.heap H locs := by rw [hHe, hlo]; exact hS
  suffices hw : W p l e rmX4_removeRow s m ([.ref a, .int (iI row)] : List Value).toArray below meth c H locs 0 0 (MQ below (gQv g (fun w : gS => R = w.2.1 ∧ J = w.2.2.1 ∧ AJ = w.2.2.2.2.1 ∧ AR = w.2.2.2.2.2 ∧ (gInv g gh R AR (w.1) (w.2.2.2.1)) ∧ (∀ b, b ≠ a → (w.1) b = I b) ∧ (∀ b, b ≠ gh 0 a → (w.2.2.2.1) b = AI b) ∧ (((w.1) a 3).toInt = (I a 3).toInt - 1))) ([.ref a, .int (iI row)] : List Value).toArray s 0 0 (gA g)) (F0 m 0 ls []) by
    rw [hHe, hlo] at hw; exact hw
  clear hHe hlo
  have iX4 : ∀ w ∈ u_ws RX4 TX4 4, w ∈ wsX4_removeRow := (by decide +kernel)
  have k34 : Cond.fieldLink RX4 34 (TX4 3).1 (TX4 3).2.1 (TX4 3).2.2.1 ∈ wsX4_removeRow := List.mem_of_getElem? (i := 1) rfl
  have k16 : Cond.fieldLink RX4 16 (TX4 2).1 (TX4 2).2.1 (TX4 2).2.2.1 ∈ wsX4_removeRow := List.mem_of_getElem? (i := 2) rfl
  refine lv_iload_n F.1 F.2.1 dX4_removeRow_0 rfl (lv_at hl 1 rfl) ?_
  refine z_bipush F dX4_removeRow_1 (by decide) ?_
  refine z_imul F dX4_removeRow_3 ?_
  refine lv_istore_n (lv' := [(2, .int (iI (row * 6))), (0, .ref a), (1, .int (iI row))]) F.1 F.2.1 dX4_removeRow_4 rfl hl (by decide) rfl (fun ls hl => ?_)
  refine lv_aload_n F.1 F.2.1 dX4_removeRow_5 rfl (lv_at hl 1 rfl) ?_
  refine lv_dup F.1 F.2.1 dX4_removeRow_6 rfl ?_
  refine g_getI (ci := 4) (k := 3) F hH rfl (by decide) iX4 ha (by decide) rfl k34 dX4_removeRow_7 ?_
  obtain ⟨b_1a, b_1b, b_1c, b_1d, b_1e, b_1f, b_1g, b_1h⟩ := gI_rows hv ha
  refine z_iconst F dX4_removeRow_10 ?_
  refine z_isub F dX4_removeRow_11 ?_
  refine g_putI (ci := 4) (k := 3) F hH hS rfl (by decide) iX4 ha (by decide) tyX4 tyX4_ok nmX4 rfl rfl rfl k34 dX4_removeRow_12 (fun H locs hH hS => ?_)
  obtain ⟨I_2, eI_2⟩ : ∃ qQ, qQ = gup2 I a 3 (iI (((I a 3).toInt) - 1)) := ⟨_, rfl⟩
  rw [← eI_2] at hH
  have kI_2 : ∀ b, b ≠ a → I_2 b = I b := fun b hb => by rw [eI_2]; exact funext fun j => gup2_a _ _ hb
  have w_3 : (I_2 a 3).toInt = ((I a 3).toInt) - 1 := by rw [eI_2, gup2_s]; exact iI_val ⟨by omega, by omega⟩
  have hv : gInv g gh R AR I_2 AI := by rw [eI_2]; exact gInv_len hv ha (by omega) (by omega) (by first | exact hfz | omega)
  refine lv_aload_n F.1 F.2.1 dX4_removeRow_15 rfl (lv_at hl 1 rfl) ?_
  obtain ⟨b_4a, b_4b, b_4c, b_4d, b_4e, b_4f, b_4g, b_4h⟩ := gI_rows hv ha
  obtain ⟨r_5a, r_5b⟩ := gR_cells hv ha
  refine g_getR (ci := 4) (k := 2) F hH rfl (by decide) iX4 ha (by decide) rfl (b := gh 0 a) r_5a k16 dX4_removeRow_16 ?_
  refine lv_iload_n F.1 F.2.1 dX4_removeRow_19 rfl (lv_at hl 0 rfl) ?_
  refine z_bipush F dX4_removeRow_20 (by decide) ?_
  refine z_iadd F dX4_removeRow_22 ?_
  refine lv_aload_n F.1 F.2.1 dX4_removeRow_23 rfl (lv_at hl 1 rfl) ?_
  refine g_getR (ci := 4) (k := 2) F hH rfl (by decide) iX4 ha (by decide) rfl (b := gh 0 a) r_5a k16 dX4_removeRow_24 ?_
  refine lv_iload_n F.1 F.2.1 dX4_removeRow_27 rfl (lv_at hl 0 rfl) ?_
  refine lv_aload_n F.1 F.2.1 dX4_removeRow_28 rfl (lv_at hl 1 rfl) ?_
  refine g_getI (ci := 4) (k := 3) F hH rfl (by decide) iX4 ha (by decide) rfl k34 dX4_removeRow_29 ?_
  refine lv_iload_n F.1 F.2.1 dX4_removeRow_32 rfl (lv_at hl 2 rfl) ?_
  refine z_isub F dX4_removeRow_33 ?_
  refine z_bipush F dX4_removeRow_34 (by decide) ?_
  refine z_imul F dX4_removeRow_36 ?_
  have hx37 : 0 ≤ ((row * 6) + 6) ∧ 0 ≤ (row * 6) ∧ 0 ≤ ((((I_2 a 3).toInt) - row) * 6) ∧ ((row * 6) + 6) + ((((I_2 a 3).toInt) - row) * 6) ≤ ((6 * gh 1 a : Nat) : Int) ∧ (row * 6) + ((((I_2 a 3).toInt) - row) * 6) ≤ ((6 * gh 1 a : Nat) : Int) ∧ ((row * 6) + 6) ≤ 2147483647 ∧ (row * 6) ≤ 2147483647 ∧ ((((I_2 a 3).toInt) - row) * 6) ≤ 2147483647 := ⟨by omega, by omega, by omega, by omega, by omega, by omega, by omega, by omega⟩
  refine g_copyi (rest := []) F hl.1 hH hS r_5b r_5b (List.mem_of_getElem? (i := 3) rfl) (List.mem_of_getElem? (i := 4) rfl) (List.mem_of_getElem? (i := 5) rfl) (List.mem_of_getElem? (i := 6) rfl) hx37 (Nat.le_of_ble_eq_true rfl) (Nat.le_of_ble_eq_true rfl) dX4_removeRow_37 (fun H locs hH hS => ?_)
  obtain ⟨AI_6, eAI_6⟩ : ∃ qQ, qQ = gup1 AI (gh 0 a) (va_cpy (AI (gh 0 a)) (AI (gh 0 a)) (((row * 6) + 6)).toNat ((row * 6)).toNat (((((I_2 a 3).toInt) - row) * 6)).toNat) := ⟨_, rfl⟩
  rw [← eAI_6] at hH
  have kAI_6 : ∀ b, b ≠ (gh 0 a) → AI_6 b = AI b := fun b hb => by rw [eAI_6]; exact gup1_a _ _ hb
  have hv : gInv g gh R AR I_2 AI_6 := by rw [eAI_6]; exact gInv_cpyS hv ha ⟨by omega, by omega⟩ ⟨by omega, by omega⟩ ⟨by omega, by omega⟩ (by first | exact hfz | omega)
  exact g_vret F hr hlk hH hS hz ⟨rfl, rfl, rfl, rfl, hv, fun b hb => kI_2 b hb, fun b hb => kAI_6 b hb, by first | omega | rfl | (dsimp only; omega)⟩ dX4_removeRow_40

def rmX4_addAmount : Room := { frames := 2, cells := 0, slots := 0, locals := 84 }
theorem hdX4_addAmount : yX4_addAmount.cls = RX4 ∧ yX4_addAmount.cls ≠ "java/lang/invoke/MethodHandle" ∧ yX4_addAmount.cls ≠ "java/lang/invoke/VarHandle" ∧ (parseMethodDescriptor yX4_addAmount.desc).map (fun d => d.parameters.length) = some 2 := by decide +kernel
set_option maxHeartbeats 4000000 in
set_option maxRecDepth 100000 in
/-- the amount of a key is more by n -/
theorem c_X4_addAmount (l : Launch) (g : gG) (gh : gGh) (I : gI) (R : gR) (J : gJ) (AI : gI) (AJ : gJ) (AR : gR) (a : Nat) (k : Nat) (n : Int) (zn : zr n) (hv : gInv g gh R AR I AI) (ha : gO g a 4) (hk : gAr g k 9 5) (hk0 : gh 9 k = 0) (hk5 : gh 2 a = 5 → 0 ≤ (AI k 0).toInt ∧ (AI k 0).toInt ≤ 15) (hfz : gh 2 a = 5 → gh 42 0 = 1 → a ≠ gh 37 0) : gMet l g yX4_addAmount wsX4_addAmount rmX4_addAmount [.ref a, .ref k, .int (iI n)] (I, R, J, AI, AJ, AR) (gQi g (fun (z : Int) (w : gS) => R = w.2.1 ∧ J = w.2.2.1 ∧ AJ = w.2.2.2.2.1 ∧ AR = w.2.2.2.2.2 ∧ (gInv g gh R AR (w.1) (w.2.2.2.1)) ∧ (∀ b, b ≠ a → (w.1) b = I b) ∧ (∀ b, b ≠ gh 0 a → (w.2.2.2.1) b = AI b))) := by
  refine gStart (cc := cX4_addAmount) (maxL := 5) (ret := (some (.boolean))) (by decide) rfl (Nat.le_of_ble_eq_true rfl) ?_
  intro p e s m below meth c ls F hr hlk hH hz hS hl
  have hl : lv_has ls 5 [(0, .ref a), (1, .ref k), (2, .int (iI n))] := hl
  have hS : va_S (gA g) s.heap s.heap [] := hS
  obtain ⟨H, hHe⟩ : ∃ H : Heap, H = s.heap := ⟨_, rfl⟩
  obtain ⟨locs, hlo⟩ : ∃ k : List Loc, k = [] := ⟨_, rfl⟩
  have hH : gH g I R J AI AJ AR H := by rw [hHe]; exact hH
  have hS : va_S (gA g) s.heap H locs := by rw [hHe, hlo]; exact hS
  suffices hw : W p l e rmX4_addAmount s m ([.ref a, .ref k, .int (iI n)] : List Value).toArray below meth c H locs 0 0 (MQ below (gQi g (fun (z : Int) (w : gS) => R = w.2.1 ∧ J = w.2.2.1 ∧ AJ = w.2.2.2.2.1 ∧ AR = w.2.2.2.2.2 ∧ (gInv g gh R AR (w.1) (w.2.2.2.1)) ∧ (∀ b, b ≠ a → (w.1) b = I b) ∧ (∀ b, b ≠ gh 0 a → (w.2.2.2.1) b = AI b))) ([.ref a, .ref k, .int (iI n)] : List Value).toArray s 0 0 (gA g)) (F0 m 0 ls []) by
    rw [hHe, hlo] at hw; exact hw
  clear hHe hlo
  have iX4 : ∀ w ∈ u_ws RX4 TX4 4, w ∈ wsX4_addAmount := (by decide +kernel)
  have k7 : Cond.fieldLink RX4 7 (TX4 0).1 (TX4 0).2.1 (TX4 0).2.2.1 ∈ wsX4_addAmount := List.mem_of_getElem? (i := 1) rfl
  refine lv_aload_n F.1 F.2.1 dX4_addAmount_0 rfl (lv_at hl 0 rfl) ?_
  refine lv_aload_n F.1 F.2.1 dX4_addAmount_1 rfl (lv_at hl 1 rfl) ?_
  obtain ⟨b_1a, b_1b, b_1c, b_1d, b_1e, b_1f, b_1g, b_1h⟩ := gI_rows hv ha
  refine g_calli (g_runV (As := [.ref k]) (rest := []) (ci := 4) F hl.1 hH hS hz (c_X4_find l g gh I R J AI AJ AR a k hv ha hk) (cwV 1 F.2.2.2.2.1 gX4_addAmount_X4_find rfl rfl rfl hdX4_find ⟨Nat.le_of_ble_eq_true rfl, Nat.le_of_ble_eq_true rfl⟩) ha (by decide) rfl rfl rfl (Nat.le_of_ble_eq_true rfl) dX4_addAmount_2 ⟨Nat.zero_le _, Nat.zero_le _⟩) hS (fun v_8 I_2 R_3 J_4 AI_5 AJ_6 AR_7 H locs zv_8 hp_9 hH hS => ?_)
  dsimp only at hp_9
  obtain ⟨rfl, rfl, rfl, rfl, rfl, rfl, q_10⟩ := hp_9
  refine lv_istore_n (lv' := [(3, .int (iI v_8)), (0, .ref a), (1, .ref k), (2, .int (iI n))]) F.1 F.2.1 dX4_addAmount_5 rfl hl (by decide) rfl (fun ls hl => ?_)
  refine lv_iload_n F.1 F.2.1 dX4_addAmount_6 rfl (lv_at hl 0 rfl) ?_
  refine z_if_ge (tgt := 32) F dX4_addAmount_7 (by decide) zv_8 (fun c_11 => ?_) (fun c_11 => ?_)
  · refine lv_aload_n F.1 F.2.1 dX4_addAmount_32 rfl (lv_at hl 1 rfl) ?_
    refine lv_iload_n F.1 F.2.1 dX4_addAmount_33 rfl (lv_at hl 0 rfl) ?_
    refine g_calli (g_runV (As := [.int (iI v_8)]) (rest := []) (ci := 4) F hl.1 hH hS hz (c_X4_amount l g gh I R J AI AJ AR a v_8 zv_8 hv ha (by omega) (by omega)) (cwV 1 F.2.2.2.2.1 gX4_addAmount_X4_amount rfl rfl rfl hdX4_amount ⟨Nat.le_of_ble_eq_true rfl, Nat.le_of_ble_eq_true rfl⟩) ha (by decide) rfl rfl rfl (Nat.le_of_ble_eq_true rfl) dX4_addAmount_34 ⟨Nat.zero_le _, Nat.zero_le _⟩) hS (fun v_18 I_12 R_13 J_14 AI_15 AJ_16 AR_17 H locs zv_18 hp_19 hH hS => ?_)
    dsimp only at hp_19
    obtain ⟨rfl, rfl, rfl, rfl, rfl, rfl, q_20⟩ := hp_19
    refine lv_iload_n F.1 F.2.1 dX4_addAmount_37 rfl (lv_at hl 3 rfl) ?_
    refine z_iadd F dX4_addAmount_38 ?_
    refine z_norm (fun v_21 zv_21 ev_21 => ?_)
    refine lv_istore (lv' := [(4, .int (iI v_21)), (3, .int (iI v_8)), (0, .ref a), (1, .ref k), (2, .int (iI n))]) F.1 F.2.1 dX4_addAmount_39 hl (by decide) rfl (fun ls hl => ?_)
    refine lv_iload F.1 F.2.1 dX4_addAmount_41 (lv_at hl 0 rfl) ?_
    refine z_if_ne (tgt := 54) F dX4_addAmount_43 (by decide) zv_21 (fun c_22 => ?_) (fun c_22 => ?_)
    · refine lv_aload_n F.1 F.2.1 dX4_addAmount_54 rfl (lv_at hl 2 rfl) ?_
      refine lv_iload_n F.1 F.2.1 dX4_addAmount_55 rfl (lv_at hl 1 rfl) ?_
      refine lv_aload_n F.1 F.2.1 dX4_addAmount_56 rfl (lv_at hl 2 rfl) ?_
      refine g_getI (ci := 4) (k := 0) F hH rfl (by decide) iX4 ha (by decide) rfl k7 dX4_addAmount_57 ?_
      refine lv_iload F.1 F.2.1 dX4_addAmount_60 (lv_at hl 0 rfl) ?_
      refine g_callv (g_runV (As := [.int (iI v_8), .int (iI ((I a 0).toInt)), .int (iI v_21)]) (rest := []) (ci := 4) F hl.1 hH hS hz (c_X4_setCell l g gh I R J AI AJ AR a v_8 ((I a 0).toInt) v_21 zv_8 (zr_t _) zv_21 hv ha (by omega) (by omega) (by omega) (by omega) (fun h => by omega) (by first | exact hfz | omega)) (cwV 3 F.2.2.2.2.1 gX4_addAmount_X4_setCell rfl rfl rfl hdX4_setCell ⟨Nat.le_of_ble_eq_true rfl, Nat.le_of_ble_eq_true rfl⟩) ha (by decide) rfl rfl rfl (Nat.le_of_ble_eq_true rfl) dX4_addAmount_62 ⟨Nat.zero_le _, Nat.zero_le _⟩) hS (fun I_23 R_24 J_25 AI_26 AJ_27 AR_28 H locs hp_29 hH hS => ?_)
      dsimp only at hp_29
      obtain ⟨rfl, rfl, rfl, rfl, rfl, q_30, hv, q_31⟩ := hp_29
      refine z_iconst F dX4_addAmount_65 ?_
      exact g_zret F hr hlk hH hS hz (by omega) ⟨rfl, rfl, rfl, rfl, hv, fun _ _ => rfl, fun b hb => q_31 b hb⟩ dX4_addAmount_66
    · refine lv_aload_n F.1 F.2.1 dX4_addAmount_46 rfl (lv_at hl 2 rfl) ?_
      refine lv_iload_n F.1 F.2.1 dX4_addAmount_47 rfl (lv_at hl 1 rfl) ?_
      refine g_callv (g_runV (As := [.int (iI v_8)]) (rest := []) (ci := 4) F hl.1 hH hS hz (c_X4_removeRow l g gh I R J AI AJ AR a v_8 zv_8 hv ha (by omega) (by omega) (by first | exact hfz | omega)) (cwV 1 F.2.2.2.2.1 gX4_addAmount_X4_removeRow rfl rfl rfl hdX4_removeRow ⟨Nat.le_of_ble_eq_true rfl, Nat.le_of_ble_eq_true rfl⟩) ha (by decide) rfl rfl rfl (Nat.le_of_ble_eq_true rfl) dX4_addAmount_48 ⟨Nat.zero_le _, Nat.zero_le _⟩) hS (fun I_32 R_33 J_34 AI_35 AJ_36 AR_37 H locs hp_38 hH hS => ?_)
      dsimp only at hp_38
      obtain ⟨rfl, rfl, rfl, rfl, hv, q_39, q_40, q_41⟩ := hp_38
      refine z_goto (tgt := 65) F dX4_addAmount_51 (by decide) ?_
      refine z_iconst F dX4_addAmount_65 ?_
      exact g_zret F hr hlk hH hS hz (by omega) ⟨rfl, rfl, rfl, rfl, hv, fun b hb => q_39 b hb, fun b hb => q_40 b hb⟩ dX4_addAmount_66
  · refine lv_iload_n F.1 F.2.1 dX4_addAmount_10 rfl (lv_at hl 3 rfl) ?_
    refine z_if_eq (tgt := 26) F dX4_addAmount_11 (by decide) zn (fun c_42 => ?_) (fun c_42 => ?_)
    · refine z_iconst F dX4_addAmount_26 ?_
      refine z_goto (tgt := 31) F dX4_addAmount_27 (by decide) ?_
      exact g_zret F hr hlk hH hS hz (by omega) ⟨rfl, rfl, rfl, rfl, hv, fun _ _ => rfl, fun _ _ => rfl⟩ dX4_addAmount_31
    · refine lv_aload_n F.1 F.2.1 dX4_addAmount_14 rfl (lv_at hl 1 rfl) ?_
      refine z_iconst F dX4_addAmount_15 ?_
      refine lv_iload_n F.1 F.2.1 dX4_addAmount_16 rfl (lv_at hl 0 rfl) ?_
      refine z_isub F dX4_addAmount_17 ?_
      refine lv_aload_n F.1 F.2.1 dX4_addAmount_18 rfl (lv_at hl 2 rfl) ?_
      refine lv_iload_n F.1 F.2.1 dX4_addAmount_19 rfl (lv_at hl 3 rfl) ?_
      refine g_calli (g_runV (As := [.int (iI ((-1) - v_8)), .ref k, .int (iI n)]) (rest := []) (ci := 4) F hl.1 hH hS hz (c_X4_insert l g gh I R J AI AJ AR a ((-1) - v_8) k n ⟨by omega, by omega⟩ zn hv ha hk hk0 hk5 (by first | exact hfz | omega)) (cwV 3 F.2.2.2.2.1 gX4_addAmount_X4_insert rfl rfl rfl hdX4_insert ⟨Nat.le_of_ble_eq_true rfl, Nat.le_of_ble_eq_true rfl⟩) ha (by decide) rfl rfl rfl (Nat.le_of_ble_eq_true rfl) dX4_addAmount_20 ⟨Nat.zero_le _, Nat.zero_le _⟩) hS (fun v_49 I_43 R_44 J_45 AI_46 AJ_47 AR_48 H locs zv_49 hp_50 hH hS => ?_)
      dsimp only at hp_50
      obtain ⟨rfl, rfl, rfl, rfl, hv, q_51, q_52, q_53, q_54⟩ := hp_50
      refine z_if_eq (tgt := 30) F dX4_addAmount_23 (by decide) zv_49 (fun c_55 => ?_) (fun c_55 => ?_)
      · refine z_iconst F dX4_addAmount_30 ?_
        exact g_zret F hr hlk hH hS hz (by omega) ⟨rfl, rfl, rfl, rfl, hv, fun b hb => q_51 b hb, fun b hb => q_52 b hb⟩ dX4_addAmount_31
      · refine z_iconst F dX4_addAmount_26 ?_
        refine z_goto (tgt := 31) F dX4_addAmount_27 (by decide) ?_
        exact g_zret F hr hlk hH hS hz (by omega) ⟨rfl, rfl, rfl, rfl, hv, fun b hb => q_51 b hb, fun b hb => q_52 b hb⟩ dX4_addAmount_31

def rmX4_append : Room := { frames := 1, cells := 0, slots := 0, locals := 60 }
theorem hdX4_append : yX4_append.cls = RX4 ∧ yX4_append.cls ≠ "java/lang/invoke/MethodHandle" ∧ yX4_append.cls ≠ "java/lang/invoke/VarHandle" ∧ (parseMethodDescriptor yX4_append.desc).map (fun d => d.parameters.length) = some 3 := by decide +kernel
set_option maxHeartbeats 4000000 in
set_option maxRecDepth 100000 in
/-- a row of another comes behind all of these -/
theorem c_X4_append (l : Launch) (g : gG) (gh : gGh) (I : gI) (R : gR) (J : gJ) (AI : gI) (AJ : gJ) (AR : gR) (a : Nat) (o : Nat) (row : Int) (n : Int) (zrow : zr row) (zn : zr n) (hv : gInv g gh R AR I AI) (ha : gO g a 4) (ho : gO g o 4) (h4 : gh 2 a = 4) (h0 : 0 ≤ row) (h1 : row < (gh 1 o : Int)) : gMet l g yX4_append wsX4_append rmX4_append [.ref a, .ref o, .int (iI row), .int (iI n)] (I, R, J, AI, AJ, AR) (gQi g (fun (z : Int) (w : gS) => R = w.2.1 ∧ J = w.2.2.1 ∧ AJ = w.2.2.2.2.1 ∧ AR = w.2.2.2.2.2 ∧ (gInv g gh R AR (w.1) (w.2.2.2.1)) ∧ (∀ b, b ≠ a → (w.1) b = I b) ∧ (∀ b, b ≠ gh 0 a → (w.2.2.2.1) b = AI b))) := by
  refine gStart (cc := cX4_append) (maxL := 5) (ret := (some (.boolean))) (by decide) rfl (Nat.le_of_ble_eq_true rfl) ?_
  intro p e s m below meth c ls F hr hlk hH hz hS hl
  have hl : lv_has ls 5 [(0, .ref a), (1, .ref o), (2, .int (iI row)), (3, .int (iI n))] := hl
  have hS : va_S (gA g) s.heap s.heap [] := hS
  obtain ⟨H, hHe⟩ : ∃ H : Heap, H = s.heap := ⟨_, rfl⟩
  obtain ⟨locs, hlo⟩ : ∃ k : List Loc, k = [] := ⟨_, rfl⟩
  have hH : gH g I R J AI AJ AR H := by rw [hHe]; exact hH
  have hS : va_S (gA g) s.heap H locs := by rw [hHe, hlo]; exact hS
  suffices hw : W p l e rmX4_append s m ([.ref a, .ref o, .int (iI row), .int (iI n)] : List Value).toArray below meth c H locs 0 0 (MQ below (gQi g (fun (z : Int) (w : gS) => R = w.2.1 ∧ J = w.2.2.1 ∧ AJ = w.2.2.2.2.1 ∧ AR = w.2.2.2.2.2 ∧ (gInv g gh R AR (w.1) (w.2.2.2.1)) ∧ (∀ b, b ≠ a → (w.1) b = I b) ∧ (∀ b, b ≠ gh 0 a → (w.2.2.2.1) b = AI b))) ([.ref a, .ref o, .int (iI row), .int (iI n)] : List Value).toArray s 0 0 (gA g)) (F0 m 0 ls []) by
    rw [hHe, hlo] at hw; exact hw
  clear hHe hlo
  have iX4 : ∀ w ∈ u_ws RX4 TX4 4, w ∈ wsX4_append := (by decide +kernel)
  have k34 : Cond.fieldLink RX4 34 (TX4 3).1 (TX4 3).2.1 (TX4 3).2.2.1 ∈ wsX4_append := List.mem_of_getElem? (i := 1) rfl
  have k13 : Cond.fieldLink RX4 13 (TX4 1).1 (TX4 1).2.1 (TX4 1).2.2.1 ∈ wsX4_append := List.mem_of_getElem? (i := 2) rfl
  have k16 : Cond.fieldLink RX4 16 (TX4 2).1 (TX4 2).2.1 (TX4 2).2.2.1 ∈ wsX4_append := List.mem_of_getElem? (i := 3) rfl
  have k7 : Cond.fieldLink RX4 7 (TX4 0).1 (TX4 0).2.1 (TX4 0).2.2.1 ∈ wsX4_append := List.mem_of_getElem? (i := 4) rfl
  refine lv_aload_n F.1 F.2.1 dX4_append_0 rfl (lv_at hl 0 rfl) ?_
  refine g_getI (ci := 4) (k := 3) F hH rfl (by decide) iX4 ha (by decide) rfl k34 dX4_append_1 ?_
  obtain ⟨b_1a, b_1b, b_1c, b_1d, b_1e, b_1f, b_1g, b_1h⟩ := gI_rows hv ha
  refine lv_aload_n F.1 F.2.1 dX4_append_4 rfl (lv_at hl 0 rfl) ?_
  refine g_getI (ci := 4) (k := 1) F hH rfl (by decide) iX4 ha (by decide) rfl k13 dX4_append_5 ?_
  refine z_icmp_lt (tgt := 13) F dX4_append_8 (by decide) (zr_t _) (zr_t _) (fun c_2 => ?_) (fun c_2 => ?_)
  · refine lv_aload_n F.1 F.2.1 dX4_append_13 rfl (lv_at hl 0 rfl) ?_
    refine g_getI (ci := 4) (k := 3) F hH rfl (by decide) iX4 ha (by decide) rfl k34 dX4_append_14 ?_
    refine z_bipush F dX4_append_17 (by decide) ?_
    refine z_imul F dX4_append_19 ?_
    refine lv_istore (lv' := [(4, .int (iI (((I a 3).toInt) * 6))), (0, .ref a), (1, .ref o), (2, .int (iI row)), (3, .int (iI n))]) F.1 F.2.1 dX4_append_20 hl (by decide) rfl (fun ls hl => ?_)
    refine lv_aload_n F.1 F.2.1 dX4_append_22 rfl (lv_at hl 2 rfl) ?_
    obtain ⟨b_3a, b_3b, b_3c, b_3d, b_3e, b_3f, b_3g, b_3h⟩ := gI_rows hv ho
    obtain ⟨r_4a, r_4b⟩ := gR_cells hv ho
    refine g_getR (ci := 4) (k := 2) F hH rfl (by decide) iX4 ho (by decide) rfl (b := gh 0 o) r_4a k16 dX4_append_23 ?_
    refine lv_iload_n F.1 F.2.1 dX4_append_26 rfl (lv_at hl 3 rfl) ?_
    refine z_bipush F dX4_append_27 (by decide) ?_
    refine z_imul F dX4_append_29 ?_
    refine lv_aload_n F.1 F.2.1 dX4_append_30 rfl (lv_at hl 1 rfl) ?_
    obtain ⟨r_5a, r_5b⟩ := gR_cells hv ha
    refine g_getR (ci := 4) (k := 2) F hH rfl (by decide) iX4 ha (by decide) rfl (b := gh 0 a) r_5a k16 dX4_append_31 ?_
    refine lv_iload F.1 F.2.1 dX4_append_34 (lv_at hl 0 rfl) ?_
    refine lv_aload_n F.1 F.2.1 dX4_append_36 rfl (lv_at hl 1 rfl) ?_
    refine g_getI (ci := 4) (k := 0) F hH rfl (by decide) iX4 ha (by decide) rfl k7 dX4_append_37 ?_
    have hx40 : 0 ≤ (row * 6) ∧ 0 ≤ (((I a 3).toInt) * 6) ∧ 0 ≤ ((I a 0).toInt) ∧ (row * 6) + ((I a 0).toInt) ≤ ((6 * gh 1 o : Nat) : Int) ∧ (((I a 3).toInt) * 6) + ((I a 0).toInt) ≤ ((6 * gh 1 a : Nat) : Int) ∧ (row * 6) ≤ 2147483647 ∧ (((I a 3).toInt) * 6) ≤ 2147483647 ∧ ((I a 0).toInt) ≤ 2147483647 := ⟨by omega, by omega, by omega, by omega, by omega, by omega, by omega, by omega⟩
    refine g_copyi (rest := []) F hl.1 hH hS r_4b r_5b (List.mem_of_getElem? (i := 5) rfl) (List.mem_of_getElem? (i := 6) rfl) (List.mem_of_getElem? (i := 7) rfl) (List.mem_of_getElem? (i := 8) rfl) hx40 (Nat.le_of_ble_eq_true rfl) (Nat.le_of_ble_eq_true rfl) dX4_append_40 (fun H locs hH hS => ?_)
    obtain ⟨AI_6, eAI_6⟩ : ∃ qQ, qQ = gup1 AI (gh 0 a) (va_cpy (AI (gh 0 o)) (AI (gh 0 a)) ((row * 6)).toNat ((((I a 3).toInt) * 6)).toNat (((I a 0).toInt)).toNat) := ⟨_, rfl⟩
    rw [← eAI_6] at hH
    have kAI_6 : ∀ b, b ≠ (gh 0 a) → AI_6 b = AI b := fun b hb => by rw [eAI_6]; exact gup1_a _ _ hb
    have hv : gInv g gh R AR I AI_6 := gInv_four hv ha h4 kAI_6
    refine lv_aload_n F.1 F.2.1 dX4_append_43 rfl (lv_at hl 1 rfl) ?_
    refine g_getR (ci := 4) (k := 2) F hH rfl (by decide) iX4 ha (by decide) rfl (b := gh 0 a) r_5a k16 dX4_append_44 ?_
    refine lv_iload F.1 F.2.1 dX4_append_47 (lv_at hl 0 rfl) ?_
    refine z_iconst F dX4_append_49 ?_
    refine z_iadd F dX4_append_50 ?_
    refine z_iconst F dX4_append_51 ?_
    have hx52 : 0 ≤ ((((I a 3).toInt) * 6) + 5) ∧ ((((I a 3).toInt) * 6) + 5) < ((6 * gh 1 a : Nat) : Int) ∧ ((((I a 3).toInt) * 6) + 5) ≤ 2147483647 := ⟨by omega, by omega, by omega⟩
    refine g_iast F hH hS r_5b hx52.1 hx52.2.1 hx52.2.2 dX4_append_52 (fun H locs hH hS => ?_)
    obtain ⟨AI_7, eAI_7⟩ : ∃ qQ, qQ = gup2 AI_6 (gh 0 a) (((((I a 3).toInt) * 6) + 5)).toNat (iI (0)) := ⟨_, rfl⟩
    rw [← eAI_7] at hH
    have kAI_7 : ∀ b, b ≠ (gh 0 a) → AI_7 b = AI_6 b := fun b hb => by rw [eAI_7]; exact funext fun j => gup2_a _ _ hb
    have hv : gInv g gh R AR I AI_7 := gInv_four hv ha h4 kAI_7
    refine lv_aload_n F.1 F.2.1 dX4_append_53 rfl (lv_at hl 1 rfl) ?_
    refine g_getR (ci := 4) (k := 2) F hH rfl (by decide) iX4 ha (by decide) rfl (b := gh 0 a) r_5a k16 dX4_append_54 ?_
    refine lv_iload F.1 F.2.1 dX4_append_57 (lv_at hl 0 rfl) ?_
    refine lv_aload_n F.1 F.2.1 dX4_append_59 rfl (lv_at hl 1 rfl) ?_
    refine g_getI (ci := 4) (k := 0) F hH rfl (by decide) iX4 ha (by decide) rfl k7 dX4_append_60 ?_
    refine z_iadd F dX4_append_63 ?_
    refine lv_iload_n F.1 F.2.1 dX4_append_64 rfl (lv_at hl 4 rfl) ?_
    have hx65 : 0 ≤ ((((I a 3).toInt) * 6) + ((I a 0).toInt)) ∧ ((((I a 3).toInt) * 6) + ((I a 0).toInt)) < ((6 * gh 1 a : Nat) : Int) ∧ ((((I a 3).toInt) * 6) + ((I a 0).toInt)) ≤ 2147483647 := ⟨by omega, by omega, by omega⟩
    refine g_iast F hH hS r_5b hx65.1 hx65.2.1 hx65.2.2 dX4_append_65 (fun H locs hH hS => ?_)
    obtain ⟨AI_8, eAI_8⟩ : ∃ qQ, qQ = gup2 AI_7 (gh 0 a) (((((I a 3).toInt) * 6) + ((I a 0).toInt))).toNat (iI (n)) := ⟨_, rfl⟩
    rw [← eAI_8] at hH
    have kAI_8 : ∀ b, b ≠ (gh 0 a) → AI_8 b = AI_7 b := fun b hb => by rw [eAI_8]; exact funext fun j => gup2_a _ _ hb
    have hv : gInv g gh R AR I AI_8 := gInv_four hv ha h4 kAI_8
    refine lv_aload_n F.1 F.2.1 dX4_append_66 rfl (lv_at hl 1 rfl) ?_
    refine lv_dup F.1 F.2.1 dX4_append_67 rfl ?_
    refine g_getI (ci := 4) (k := 3) F hH rfl (by decide) iX4 ha (by decide) rfl k34 dX4_append_68 ?_
    refine z_iconst F dX4_append_71 ?_
    refine z_iadd F dX4_append_72 ?_
    refine g_putI (ci := 4) (k := 3) F hH hS rfl (by decide) iX4 ha (by decide) tyX4 tyX4_ok nmX4 rfl rfl rfl k34 dX4_append_73 (fun H locs hH hS => ?_)
    obtain ⟨I_9, eI_9⟩ : ∃ qQ, qQ = gup2 I a 3 (iI (((I a 3).toInt) + 1)) := ⟨_, rfl⟩
    rw [← eI_9] at hH
    have kI_9 : ∀ b, b ≠ a → I_9 b = I b := fun b hb => by rw [eI_9]; exact funext fun j => gup2_a _ _ hb
    have w_10 : (I_9 a 3).toInt = ((I a 3).toInt) + 1 := by rw [eI_9, gup2_s]; exact iI_val ⟨by omega, by omega⟩
    have hv : gInv g gh R AR I_9 AI_8 := by rw [eI_9]; exact gInv_len hv ha (by omega) (by omega) (by first | exact hfz | omega)
    refine z_iconst F dX4_append_76 ?_
    exact g_zret F hr hlk hH hS hz (by omega) ⟨rfl, rfl, rfl, rfl, hv, fun b hb => kI_9 b hb, fun b hb => ((kAI_8 b hb).trans (kAI_7 b hb)).trans (kAI_6 b hb)⟩ dX4_append_77
  · refine z_iconst F dX4_append_11 ?_
    exact g_zret F hr hlk hH hS hz (by omega) ⟨rfl, rfl, rfl, rfl, hv, fun _ _ => rfl, fun _ _ => rfl⟩ dX4_append_12

def rmX4_orderOfHeads : Room := { frames := 1, cells := 0, slots := 0, locals := 27 }
theorem hdX4_orderOfHeads : yX4_orderOfHeads.cls = RX4 ∧ yX4_orderOfHeads.cls ≠ "java/lang/invoke/MethodHandle" ∧ yX4_orderOfHeads.cls ≠ "java/lang/invoke/VarHandle" ∧ (parseMethodDescriptor yX4_orderOfHeads.desc).map (fun d => d.parameters.length) = some 4 := by decide +kernel
set_option maxHeartbeats 4000000 in
set_option maxRecDepth 100000 in
/-- which head is first -/
theorem c_X4_orderOfHeads (l : Launch) (g : gG) (gh : gGh) (I : gI) (R : gR) (J : gJ) (AI : gI) (AJ : gJ) (AR : gR) (a : Nat) (i : Int) (b : Nat) (j : Int) (zi : zr i) (zj : zr j) (hv : gInv g gh R AR I AI) (ha : gO g a 4) (hb : gO g b 4) (h4 : gh 2 a = 4) (h0 : 0 ≤ i) (h1 : 0 ≤ j) : gMet l g yX4_orderOfHeads wsX4_orderOfHeads rmX4_orderOfHeads [.ref a, .int (iI i), .ref b, .int (iI j)] (I, R, J, AI, AJ, AR) (gQi g (fun (z : Int) (w : gS) => I = w.1 ∧ R = w.2.1 ∧ J = w.2.2.1 ∧ AI = w.2.2.2.1 ∧ AJ = w.2.2.2.2.1 ∧ AR = w.2.2.2.2.2 ∧ (z ≤ 0 → i < (I a 3).toInt) ∧ (0 ≤ z → i < (I a 3).toInt → j < (I b 3).toInt))) := by
  refine gStart (cc := cX4_orderOfHeads) (maxL := 4) (ret := (some (.int))) (by decide) rfl (Nat.le_of_ble_eq_true rfl) ?_
  intro p e s m below meth c ls F hr hlk hH hz hS hl
  have hl : lv_has ls 4 [(0, .ref a), (1, .int (iI i)), (2, .ref b), (3, .int (iI j))] := hl
  have hS : va_S (gA g) s.heap s.heap [] := hS
  obtain ⟨H, hHe⟩ : ∃ H : Heap, H = s.heap := ⟨_, rfl⟩
  obtain ⟨locs, hlo⟩ : ∃ k : List Loc, k = [] := ⟨_, rfl⟩
  have hH : gH g I R J AI AJ AR H := by rw [hHe]; exact hH
  have hS : va_S (gA g) s.heap H locs := by rw [hHe, hlo]; exact hS
  suffices hw : W p l e rmX4_orderOfHeads s m ([.ref a, .int (iI i), .ref b, .int (iI j)] : List Value).toArray below meth c H locs 0 0 (MQ below (gQi g (fun (z : Int) (w : gS) => I = w.1 ∧ R = w.2.1 ∧ J = w.2.2.1 ∧ AI = w.2.2.2.1 ∧ AJ = w.2.2.2.2.1 ∧ AR = w.2.2.2.2.2 ∧ (z ≤ 0 → i < (I a 3).toInt) ∧ (0 ≤ z → i < (I a 3).toInt → j < (I b 3).toInt))) ([.ref a, .int (iI i), .ref b, .int (iI j)] : List Value).toArray s 0 0 (gA g)) (F0 m 0 ls []) by
    rw [hHe, hlo] at hw; exact hw
  clear hHe hlo
  have iX4 : ∀ w ∈ u_ws RX4 TX4 4, w ∈ wsX4_orderOfHeads := (by decide +kernel)
  have k34 : Cond.fieldLink RX4 34 (TX4 3).1 (TX4 3).2.1 (TX4 3).2.2.1 ∈ wsX4_orderOfHeads := List.mem_of_getElem? (i := 1) rfl
  have k16 : Cond.fieldLink RX4 16 (TX4 2).1 (TX4 2).2.1 (TX4 2).2.2.1 ∈ wsX4_orderOfHeads := List.mem_of_getElem? (i := 2) rfl
  refine lv_iload_n F.1 F.2.1 dX4_orderOfHeads_0 rfl (lv_at hl 1 rfl) ?_
  refine lv_aload_n F.1 F.2.1 dX4_orderOfHeads_1 rfl (lv_at hl 0 rfl) ?_
  refine g_getI (ci := 4) (k := 3) F hH rfl (by decide) iX4 ha (by decide) rfl k34 dX4_orderOfHeads_2 ?_
  obtain ⟨b_1a, b_1b, b_1c, b_1d, b_1e, b_1f, b_1g, b_1h⟩ := gI_rows hv ha
  refine z_icmp_lt (tgt := 10) F dX4_orderOfHeads_5 (by decide) zi (zr_t _) (fun c_2 => ?_) (fun c_2 => ?_)
  · refine lv_iload_n F.1 F.2.1 dX4_orderOfHeads_10 rfl (lv_at hl 3 rfl) ?_
    refine lv_aload_n F.1 F.2.1 dX4_orderOfHeads_11 rfl (lv_at hl 2 rfl) ?_
    refine g_getI (ci := 4) (k := 3) F hH rfl (by decide) iX4 hb (by decide) rfl k34 dX4_orderOfHeads_12 ?_
    obtain ⟨b_3a, b_3b, b_3c, b_3d, b_3e, b_3f, b_3g, b_3h⟩ := gI_rows hv hb
    refine z_icmp_lt (tgt := 20) F dX4_orderOfHeads_15 (by decide) zj (zr_t _) (fun c_4 => ?_) (fun c_4 => ?_)
    · refine lv_aload_n F.1 F.2.1 dX4_orderOfHeads_20 rfl (lv_at hl 0 rfl) ?_
      refine lv_iload_n F.1 F.2.1 dX4_orderOfHeads_21 rfl (lv_at hl 1 rfl) ?_
      refine lv_aload_n F.1 F.2.1 dX4_orderOfHeads_22 rfl (lv_at hl 2 rfl) ?_
      obtain ⟨r_5a, r_5b⟩ := gR_cells hv hb
      refine g_getR (ci := 4) (k := 2) F hH rfl (by decide) iX4 hb (by decide) rfl (b := gh 0 b) r_5a k16 dX4_orderOfHeads_23 ?_
      refine lv_iload_n F.1 F.2.1 dX4_orderOfHeads_26 rfl (lv_at hl 3 rfl) ?_
      refine z_bipush F dX4_orderOfHeads_27 (by decide) ?_
      refine z_imul F dX4_orderOfHeads_29 ?_
      refine g_calli (g_runV (As := [.int (iI i), .ref (gh 0 b), .int (iI (j * 6))]) (rest := []) (ci := 4) F hl.1 hH hS hz (c_X4_compareRow l g gh (6 * gh 1 b) I R J AI AJ AR a i (gh 0 b) (j * 6) zi ⟨by omega, by omega⟩ hv ha (by omega) (by omega) r_5b (by omega) (by omega) (by omega)) (cwV 3 F.2.2.2.2.1 gX4_orderOfHeads_X4_compareRow rfl rfl rfl hdX4_compareRow ⟨Nat.le_of_ble_eq_true rfl, Nat.le_of_ble_eq_true rfl⟩) ha (by decide) rfl rfl rfl (Nat.le_of_ble_eq_true rfl) dX4_orderOfHeads_30 ⟨Nat.zero_le _, Nat.zero_le _⟩) hS (fun v_12 I_6 R_7 J_8 AI_9 AJ_10 AR_11 H locs zv_12 hp_13 hH hS => ?_)
      dsimp only at hp_13
      obtain ⟨rfl, rfl, rfl, rfl, rfl, rfl, q_14⟩ := hp_13
      exact g_iret F hr hlk hH hS hz zv_12 ⟨rfl, rfl, rfl, rfl, rfl, rfl, fun _ => by omega, fun _ _ => by omega⟩ dX4_orderOfHeads_33
    · refine z_iconst F dX4_orderOfHeads_18 ?_
      exact g_iret F hr hlk hH hS hz ⟨by decide, by decide⟩ ⟨rfl, rfl, rfl, rfl, rfl, rfl, fun _ => by omega, fun _ _ => by omega⟩ dX4_orderOfHeads_19
  · refine z_iconst F dX4_orderOfHeads_8 ?_
    exact g_iret F hr hlk hH hS hz ⟨by decide, by decide⟩ ⟨rfl, rfl, rfl, rfl, rfl, rfl, fun _ => by omega, fun _ _ => by omega⟩ dX4_orderOfHeads_9

def rmX4_gather : Room := { frames := 2, cells := 0, slots := 0, locals := 84 }
theorem hdX4_gather : yX4_gather.cls = RX4 ∧ yX4_gather.cls ≠ "java/lang/invoke/MethodHandle" ∧ yX4_gather.cls ≠ "java/lang/invoke/VarHandle" ∧ (parseMethodDescriptor yX4_gather.desc).map (fun d => d.parameters.length) = some 3 := by decide +kernel
set_option maxHeartbeats 4000000 in
set_option maxRecDepth 100000 in
/-- the amounts of two bags together -/
theorem c_X4_gather (l : Launch) (g : gG) (gh : gGh) (I : gI) (R : gR) (J : gJ) (AI : gI) (AJ : gJ) (AR : gR) (a : Nat) (x : Nat) (y : Nat) (sign : Int) (zsign : zr sign) (hv : gInv g gh R AR I AI) (ha : gO g a 4) (hx : gO g x 4) (hy : gO g y 4) (h4 : gh 2 a = 4) (h5 : gh 2 x = 4) : gMet l g yX4_gather wsX4_gather rmX4_gather [.ref a, .ref x, .ref y, .int (iI sign)] (I, R, J, AI, AJ, AR) (gQi g (fun (z : Int) (w : gS) => R = w.2.1 ∧ J = w.2.2.1 ∧ AJ = w.2.2.2.2.1 ∧ AR = w.2.2.2.2.2 ∧ (gInv g gh R AR (w.1) (w.2.2.2.1)) ∧ (∀ b, b ≠ a → (w.1) b = I b) ∧ (∀ b, b ≠ gh 0 a → (w.2.2.2.1) b = AI b))) := by
  refine gStart (cc := cX4_gather) (maxL := 10) (ret := (some (.boolean))) (by decide) rfl (Nat.le_of_ble_eq_true rfl) ?_
  intro p e s m below meth c ls F hr hlk hH hz hS hl
  have hl : lv_has ls 10 [(0, .ref a), (1, .ref x), (2, .ref y), (3, .int (iI sign))] := hl
  have hS : va_S (gA g) s.heap s.heap [] := hS
  obtain ⟨H, hHe⟩ : ∃ H : Heap, H = s.heap := ⟨_, rfl⟩
  obtain ⟨locs, hlo⟩ : ∃ k : List Loc, k = [] := ⟨_, rfl⟩
  have hH : gH g I R J AI AJ AR H := by rw [hHe]; exact hH
  have hS : va_S (gA g) s.heap H locs := by rw [hHe, hlo]; exact hS
  suffices hw : W p l e rmX4_gather s m ([.ref a, .ref x, .ref y, .int (iI sign)] : List Value).toArray below meth c H locs 0 0 (MQ below (gQi g (fun (z : Int) (w : gS) => R = w.2.1 ∧ J = w.2.2.1 ∧ AJ = w.2.2.2.2.1 ∧ AR = w.2.2.2.2.2 ∧ (gInv g gh R AR (w.1) (w.2.2.2.1)) ∧ (∀ b, b ≠ a → (w.1) b = I b) ∧ (∀ b, b ≠ gh 0 a → (w.2.2.2.1) b = AI b))) ([.ref a, .ref x, .ref y, .int (iI sign)] : List Value).toArray s 0 0 (gA g)) (F0 m 0 ls []) by
    rw [hHe, hlo] at hw; exact hw
  clear hHe hlo
  have iX4 : ∀ w ∈ u_ws RX4 TX4 4, w ∈ wsX4_gather := (by decide +kernel)
  have k34 : Cond.fieldLink RX4 34 (TX4 3).1 (TX4 3).2.1 (TX4 3).2.2.1 ∈ wsX4_gather := List.mem_of_getElem? (i := 1) rfl
  refine lv_aload_n F.1 F.2.1 dX4_gather_0 rfl (lv_at hl 0 rfl) ?_
  refine z_iconst F dX4_gather_1 ?_
  refine g_putI (ci := 4) (k := 3) F hH hS rfl (by decide) iX4 ha (by decide) tyX4 tyX4_ok nmX4 rfl rfl rfl k34 dX4_gather_2 (fun H locs hH hS => ?_)
  obtain ⟨I_1, eI_1⟩ : ∃ qQ, qQ = gup2 I a 3 (iI (0)) := ⟨_, rfl⟩
  rw [← eI_1] at hH
  have kI_1 : ∀ b, b ≠ a → I_1 b = I b := fun b hb => by rw [eI_1]; exact funext fun j => gup2_a _ _ hb
  have w_2 : (I_1 a 3).toInt = 0 := by rw [eI_1, gup2_s]; exact iI_val ⟨by omega, by omega⟩
  have hv : gInv g gh R AR I_1 AI := by rw [eI_1]; exact gInv_len hv ha (by omega) (by omega) (by first | exact hfz | omega)
  refine z_iconst F dX4_gather_5 ?_
  refine lv_istore (lv' := [(4, .int (iI 0)), (0, .ref a), (1, .ref x), (2, .ref y), (3, .int (iI sign))]) F.1 F.2.1 dX4_gather_6 hl (by decide) rfl (fun ls hl => ?_)
  refine z_iconst F dX4_gather_8 ?_
  refine lv_istore (lv' := [(5, .int (iI 0)), (4, .int (iI 0)), (0, .ref a), (1, .ref x), (2, .ref y), (3, .int (iI sign))]) F.1 F.2.1 dX4_gather_9 hl (by decide) rfl (fun ls hl => ?_)
  have cut_11_4 : ∀ (NN : Nat) (i j : Int) (I_3 : gI) (AI_4 : gI) (H : Heap) (locs : List Loc) (ls : Array Slot), zr i → zr j → (gInv g gh R AR I_3 AI_4) → (∀ b, b ≠ a → I_3 b = I b) → (∀ b, b ≠ gh 0 a → AI_4 b = AI b) → (0 ≤ i ∧ i ≤ (gh 1 x : Int)) → (0 ≤ j ∧ j ≤ (gh 1 y : Int)) → ((gh 1 x : Int) + (gh 1 y : Int) - i - j) < ((NN : Nat) : Int) → gH g I_3 R J AI_4 AJ AR H → va_S (gA g) s.heap H locs → lv_has ls 10 [(5, .int (iI j)), (4, .int (iI i)), (0, .ref a), (1, .ref x), (2, .ref y), (3, .int (iI sign))] → W p l e rmX4_gather s m ([.ref a, .ref x, .ref y, .int (iI sign)] : List Value).toArray below meth c H locs 0 0 (MQ below (gQi g (fun (z : Int) (w : gS) => R = w.2.1 ∧ J = w.2.2.1 ∧ AJ = w.2.2.2.2.1 ∧ AR = w.2.2.2.2.2 ∧ (gInv g gh R AR (w.1) (w.2.2.2.1)) ∧ (∀ b, b ≠ a → (w.1) b = I b) ∧ (∀ b, b ≠ gh 0 a → (w.2.2.2.1) b = AI b))) ([.ref a, .ref x, .ref y, .int (iI sign)] : List Value).toArray s 0 0 (gA g)) (F0 m 11 ls []) := by
    intro NN11
    induction NN11 with
    | zero =>
      intro i j I_3 AI_4 H locs ls zi zj hv fI fA hi hj hm11 hH hS hl
      exact absurd hm11 (by omega)
    | succ NN11 ih11 =>
      intro i j I_3 AI_4 H locs ls zi zj hv fI fA hi hj hm11 hH hS hl
      refine lv_iload F.1 F.2.1 dX4_gather_11 (lv_at hl 1 rfl) ?_
      refine lv_aload_n F.1 F.2.1 dX4_gather_13 rfl (lv_at hl 3 rfl) ?_
      refine g_getI (ci := 4) (k := 3) F hH rfl (by decide) iX4 hx (by decide) rfl k34 dX4_gather_14 ?_
      obtain ⟨b_6a, b_6b, b_6c, b_6d, b_6e, b_6f, b_6g, b_6h⟩ := gI_rows hv hx
      refine z_icmp_lt (tgt := 29) F dX4_gather_17 (by decide) zi (zr_t _) (fun c_7 => ?_) (fun c_7 => ?_)
      · refine lv_aload_n F.1 F.2.1 dX4_gather_29 rfl (lv_at hl 3 rfl) ?_
        refine lv_iload F.1 F.2.1 dX4_gather_30 (lv_at hl 1 rfl) ?_
        refine lv_aload_n F.1 F.2.1 dX4_gather_32 rfl (lv_at hl 4 rfl) ?_
        refine lv_iload F.1 F.2.1 dX4_gather_33 (lv_at hl 0 rfl) ?_
        obtain ⟨b_8a, b_8b, b_8c, b_8d, b_8e, b_8f, b_8g, b_8h⟩ := gI_rows hv hy
        refine g_calli (g_runS (As := [.ref x, .int (iI i), .ref y, .int (iI j)]) (rest := []) F hl.1 hH hS hz (c_X4_orderOfHeads l g gh I_3 R J AI_4 AJ AR x i y j zi zj hv hx hy (by omega) (by omega) (by omega)) (va_cwS 4 F.2.2.2.2.1 gX4_gather_X4_orderOfHeads rfl rfl rfl hdX4_orderOfHeads.2 ⟨Nat.le_of_ble_eq_true rfl, Nat.le_of_ble_eq_true rfl⟩) rfl rfl (Nat.le_of_ble_eq_true rfl) dX4_gather_35 ⟨Nat.zero_le _, Nat.zero_le _⟩) hS (fun v_15 I_9 R_10 J_11 AI_12 AJ_13 AR_14 H locs zv_15 hp_16 hH hS => ?_)
        dsimp only at hp_16
        obtain ⟨rfl, rfl, rfl, rfl, rfl, rfl, q_17, q_18⟩ := hp_16
        refine lv_istore (lv' := [(6, .int (iI v_15)), (5, .int (iI j)), (4, .int (iI i)), (0, .ref a), (1, .ref x), (2, .ref y), (3, .int (iI sign))]) F.1 F.2.1 dX4_gather_38 hl (by decide) rfl (fun ls hl => ?_)
        refine lv_iload F.1 F.2.1 dX4_gather_40 (lv_at hl 0 rfl) ?_
        refine z_if_gt (tgt := 49) F dX4_gather_42 (by decide) zv_15 (fun c_19 => ?_) (fun c_19 => ?_)
        · refine lv_aload_n F.1 F.2.1 dX4_gather_49 rfl (lv_at hl 5 rfl) ?_
          refine lv_astore (lv' := [(7, .ref y), (6, .int (iI v_15)), (5, .int (iI j)), (4, .int (iI i)), (0, .ref a), (1, .ref x), (2, .ref y), (3, .int (iI sign))]) F.1 F.2.1 dX4_gather_50 hl (by decide) rfl (fun ls hl => ?_)
          refine lv_iload F.1 F.2.1 dX4_gather_52 (lv_at hl 1 rfl) ?_
          refine z_if_gt (tgt := 62) F dX4_gather_54 (by decide) zv_15 (fun c_20 => ?_) (fun c_20 => ?_)
          · refine lv_iload F.1 F.2.1 dX4_gather_62 (lv_at hl 2 rfl) ?_
            refine lv_istore (lv' := [(8, .int (iI j)), (7, .ref y), (6, .int (iI v_15)), (5, .int (iI j)), (4, .int (iI i)), (0, .ref a), (1, .ref x), (2, .ref y), (3, .int (iI sign))]) F.1 F.2.1 dX4_gather_64 hl (by decide) rfl (fun ls hl => ?_)
            refine z_iconst F dX4_gather_66 ?_
            refine lv_istore (lv' := [(9, .int (iI 0)), (8, .int (iI j)), (7, .ref y), (6, .int (iI v_15)), (5, .int (iI j)), (4, .int (iI i)), (0, .ref a), (1, .ref x), (2, .ref y), (3, .int (iI sign))]) F.1 F.2.1 dX4_gather_67 hl (by decide) rfl (fun ls hl => ?_)
            refine lv_iload F.1 F.2.1 dX4_gather_69 (lv_at hl 3 rfl) ?_
            refine z_if_gt (tgt := 88) F dX4_gather_71 (by decide) zv_15 (fun c_21 => ?_) (fun c_21 => ?_)
            · refine lv_iload F.1 F.2.1 dX4_gather_88 (lv_at hl 3 rfl) ?_
              refine z_if_lt (tgt := 109) F dX4_gather_90 (by decide) zv_15 (fun c_22 => ?_) (fun c_22 => ?_)
              · exact absurd trivial (by omega)
              · refine lv_iload F.1 F.2.1 dX4_gather_93 (lv_at hl 0 rfl) ?_
                refine lv_iload_n F.1 F.2.1 dX4_gather_95 rfl (lv_at hl 9 rfl) ?_
                refine lv_aload_n F.1 F.2.1 dX4_gather_96 rfl (lv_at hl 8 rfl) ?_
                refine lv_iload F.1 F.2.1 dX4_gather_97 (lv_at hl 4 rfl) ?_
                refine g_calli (g_runV (As := [.int (iI j)]) (rest := [.int (iI sign), .int (iI 0)]) (ci := 4) F hl.1 hH hS hz (c_X4_amount l g gh I_3 R J AI_4 AJ AR y j zj hv hy (by omega) (by omega)) (cwV 1 F.2.2.2.2.1 gX4_gather_X4_amount rfl rfl rfl hdX4_amount ⟨Nat.le_of_ble_eq_true rfl, Nat.le_of_ble_eq_true rfl⟩) hy (by decide) rfl rfl rfl (Nat.le_of_ble_eq_true rfl) dX4_gather_99 ⟨Nat.zero_le _, Nat.zero_le _⟩) hS (fun v_29 I_23 R_24 J_25 AI_26 AJ_27 AR_28 H locs zv_29 hp_30 hH hS => ?_)
                dsimp only at hp_30
                obtain ⟨rfl, rfl, rfl, rfl, rfl, rfl, q_31⟩ := hp_30
                refine z_imul F dX4_gather_102 ?_
                refine z_norm (fun v_32 zv_32 ev_32 => ?_)
                refine z_iadd F dX4_gather_103 ?_
                refine z_norm (fun v_33 zv_33 ev_33 => ?_)
                refine lv_istore (lv' := [(9, .int (iI v_33)), (8, .int (iI j)), (7, .ref y), (6, .int (iI v_15)), (5, .int (iI j)), (4, .int (iI i)), (0, .ref a), (1, .ref x), (2, .ref y), (3, .int (iI sign))]) F.1 F.2.1 dX4_gather_104 hl (by decide) rfl (fun ls hl => ?_)
                refine z_iinc (lv' := [(5, .int (iI (j + 1))), (9, .int (iI v_33)), (8, .int (iI j)), (7, .ref y), (6, .int (iI v_15)), (4, .int (iI i)), (0, .ref a), (1, .ref x), (2, .ref y), (3, .int (iI sign))]) F dX4_gather_106 hl (k := 4) rfl (by decide) rfl (fun ls hl => ?_)
                refine lv_iload F.1 F.2.1 dX4_gather_109 (lv_at hl 1 rfl) ?_
                refine z_if_eq (tgt := 129) F dX4_gather_111 (by decide) zv_33 (fun c_34 => ?_) (fun c_34 => ?_)
                · refine z_goto (tgt := 11) F dX4_gather_129 (by decide) ?_
                  exact ih11 i (j + 1) I_3 AI_4 H locs ls zi ⟨by omega, by omega⟩ hv (fun b hb => fI b hb) (fun b hb => fA b hb) ⟨by omega, by omega⟩ ⟨by omega, by omega⟩ (by omega) hH hS (lv_sub hl [0, 5, 6, 7, 8, 9] rfl)
                · refine lv_aload_n F.1 F.2.1 dX4_gather_114 rfl (lv_at hl 6 rfl) ?_
                  refine lv_aload F.1 F.2.1 dX4_gather_115 (lv_at hl 3 rfl) ?_
                  refine lv_iload F.1 F.2.1 dX4_gather_117 (lv_at hl 2 rfl) ?_
                  refine lv_iload F.1 F.2.1 dX4_gather_119 (lv_at hl 1 rfl) ?_
                  obtain ⟨b_35a, b_35b, b_35c, b_35d, b_35e, b_35f, b_35g, b_35h⟩ := gI_rows hv ha
                  refine g_calli (g_runV (As := [.ref y, .int (iI j), .int (iI v_33)]) (rest := []) (ci := 4) F hl.1 hH hS hz (c_X4_append l g gh I_3 R J AI_4 AJ AR a y j v_33 zj zv_33 hv ha hy (by omega) (by omega) (by omega)) (cwV 3 F.2.2.2.2.1 gX4_gather_X4_append rfl rfl rfl hdX4_append ⟨Nat.le_of_ble_eq_true rfl, Nat.le_of_ble_eq_true rfl⟩) ha (by decide) rfl rfl rfl (Nat.le_of_ble_eq_true rfl) dX4_gather_121 ⟨Nat.zero_le _, Nat.zero_le _⟩) hS (fun v_42 I_36 R_37 J_38 AI_39 AJ_40 AR_41 H locs zv_42 hp_43 hH hS => ?_)
                  dsimp only at hp_43
                  obtain ⟨rfl, rfl, rfl, rfl, hv, q_44, q_45⟩ := hp_43
                  refine z_if_ne (tgt := 129) F dX4_gather_124 (by decide) zv_42 (fun c_46 => ?_) (fun c_46 => ?_)
                  · refine z_goto (tgt := 11) F dX4_gather_129 (by decide) ?_
                    exact ih11 i (j + 1) I_36 AI_39 H locs ls zi ⟨by omega, by omega⟩ hv (fun b hb => (q_44 b hb).trans (fI b hb)) (fun b hb => (q_45 b hb).trans (fA b hb)) ⟨by omega, by omega⟩ ⟨by omega, by omega⟩ (by omega) hH hS (lv_sub hl [0, 5, 6, 7, 8, 9] rfl)
                  · refine z_iconst F dX4_gather_127 ?_
                    exact g_zret F hr hlk hH hS hz (by omega) ⟨rfl, rfl, rfl, rfl, hv, fun b hb => (q_44 b hb).trans (fI b hb), fun b hb => (q_45 b hb).trans (fA b hb)⟩ dX4_gather_128
            · exact absurd trivial (by omega)
          · exact absurd trivial (by omega)
        · refine lv_aload_n F.1 F.2.1 dX4_gather_45 rfl (lv_at hl 4 rfl) ?_
          refine z_goto (tgt := 50) F dX4_gather_46 (by decide) ?_
          refine lv_astore (lv' := [(7, .ref x), (6, .int (iI v_15)), (5, .int (iI j)), (4, .int (iI i)), (0, .ref a), (1, .ref x), (2, .ref y), (3, .int (iI sign))]) F.1 F.2.1 dX4_gather_50 hl (by decide) rfl (fun ls hl => ?_)
          refine lv_iload F.1 F.2.1 dX4_gather_52 (lv_at hl 1 rfl) ?_
          refine z_if_gt (tgt := 62) F dX4_gather_54 (by decide) zv_15 (fun c_47 => ?_) (fun c_47 => ?_)
          · exact absurd trivial (by omega)
          · refine lv_iload F.1 F.2.1 dX4_gather_57 (lv_at hl 3 rfl) ?_
            refine z_goto (tgt := 64) F dX4_gather_59 (by decide) ?_
            refine lv_istore (lv' := [(8, .int (iI i)), (7, .ref x), (6, .int (iI v_15)), (5, .int (iI j)), (4, .int (iI i)), (0, .ref a), (1, .ref x), (2, .ref y), (3, .int (iI sign))]) F.1 F.2.1 dX4_gather_64 hl (by decide) rfl (fun ls hl => ?_)
            refine z_iconst F dX4_gather_66 ?_
            refine lv_istore (lv' := [(9, .int (iI 0)), (8, .int (iI i)), (7, .ref x), (6, .int (iI v_15)), (5, .int (iI j)), (4, .int (iI i)), (0, .ref a), (1, .ref x), (2, .ref y), (3, .int (iI sign))]) F.1 F.2.1 dX4_gather_67 hl (by decide) rfl (fun ls hl => ?_)
            refine lv_iload F.1 F.2.1 dX4_gather_69 (lv_at hl 3 rfl) ?_
            refine z_if_gt (tgt := 88) F dX4_gather_71 (by decide) zv_15 (fun c_48 => ?_) (fun c_48 => ?_)
            · exact absurd trivial (by omega)
            · refine lv_iload F.1 F.2.1 dX4_gather_74 (lv_at hl 0 rfl) ?_
              refine lv_aload_n F.1 F.2.1 dX4_gather_76 rfl (lv_at hl 7 rfl) ?_
              refine lv_iload F.1 F.2.1 dX4_gather_77 (lv_at hl 5 rfl) ?_
              refine g_calli (g_runV (As := [.int (iI i)]) (rest := [.int (iI 0)]) (ci := 4) F hl.1 hH hS hz (c_X4_amount l g gh I_3 R J AI_4 AJ AR x i zi hv hx (by omega) (by omega)) (cwV 1 F.2.2.2.2.1 gX4_gather_X4_amount rfl rfl rfl hdX4_amount ⟨Nat.le_of_ble_eq_true rfl, Nat.le_of_ble_eq_true rfl⟩) hx (by decide) rfl rfl rfl (Nat.le_of_ble_eq_true rfl) dX4_gather_79 ⟨Nat.zero_le _, Nat.zero_le _⟩) hS (fun v_55 I_49 R_50 J_51 AI_52 AJ_53 AR_54 H locs zv_55 hp_56 hH hS => ?_)
              dsimp only at hp_56
              obtain ⟨rfl, rfl, rfl, rfl, rfl, rfl, q_57⟩ := hp_56
              refine z_iadd F dX4_gather_82 ?_
              refine z_norm (fun v_58 zv_58 ev_58 => ?_)
              refine lv_istore (lv' := [(9, .int (iI v_58)), (8, .int (iI i)), (7, .ref x), (6, .int (iI v_15)), (5, .int (iI j)), (4, .int (iI i)), (0, .ref a), (1, .ref x), (2, .ref y), (3, .int (iI sign))]) F.1 F.2.1 dX4_gather_83 hl (by decide) rfl (fun ls hl => ?_)
              refine z_iinc (lv' := [(4, .int (iI (i + 1))), (9, .int (iI v_58)), (8, .int (iI i)), (7, .ref x), (6, .int (iI v_15)), (5, .int (iI j)), (0, .ref a), (1, .ref x), (2, .ref y), (3, .int (iI sign))]) F dX4_gather_85 hl (k := 5) rfl (by decide) rfl (fun ls hl => ?_)
              refine lv_iload F.1 F.2.1 dX4_gather_88 (lv_at hl 4 rfl) ?_
              refine z_if_lt (tgt := 109) F dX4_gather_90 (by decide) zv_15 (fun c_59 => ?_) (fun c_59 => ?_)
              · refine lv_iload F.1 F.2.1 dX4_gather_109 (lv_at hl 1 rfl) ?_
                refine z_if_eq (tgt := 129) F dX4_gather_111 (by decide) zv_58 (fun c_60 => ?_) (fun c_60 => ?_)
                · refine z_goto (tgt := 11) F dX4_gather_129 (by decide) ?_
                  exact ih11 (i + 1) j I_3 AI_4 H locs ls ⟨by omega, by omega⟩ zj hv (fun b hb => fI b hb) (fun b hb => fA b hb) ⟨by omega, by omega⟩ ⟨by omega, by omega⟩ (by omega) hH hS (lv_sub hl [5, 0, 6, 7, 8, 9] rfl)
                · refine lv_aload_n F.1 F.2.1 dX4_gather_114 rfl (lv_at hl 6 rfl) ?_
                  refine lv_aload F.1 F.2.1 dX4_gather_115 (lv_at hl 3 rfl) ?_
                  refine lv_iload F.1 F.2.1 dX4_gather_117 (lv_at hl 2 rfl) ?_
                  refine lv_iload F.1 F.2.1 dX4_gather_119 (lv_at hl 1 rfl) ?_
                  obtain ⟨b_61a, b_61b, b_61c, b_61d, b_61e, b_61f, b_61g, b_61h⟩ := gI_rows hv ha
                  refine g_calli (g_runV (As := [.ref x, .int (iI i), .int (iI v_58)]) (rest := []) (ci := 4) F hl.1 hH hS hz (c_X4_append l g gh I_3 R J AI_4 AJ AR a x i v_58 zi zv_58 hv ha hx (by omega) (by omega) (by omega)) (cwV 3 F.2.2.2.2.1 gX4_gather_X4_append rfl rfl rfl hdX4_append ⟨Nat.le_of_ble_eq_true rfl, Nat.le_of_ble_eq_true rfl⟩) ha (by decide) rfl rfl rfl (Nat.le_of_ble_eq_true rfl) dX4_gather_121 ⟨Nat.zero_le _, Nat.zero_le _⟩) hS (fun v_68 I_62 R_63 J_64 AI_65 AJ_66 AR_67 H locs zv_68 hp_69 hH hS => ?_)
                  dsimp only at hp_69
                  obtain ⟨rfl, rfl, rfl, rfl, hv, q_70, q_71⟩ := hp_69
                  refine z_if_ne (tgt := 129) F dX4_gather_124 (by decide) zv_68 (fun c_72 => ?_) (fun c_72 => ?_)
                  · refine z_goto (tgt := 11) F dX4_gather_129 (by decide) ?_
                    exact ih11 (i + 1) j I_62 AI_65 H locs ls ⟨by omega, by omega⟩ zj hv (fun b hb => (q_70 b hb).trans (fI b hb)) (fun b hb => (q_71 b hb).trans (fA b hb)) ⟨by omega, by omega⟩ ⟨by omega, by omega⟩ (by omega) hH hS (lv_sub hl [5, 0, 6, 7, 8, 9] rfl)
                  · refine z_iconst F dX4_gather_127 ?_
                    exact g_zret F hr hlk hH hS hz (by omega) ⟨rfl, rfl, rfl, rfl, hv, fun b hb => (q_70 b hb).trans (fI b hb), fun b hb => (q_71 b hb).trans (fA b hb)⟩ dX4_gather_128
              · refine lv_iload F.1 F.2.1 dX4_gather_93 (lv_at hl 1 rfl) ?_
                refine lv_iload_n F.1 F.2.1 dX4_gather_95 rfl (lv_at hl 9 rfl) ?_
                refine lv_aload_n F.1 F.2.1 dX4_gather_96 rfl (lv_at hl 8 rfl) ?_
                refine lv_iload F.1 F.2.1 dX4_gather_97 (lv_at hl 5 rfl) ?_
                refine g_calli (g_runV (As := [.int (iI j)]) (rest := [.int (iI sign), .int (iI v_58)]) (ci := 4) F hl.1 hH hS hz (c_X4_amount l g gh I_3 R J AI_4 AJ AR y j zj hv hy (by omega) (by omega)) (cwV 1 F.2.2.2.2.1 gX4_gather_X4_amount rfl rfl rfl hdX4_amount ⟨Nat.le_of_ble_eq_true rfl, Nat.le_of_ble_eq_true rfl⟩) hy (by decide) rfl rfl rfl (Nat.le_of_ble_eq_true rfl) dX4_gather_99 ⟨Nat.zero_le _, Nat.zero_le _⟩) hS (fun v_79 I_73 R_74 J_75 AI_76 AJ_77 AR_78 H locs zv_79 hp_80 hH hS => ?_)
                dsimp only at hp_80
                obtain ⟨rfl, rfl, rfl, rfl, rfl, rfl, q_81⟩ := hp_80
                refine z_imul F dX4_gather_102 ?_
                refine z_norm (fun v_82 zv_82 ev_82 => ?_)
                refine z_iadd F dX4_gather_103 ?_
                refine z_norm (fun v_83 zv_83 ev_83 => ?_)
                refine lv_istore (lv' := [(9, .int (iI v_83)), (4, .int (iI (i + 1))), (8, .int (iI i)), (7, .ref x), (6, .int (iI v_15)), (5, .int (iI j)), (0, .ref a), (1, .ref x), (2, .ref y), (3, .int (iI sign))]) F.1 F.2.1 dX4_gather_104 hl (by decide) rfl (fun ls hl => ?_)
                refine z_iinc (lv' := [(5, .int (iI (j + 1))), (9, .int (iI v_83)), (4, .int (iI (i + 1))), (8, .int (iI i)), (7, .ref x), (6, .int (iI v_15)), (0, .ref a), (1, .ref x), (2, .ref y), (3, .int (iI sign))]) F dX4_gather_106 hl (k := 5) rfl (by decide) rfl (fun ls hl => ?_)
                refine lv_iload F.1 F.2.1 dX4_gather_109 (lv_at hl 1 rfl) ?_
                refine z_if_eq (tgt := 129) F dX4_gather_111 (by decide) zv_83 (fun c_84 => ?_) (fun c_84 => ?_)
                · refine z_goto (tgt := 11) F dX4_gather_129 (by decide) ?_
                  exact ih11 (i + 1) (j + 1) I_3 AI_4 H locs ls ⟨by omega, by omega⟩ ⟨by omega, by omega⟩ hv (fun b hb => fI b hb) (fun b hb => fA b hb) ⟨by omega, by omega⟩ ⟨by omega, by omega⟩ (by omega) hH hS (lv_sub hl [0, 2, 6, 7, 8, 9] rfl)
                · refine lv_aload_n F.1 F.2.1 dX4_gather_114 rfl (lv_at hl 6 rfl) ?_
                  refine lv_aload F.1 F.2.1 dX4_gather_115 (lv_at hl 4 rfl) ?_
                  refine lv_iload F.1 F.2.1 dX4_gather_117 (lv_at hl 3 rfl) ?_
                  refine lv_iload F.1 F.2.1 dX4_gather_119 (lv_at hl 1 rfl) ?_
                  obtain ⟨b_85a, b_85b, b_85c, b_85d, b_85e, b_85f, b_85g, b_85h⟩ := gI_rows hv ha
                  refine g_calli (g_runV (As := [.ref x, .int (iI i), .int (iI v_83)]) (rest := []) (ci := 4) F hl.1 hH hS hz (c_X4_append l g gh I_3 R J AI_4 AJ AR a x i v_83 zi zv_83 hv ha hx (by omega) (by omega) (by omega)) (cwV 3 F.2.2.2.2.1 gX4_gather_X4_append rfl rfl rfl hdX4_append ⟨Nat.le_of_ble_eq_true rfl, Nat.le_of_ble_eq_true rfl⟩) ha (by decide) rfl rfl rfl (Nat.le_of_ble_eq_true rfl) dX4_gather_121 ⟨Nat.zero_le _, Nat.zero_le _⟩) hS (fun v_92 I_86 R_87 J_88 AI_89 AJ_90 AR_91 H locs zv_92 hp_93 hH hS => ?_)
                  dsimp only at hp_93
                  obtain ⟨rfl, rfl, rfl, rfl, hv, q_94, q_95⟩ := hp_93
                  refine z_if_ne (tgt := 129) F dX4_gather_124 (by decide) zv_92 (fun c_96 => ?_) (fun c_96 => ?_)
                  · refine z_goto (tgt := 11) F dX4_gather_129 (by decide) ?_
                    exact ih11 (i + 1) (j + 1) I_86 AI_89 H locs ls ⟨by omega, by omega⟩ ⟨by omega, by omega⟩ hv (fun b hb => (q_94 b hb).trans (fI b hb)) (fun b hb => (q_95 b hb).trans (fA b hb)) ⟨by omega, by omega⟩ ⟨by omega, by omega⟩ (by omega) hH hS (lv_sub hl [0, 2, 6, 7, 8, 9] rfl)
                  · refine z_iconst F dX4_gather_127 ?_
                    exact g_zret F hr hlk hH hS hz (by omega) ⟨rfl, rfl, rfl, rfl, hv, fun b hb => (q_94 b hb).trans (fI b hb), fun b hb => (q_95 b hb).trans (fA b hb)⟩ dX4_gather_128
      · refine lv_iload F.1 F.2.1 dX4_gather_20 (lv_at hl 0 rfl) ?_
        refine lv_aload_n F.1 F.2.1 dX4_gather_22 rfl (lv_at hl 4 rfl) ?_
        refine g_getI (ci := 4) (k := 3) F hH rfl (by decide) iX4 hy (by decide) rfl k34 dX4_gather_23 ?_
        obtain ⟨b_97a, b_97b, b_97c, b_97d, b_97e, b_97f, b_97g, b_97h⟩ := gI_rows hv hy
        refine z_icmp_ge (tgt := 132) F dX4_gather_26 (by decide) zj (zr_t _) (fun c_98 => ?_) (fun c_98 => ?_)
        · refine z_iconst F dX4_gather_132 ?_
          exact g_zret F hr hlk hH hS hz (by omega) ⟨rfl, rfl, rfl, rfl, hv, fun b hb => fI b hb, fun b hb => fA b hb⟩ dX4_gather_133
        · refine lv_aload_n F.1 F.2.1 dX4_gather_29 rfl (lv_at hl 3 rfl) ?_
          refine lv_iload F.1 F.2.1 dX4_gather_30 (lv_at hl 1 rfl) ?_
          refine lv_aload_n F.1 F.2.1 dX4_gather_32 rfl (lv_at hl 4 rfl) ?_
          refine lv_iload F.1 F.2.1 dX4_gather_33 (lv_at hl 0 rfl) ?_
          refine g_calli (g_runS (As := [.ref x, .int (iI i), .ref y, .int (iI j)]) (rest := []) F hl.1 hH hS hz (c_X4_orderOfHeads l g gh I_3 R J AI_4 AJ AR x i y j zi zj hv hx hy (by omega) (by omega) (by omega)) (va_cwS 4 F.2.2.2.2.1 gX4_gather_X4_orderOfHeads rfl rfl rfl hdX4_orderOfHeads.2 ⟨Nat.le_of_ble_eq_true rfl, Nat.le_of_ble_eq_true rfl⟩) rfl rfl (Nat.le_of_ble_eq_true rfl) dX4_gather_35 ⟨Nat.zero_le _, Nat.zero_le _⟩) hS (fun v_105 I_99 R_100 J_101 AI_102 AJ_103 AR_104 H locs zv_105 hp_106 hH hS => ?_)
          dsimp only at hp_106
          obtain ⟨rfl, rfl, rfl, rfl, rfl, rfl, q_107, q_108⟩ := hp_106
          refine lv_istore (lv' := [(6, .int (iI v_105)), (5, .int (iI j)), (4, .int (iI i)), (0, .ref a), (1, .ref x), (2, .ref y), (3, .int (iI sign))]) F.1 F.2.1 dX4_gather_38 hl (by decide) rfl (fun ls hl => ?_)
          refine lv_iload F.1 F.2.1 dX4_gather_40 (lv_at hl 0 rfl) ?_
          refine z_if_gt (tgt := 49) F dX4_gather_42 (by decide) zv_105 (fun c_109 => ?_) (fun c_109 => ?_)
          · refine lv_aload_n F.1 F.2.1 dX4_gather_49 rfl (lv_at hl 5 rfl) ?_
            refine lv_astore (lv' := [(7, .ref y), (6, .int (iI v_105)), (5, .int (iI j)), (4, .int (iI i)), (0, .ref a), (1, .ref x), (2, .ref y), (3, .int (iI sign))]) F.1 F.2.1 dX4_gather_50 hl (by decide) rfl (fun ls hl => ?_)
            refine lv_iload F.1 F.2.1 dX4_gather_52 (lv_at hl 1 rfl) ?_
            refine z_if_gt (tgt := 62) F dX4_gather_54 (by decide) zv_105 (fun c_110 => ?_) (fun c_110 => ?_)
            · refine lv_iload F.1 F.2.1 dX4_gather_62 (lv_at hl 2 rfl) ?_
              refine lv_istore (lv' := [(8, .int (iI j)), (7, .ref y), (6, .int (iI v_105)), (5, .int (iI j)), (4, .int (iI i)), (0, .ref a), (1, .ref x), (2, .ref y), (3, .int (iI sign))]) F.1 F.2.1 dX4_gather_64 hl (by decide) rfl (fun ls hl => ?_)
              refine z_iconst F dX4_gather_66 ?_
              refine lv_istore (lv' := [(9, .int (iI 0)), (8, .int (iI j)), (7, .ref y), (6, .int (iI v_105)), (5, .int (iI j)), (4, .int (iI i)), (0, .ref a), (1, .ref x), (2, .ref y), (3, .int (iI sign))]) F.1 F.2.1 dX4_gather_67 hl (by decide) rfl (fun ls hl => ?_)
              refine lv_iload F.1 F.2.1 dX4_gather_69 (lv_at hl 3 rfl) ?_
              refine z_if_gt (tgt := 88) F dX4_gather_71 (by decide) zv_105 (fun c_111 => ?_) (fun c_111 => ?_)
              · refine lv_iload F.1 F.2.1 dX4_gather_88 (lv_at hl 3 rfl) ?_
                refine z_if_lt (tgt := 109) F dX4_gather_90 (by decide) zv_105 (fun c_112 => ?_) (fun c_112 => ?_)
                · exact absurd trivial (by omega)
                · refine lv_iload F.1 F.2.1 dX4_gather_93 (lv_at hl 0 rfl) ?_
                  refine lv_iload_n F.1 F.2.1 dX4_gather_95 rfl (lv_at hl 9 rfl) ?_
                  refine lv_aload_n F.1 F.2.1 dX4_gather_96 rfl (lv_at hl 8 rfl) ?_
                  refine lv_iload F.1 F.2.1 dX4_gather_97 (lv_at hl 4 rfl) ?_
                  refine g_calli (g_runV (As := [.int (iI j)]) (rest := [.int (iI sign), .int (iI 0)]) (ci := 4) F hl.1 hH hS hz (c_X4_amount l g gh I_3 R J AI_4 AJ AR y j zj hv hy (by omega) (by omega)) (cwV 1 F.2.2.2.2.1 gX4_gather_X4_amount rfl rfl rfl hdX4_amount ⟨Nat.le_of_ble_eq_true rfl, Nat.le_of_ble_eq_true rfl⟩) hy (by decide) rfl rfl rfl (Nat.le_of_ble_eq_true rfl) dX4_gather_99 ⟨Nat.zero_le _, Nat.zero_le _⟩) hS (fun v_119 I_113 R_114 J_115 AI_116 AJ_117 AR_118 H locs zv_119 hp_120 hH hS => ?_)
                  dsimp only at hp_120
                  obtain ⟨rfl, rfl, rfl, rfl, rfl, rfl, q_121⟩ := hp_120
                  refine z_imul F dX4_gather_102 ?_
                  refine z_norm (fun v_122 zv_122 ev_122 => ?_)
                  refine z_iadd F dX4_gather_103 ?_
                  refine z_norm (fun v_123 zv_123 ev_123 => ?_)
                  refine lv_istore (lv' := [(9, .int (iI v_123)), (8, .int (iI j)), (7, .ref y), (6, .int (iI v_105)), (5, .int (iI j)), (4, .int (iI i)), (0, .ref a), (1, .ref x), (2, .ref y), (3, .int (iI sign))]) F.1 F.2.1 dX4_gather_104 hl (by decide) rfl (fun ls hl => ?_)
                  refine z_iinc (lv' := [(5, .int (iI (j + 1))), (9, .int (iI v_123)), (8, .int (iI j)), (7, .ref y), (6, .int (iI v_105)), (4, .int (iI i)), (0, .ref a), (1, .ref x), (2, .ref y), (3, .int (iI sign))]) F dX4_gather_106 hl (k := 4) rfl (by decide) rfl (fun ls hl => ?_)
                  refine lv_iload F.1 F.2.1 dX4_gather_109 (lv_at hl 1 rfl) ?_
                  refine z_if_eq (tgt := 129) F dX4_gather_111 (by decide) zv_123 (fun c_124 => ?_) (fun c_124 => ?_)
                  · refine z_goto (tgt := 11) F dX4_gather_129 (by decide) ?_
                    exact ih11 i (j + 1) I_3 AI_4 H locs ls zi ⟨by omega, by omega⟩ hv (fun b hb => fI b hb) (fun b hb => fA b hb) ⟨by omega, by omega⟩ ⟨by omega, by omega⟩ (by omega) hH hS (lv_sub hl [0, 5, 6, 7, 8, 9] rfl)
                  · refine lv_aload_n F.1 F.2.1 dX4_gather_114 rfl (lv_at hl 6 rfl) ?_
                    refine lv_aload F.1 F.2.1 dX4_gather_115 (lv_at hl 3 rfl) ?_
                    refine lv_iload F.1 F.2.1 dX4_gather_117 (lv_at hl 2 rfl) ?_
                    refine lv_iload F.1 F.2.1 dX4_gather_119 (lv_at hl 1 rfl) ?_
                    obtain ⟨b_125a, b_125b, b_125c, b_125d, b_125e, b_125f, b_125g, b_125h⟩ := gI_rows hv ha
                    refine g_calli (g_runV (As := [.ref y, .int (iI j), .int (iI v_123)]) (rest := []) (ci := 4) F hl.1 hH hS hz (c_X4_append l g gh I_3 R J AI_4 AJ AR a y j v_123 zj zv_123 hv ha hy (by omega) (by omega) (by omega)) (cwV 3 F.2.2.2.2.1 gX4_gather_X4_append rfl rfl rfl hdX4_append ⟨Nat.le_of_ble_eq_true rfl, Nat.le_of_ble_eq_true rfl⟩) ha (by decide) rfl rfl rfl (Nat.le_of_ble_eq_true rfl) dX4_gather_121 ⟨Nat.zero_le _, Nat.zero_le _⟩) hS (fun v_132 I_126 R_127 J_128 AI_129 AJ_130 AR_131 H locs zv_132 hp_133 hH hS => ?_)
                    dsimp only at hp_133
                    obtain ⟨rfl, rfl, rfl, rfl, hv, q_134, q_135⟩ := hp_133
                    refine z_if_ne (tgt := 129) F dX4_gather_124 (by decide) zv_132 (fun c_136 => ?_) (fun c_136 => ?_)
                    · refine z_goto (tgt := 11) F dX4_gather_129 (by decide) ?_
                      exact ih11 i (j + 1) I_126 AI_129 H locs ls zi ⟨by omega, by omega⟩ hv (fun b hb => (q_134 b hb).trans (fI b hb)) (fun b hb => (q_135 b hb).trans (fA b hb)) ⟨by omega, by omega⟩ ⟨by omega, by omega⟩ (by omega) hH hS (lv_sub hl [0, 5, 6, 7, 8, 9] rfl)
                    · refine z_iconst F dX4_gather_127 ?_
                      exact g_zret F hr hlk hH hS hz (by omega) ⟨rfl, rfl, rfl, rfl, hv, fun b hb => (q_134 b hb).trans (fI b hb), fun b hb => (q_135 b hb).trans (fA b hb)⟩ dX4_gather_128
              · exact absurd trivial (by omega)
            · exact absurd trivial (by omega)
          · refine lv_aload_n F.1 F.2.1 dX4_gather_45 rfl (lv_at hl 4 rfl) ?_
            refine z_goto (tgt := 50) F dX4_gather_46 (by decide) ?_
            refine lv_astore (lv' := [(7, .ref x), (6, .int (iI v_105)), (5, .int (iI j)), (4, .int (iI i)), (0, .ref a), (1, .ref x), (2, .ref y), (3, .int (iI sign))]) F.1 F.2.1 dX4_gather_50 hl (by decide) rfl (fun ls hl => ?_)
            refine lv_iload F.1 F.2.1 dX4_gather_52 (lv_at hl 1 rfl) ?_
            refine z_if_gt (tgt := 62) F dX4_gather_54 (by decide) zv_105 (fun c_137 => ?_) (fun c_137 => ?_)
            · exact absurd trivial (by omega)
            · refine lv_iload F.1 F.2.1 dX4_gather_57 (lv_at hl 3 rfl) ?_
              refine z_goto (tgt := 64) F dX4_gather_59 (by decide) ?_
              refine lv_istore (lv' := [(8, .int (iI i)), (7, .ref x), (6, .int (iI v_105)), (5, .int (iI j)), (4, .int (iI i)), (0, .ref a), (1, .ref x), (2, .ref y), (3, .int (iI sign))]) F.1 F.2.1 dX4_gather_64 hl (by decide) rfl (fun ls hl => ?_)
              refine z_iconst F dX4_gather_66 ?_
              refine lv_istore (lv' := [(9, .int (iI 0)), (8, .int (iI i)), (7, .ref x), (6, .int (iI v_105)), (5, .int (iI j)), (4, .int (iI i)), (0, .ref a), (1, .ref x), (2, .ref y), (3, .int (iI sign))]) F.1 F.2.1 dX4_gather_67 hl (by decide) rfl (fun ls hl => ?_)
              refine lv_iload F.1 F.2.1 dX4_gather_69 (lv_at hl 3 rfl) ?_
              refine z_if_gt (tgt := 88) F dX4_gather_71 (by decide) zv_105 (fun c_138 => ?_) (fun c_138 => ?_)
              · exact absurd trivial (by omega)
              · refine lv_iload F.1 F.2.1 dX4_gather_74 (lv_at hl 0 rfl) ?_
                refine lv_aload_n F.1 F.2.1 dX4_gather_76 rfl (lv_at hl 7 rfl) ?_
                refine lv_iload F.1 F.2.1 dX4_gather_77 (lv_at hl 5 rfl) ?_
                refine g_calli (g_runV (As := [.int (iI i)]) (rest := [.int (iI 0)]) (ci := 4) F hl.1 hH hS hz (c_X4_amount l g gh I_3 R J AI_4 AJ AR x i zi hv hx (by omega) (by omega)) (cwV 1 F.2.2.2.2.1 gX4_gather_X4_amount rfl rfl rfl hdX4_amount ⟨Nat.le_of_ble_eq_true rfl, Nat.le_of_ble_eq_true rfl⟩) hx (by decide) rfl rfl rfl (Nat.le_of_ble_eq_true rfl) dX4_gather_79 ⟨Nat.zero_le _, Nat.zero_le _⟩) hS (fun v_145 I_139 R_140 J_141 AI_142 AJ_143 AR_144 H locs zv_145 hp_146 hH hS => ?_)
                dsimp only at hp_146
                obtain ⟨rfl, rfl, rfl, rfl, rfl, rfl, q_147⟩ := hp_146
                refine z_iadd F dX4_gather_82 ?_
                refine z_norm (fun v_148 zv_148 ev_148 => ?_)
                refine lv_istore (lv' := [(9, .int (iI v_148)), (8, .int (iI i)), (7, .ref x), (6, .int (iI v_105)), (5, .int (iI j)), (4, .int (iI i)), (0, .ref a), (1, .ref x), (2, .ref y), (3, .int (iI sign))]) F.1 F.2.1 dX4_gather_83 hl (by decide) rfl (fun ls hl => ?_)
                refine z_iinc (lv' := [(4, .int (iI (i + 1))), (9, .int (iI v_148)), (8, .int (iI i)), (7, .ref x), (6, .int (iI v_105)), (5, .int (iI j)), (0, .ref a), (1, .ref x), (2, .ref y), (3, .int (iI sign))]) F dX4_gather_85 hl (k := 5) rfl (by decide) rfl (fun ls hl => ?_)
                refine lv_iload F.1 F.2.1 dX4_gather_88 (lv_at hl 4 rfl) ?_
                refine z_if_lt (tgt := 109) F dX4_gather_90 (by decide) zv_105 (fun c_149 => ?_) (fun c_149 => ?_)
                · refine lv_iload F.1 F.2.1 dX4_gather_109 (lv_at hl 1 rfl) ?_
                  refine z_if_eq (tgt := 129) F dX4_gather_111 (by decide) zv_148 (fun c_150 => ?_) (fun c_150 => ?_)
                  · refine z_goto (tgt := 11) F dX4_gather_129 (by decide) ?_
                    exact ih11 (i + 1) j I_3 AI_4 H locs ls ⟨by omega, by omega⟩ zj hv (fun b hb => fI b hb) (fun b hb => fA b hb) ⟨by omega, by omega⟩ ⟨by omega, by omega⟩ (by omega) hH hS (lv_sub hl [5, 0, 6, 7, 8, 9] rfl)
                  · refine lv_aload_n F.1 F.2.1 dX4_gather_114 rfl (lv_at hl 6 rfl) ?_
                    refine lv_aload F.1 F.2.1 dX4_gather_115 (lv_at hl 3 rfl) ?_
                    refine lv_iload F.1 F.2.1 dX4_gather_117 (lv_at hl 2 rfl) ?_
                    refine lv_iload F.1 F.2.1 dX4_gather_119 (lv_at hl 1 rfl) ?_
                    obtain ⟨b_151a, b_151b, b_151c, b_151d, b_151e, b_151f, b_151g, b_151h⟩ := gI_rows hv ha
                    refine g_calli (g_runV (As := [.ref x, .int (iI i), .int (iI v_148)]) (rest := []) (ci := 4) F hl.1 hH hS hz (c_X4_append l g gh I_3 R J AI_4 AJ AR a x i v_148 zi zv_148 hv ha hx (by omega) (by omega) (by omega)) (cwV 3 F.2.2.2.2.1 gX4_gather_X4_append rfl rfl rfl hdX4_append ⟨Nat.le_of_ble_eq_true rfl, Nat.le_of_ble_eq_true rfl⟩) ha (by decide) rfl rfl rfl (Nat.le_of_ble_eq_true rfl) dX4_gather_121 ⟨Nat.zero_le _, Nat.zero_le _⟩) hS (fun v_158 I_152 R_153 J_154 AI_155 AJ_156 AR_157 H locs zv_158 hp_159 hH hS => ?_)
                    dsimp only at hp_159
                    obtain ⟨rfl, rfl, rfl, rfl, hv, q_160, q_161⟩ := hp_159
                    refine z_if_ne (tgt := 129) F dX4_gather_124 (by decide) zv_158 (fun c_162 => ?_) (fun c_162 => ?_)
                    · refine z_goto (tgt := 11) F dX4_gather_129 (by decide) ?_
                      exact ih11 (i + 1) j I_152 AI_155 H locs ls ⟨by omega, by omega⟩ zj hv (fun b hb => (q_160 b hb).trans (fI b hb)) (fun b hb => (q_161 b hb).trans (fA b hb)) ⟨by omega, by omega⟩ ⟨by omega, by omega⟩ (by omega) hH hS (lv_sub hl [5, 0, 6, 7, 8, 9] rfl)
                    · refine z_iconst F dX4_gather_127 ?_
                      exact g_zret F hr hlk hH hS hz (by omega) ⟨rfl, rfl, rfl, rfl, hv, fun b hb => (q_160 b hb).trans (fI b hb), fun b hb => (q_161 b hb).trans (fA b hb)⟩ dX4_gather_128
                · refine lv_iload F.1 F.2.1 dX4_gather_93 (lv_at hl 1 rfl) ?_
                  refine lv_iload_n F.1 F.2.1 dX4_gather_95 rfl (lv_at hl 9 rfl) ?_
                  refine lv_aload_n F.1 F.2.1 dX4_gather_96 rfl (lv_at hl 8 rfl) ?_
                  refine lv_iload F.1 F.2.1 dX4_gather_97 (lv_at hl 5 rfl) ?_
                  refine g_calli (g_runV (As := [.int (iI j)]) (rest := [.int (iI sign), .int (iI v_148)]) (ci := 4) F hl.1 hH hS hz (c_X4_amount l g gh I_3 R J AI_4 AJ AR y j zj hv hy (by omega) (by omega)) (cwV 1 F.2.2.2.2.1 gX4_gather_X4_amount rfl rfl rfl hdX4_amount ⟨Nat.le_of_ble_eq_true rfl, Nat.le_of_ble_eq_true rfl⟩) hy (by decide) rfl rfl rfl (Nat.le_of_ble_eq_true rfl) dX4_gather_99 ⟨Nat.zero_le _, Nat.zero_le _⟩) hS (fun v_169 I_163 R_164 J_165 AI_166 AJ_167 AR_168 H locs zv_169 hp_170 hH hS => ?_)
                  dsimp only at hp_170
                  obtain ⟨rfl, rfl, rfl, rfl, rfl, rfl, q_171⟩ := hp_170
                  refine z_imul F dX4_gather_102 ?_
                  refine z_norm (fun v_172 zv_172 ev_172 => ?_)
                  refine z_iadd F dX4_gather_103 ?_
                  refine z_norm (fun v_173 zv_173 ev_173 => ?_)
                  refine lv_istore (lv' := [(9, .int (iI v_173)), (4, .int (iI (i + 1))), (8, .int (iI i)), (7, .ref x), (6, .int (iI v_105)), (5, .int (iI j)), (0, .ref a), (1, .ref x), (2, .ref y), (3, .int (iI sign))]) F.1 F.2.1 dX4_gather_104 hl (by decide) rfl (fun ls hl => ?_)
                  refine z_iinc (lv' := [(5, .int (iI (j + 1))), (9, .int (iI v_173)), (4, .int (iI (i + 1))), (8, .int (iI i)), (7, .ref x), (6, .int (iI v_105)), (0, .ref a), (1, .ref x), (2, .ref y), (3, .int (iI sign))]) F dX4_gather_106 hl (k := 5) rfl (by decide) rfl (fun ls hl => ?_)
                  refine lv_iload F.1 F.2.1 dX4_gather_109 (lv_at hl 1 rfl) ?_
                  refine z_if_eq (tgt := 129) F dX4_gather_111 (by decide) zv_173 (fun c_174 => ?_) (fun c_174 => ?_)
                  · refine z_goto (tgt := 11) F dX4_gather_129 (by decide) ?_
                    exact ih11 (i + 1) (j + 1) I_3 AI_4 H locs ls ⟨by omega, by omega⟩ ⟨by omega, by omega⟩ hv (fun b hb => fI b hb) (fun b hb => fA b hb) ⟨by omega, by omega⟩ ⟨by omega, by omega⟩ (by omega) hH hS (lv_sub hl [0, 2, 6, 7, 8, 9] rfl)
                  · refine lv_aload_n F.1 F.2.1 dX4_gather_114 rfl (lv_at hl 6 rfl) ?_
                    refine lv_aload F.1 F.2.1 dX4_gather_115 (lv_at hl 4 rfl) ?_
                    refine lv_iload F.1 F.2.1 dX4_gather_117 (lv_at hl 3 rfl) ?_
                    refine lv_iload F.1 F.2.1 dX4_gather_119 (lv_at hl 1 rfl) ?_
                    obtain ⟨b_175a, b_175b, b_175c, b_175d, b_175e, b_175f, b_175g, b_175h⟩ := gI_rows hv ha
                    refine g_calli (g_runV (As := [.ref x, .int (iI i), .int (iI v_173)]) (rest := []) (ci := 4) F hl.1 hH hS hz (c_X4_append l g gh I_3 R J AI_4 AJ AR a x i v_173 zi zv_173 hv ha hx (by omega) (by omega) (by omega)) (cwV 3 F.2.2.2.2.1 gX4_gather_X4_append rfl rfl rfl hdX4_append ⟨Nat.le_of_ble_eq_true rfl, Nat.le_of_ble_eq_true rfl⟩) ha (by decide) rfl rfl rfl (Nat.le_of_ble_eq_true rfl) dX4_gather_121 ⟨Nat.zero_le _, Nat.zero_le _⟩) hS (fun v_182 I_176 R_177 J_178 AI_179 AJ_180 AR_181 H locs zv_182 hp_183 hH hS => ?_)
                    dsimp only at hp_183
                    obtain ⟨rfl, rfl, rfl, rfl, hv, q_184, q_185⟩ := hp_183
                    refine z_if_ne (tgt := 129) F dX4_gather_124 (by decide) zv_182 (fun c_186 => ?_) (fun c_186 => ?_)
                    · refine z_goto (tgt := 11) F dX4_gather_129 (by decide) ?_
                      exact ih11 (i + 1) (j + 1) I_176 AI_179 H locs ls ⟨by omega, by omega⟩ ⟨by omega, by omega⟩ hv (fun b hb => (q_184 b hb).trans (fI b hb)) (fun b hb => (q_185 b hb).trans (fA b hb)) ⟨by omega, by omega⟩ ⟨by omega, by omega⟩ (by omega) hH hS (lv_sub hl [0, 2, 6, 7, 8, 9] rfl)
                    · refine z_iconst F dX4_gather_127 ?_
                      exact g_zret F hr hlk hH hS hz (by omega) ⟨rfl, rfl, rfl, rfl, hv, fun b hb => (q_184 b hb).trans (fI b hb), fun b hb => (q_185 b hb).trans (fA b hb)⟩ dX4_gather_128
  exact cut_11_4 ((((gh 1 x : Int) + (gh 1 y : Int) - 0 - 0) + 1 : Int).toNat) 0 0 I_1 AI H locs ls ⟨by decide, by decide⟩ ⟨by decide, by decide⟩ hv (fun b hb => kI_1 b hb) (fun _ _ => rfl) ⟨by omega, by omega⟩ ⟨by omega, by omega⟩ (by omega) hH hS (lv_sub hl [0, 1, 2, 3, 4, 5] rfl)
