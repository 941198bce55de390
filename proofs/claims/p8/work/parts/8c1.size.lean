def rmX6_sizef : Room := { frames := 1, cells := 0, slots := 0, locals := 21 }
set_option maxHeartbeats 4000000 in
set_option maxRecDepth 100000 in
/-- size -/
theorem c_X6_sizef (l : Launch) (g : gG) (gh : gGh) (pA bA nA : Nat) (nr : Nat) (I : gI) (R : gR) (J : gJ) (AI : gI) (AJ : gJ) (AR : gR) (x : Nat) (rel : Int) (zrel : zr rel) (hv : gInv g gh R AR I AI) (hx : xS g gh R AR x pA bA nA) (hlen : (I pA 1).toInt = (nr : Int)) : gMet l g yX6_size wsX6_size rmX6_sizef [.ref x, .int (iI rel)] (I, R, J, AI, AJ, AR) (gQi g (fun (z : Int) (w : gS) => I = w.1 ∧ R = w.2.1 ∧ J = w.2.2.1 ∧ AI = w.2.2.2.1 ∧ AJ = w.2.2.2.2.1 ∧ AR = w.2.2.2.2.2 ∧ (((rel < 0 ∨ (nr : Int) ≤ rel) ∧ z = -1) ∨ ((0 ≤ rel ∧ rel < (nr : Int)) ∧ z = (((rfC gh AR I AI bA rel.toNat).1 : Nat) : Int))))) := by
  refine gStart (cc := cX6_size) (maxL := 2) (ret := (some (.int))) (by decide) rfl (Nat.le_of_ble_eq_true rfl) ?_
  intro p e s m below meth c ls F hr hlk hH hz hS hl
  have hl : lv_has ls 2 [(0, .ref x), (1, .int (iI rel))] := hl
  have hS : va_S (gA g) s.heap s.heap [] := hS
  obtain ⟨H, hHe⟩ : ∃ H : Heap, H = s.heap := ⟨_, rfl⟩
  obtain ⟨locs, hlo⟩ : ∃ k : List Loc, k = [] := ⟨_, rfl⟩
  have hH : gH g I R J AI AJ AR H := by rw [hHe]; exact hH
  have hS : va_S (gA g) s.heap H locs := by rw [hHe, hlo]; exact hS
  suffices hw : W p l e rmX6_sizef s m ([.ref x, .int (iI rel)] : List Value).toArray below meth c H locs 0 0 (MQ below (gQi g (fun (z : Int) (w : gS) => I = w.1 ∧ R = w.2.1 ∧ J = w.2.2.1 ∧ AI = w.2.2.2.1 ∧ AJ = w.2.2.2.2.1 ∧ AR = w.2.2.2.2.2 ∧ (((rel < 0 ∨ (nr : Int) ≤ rel) ∧ z = -1) ∨ ((0 ≤ rel ∧ rel < (nr : Int)) ∧ z = (((rfC gh AR I AI bA rel.toNat).1 : Nat) : Int))))) ([.ref x, .int (iI rel)] : List Value).toArray s 0 0 (gA g)) (F0 m 0 ls []) by
    rw [hHe, hlo] at hw; exact hw
  clear hHe hlo
  have iX6 : ∀ w ∈ u_ws RX6 TX6 18, w ∈ wsX6_size := (by decide +kernel)
  have iX4 : ∀ w ∈ u_ws RX4 TX4 4, w ∈ wsX6_size := (by decide +kernel)
  have k38 : Cond.fieldLink RX6 38 (TX6 5).1 (TX6 5).2.1 (TX6 5).2.2.1 ∈ wsX6_size := List.mem_of_getElem? (i := 1) rfl
  have k99 : Cond.fieldLink RX6 99 (TX4 3).1 (TX4 3).2.1 (TX4 3).2.2.1 ∈ wsX6_size := List.mem_of_getElem? (i := 2) rfl
  refine lv_aload_n F.1 F.2.1 dX6_size_0 rfl (lv_at hl 0 rfl) ?_
  refine lv_iload_n F.1 F.2.1 dX6_size_1 rfl (lv_at hl 1 rfl) ?_
  have b_1 := gI_x hv hx.1
  refine g_calli (g_runV (As := [.int (iI rel)]) (rest := []) (ci := 6) F hl.1 hH hS hz (c_X6_isRelationf l g gh pA bA nA I R J AI AJ AR x rel zrel hv hx) (cwV 1 F.2.2.2.2.1 gX6_size_X6_isRelation rfl rfl rfl hdX6_isRelation ⟨Nat.le_of_ble_eq_true rfl, Nat.le_of_ble_eq_true rfl⟩) hx.1 (by decide) rfl rfl rfl (Nat.le_of_ble_eq_true rfl) dX6_size_2 ⟨Nat.zero_le _, Nat.zero_le _⟩) hS (fun v_8 I_2 R_3 J_4 AI_5 AJ_6 AR_7 H locs zv_8 hp_9 hH hS => ?_)
  dsimp only at hp_9
  obtain ⟨rfl, rfl, rfl, rfl, rfl, rfl, q_10, qir⟩ := hp_9
  refine z_if_eq (tgt := 20) F dX6_size_5 (by decide) zv_8 (fun c_11 => ?_) (fun c_11 => ?_)
  · refine z_iconst F dX6_size_20 ?_
    exact g_iret F hr hlk hH hS hz ⟨by decide, by decide⟩ ⟨rfl, rfl, rfl, rfl, rfl, rfl, Or.inl ⟨by have q9 := qir (by omega); omega, rfl⟩⟩ dX6_size_21
  · refine lv_aload_n F.1 F.2.1 dX6_size_8 rfl (lv_at hl 0 rfl) ?_
    refine g_getR (ci := 6) (k := 5) F hH rfl (by decide) iX6 hx.1 (by decide) rfl (b := bA) hx.2.2.2.1 k38 dX6_size_9 ?_
    refine lv_iload_n F.1 F.2.1 dX6_size_12 rfl (lv_at hl 1 rfl) ?_
    have hx13 : 0 ≤ rel ∧ rel < ((16 : Nat) : Int) ∧ rel ≤ 2147483647 := ⟨by omega, by omega, by omega⟩
    obtain ⟨y_12, y_12a, y_12b, y_12c, y_12d, y_12e⟩ := hx.2.2.2.2.1.2 (rel).toNat (by omega)
    refine g_aldR F hH hx.2.2.2.2.1.1 hx13.1 hx13.2.1 hx13.2.2 (b := y_12) y_12a dX6_size_13 ?_
    have hsz : (I y_12 3).toInt = ((((rfC gh AR I AI bA rel.toNat)).1 : Nat) : Int) := by unfold rfC; rw [rob_e y_12a]; have q9 := (gI_rows hv y_12b).2.2.1; omega
    refine g_getI (ci := 4) (k := 3) F hH rfl (by decide) iX4 y_12b (by decide) rfl k99 dX6_size_14 ?_
    obtain ⟨b_13a, b_13b, b_13c, b_13d, b_13e, b_13f, b_13g, b_13h⟩ := gI_rows hv y_12b
    refine z_goto (tgt := 21) F dX6_size_17 (by decide) ?_
    exact g_iret F hr hlk hH hS hz (zr_t _) ⟨rfl, rfl, rfl, rfl, rfl, rfl, Or.inr ⟨by omega, hsz⟩⟩ dX6_size_21

def rmX6_movedf : Room := { frames := 1, cells := 0, slots := 0, locals := 21 }
set_option maxHeartbeats 4000000 in
set_option maxRecDepth 100000 in
/-- moved -/
theorem c_X6_movedf (l : Launch) (g : gG) (gh : gGh) (pA bA nA : Nat) (nr : Nat) (I : gI) (R : gR) (J : gJ) (AI : gI) (AJ : gJ) (AR : gR) (x : Nat) (rel : Int) (zrel : zr rel) (hv : gInv g gh R AR I AI) (hx : xS g gh R AR x pA bA nA) (hlen : (I pA 1).toInt = (nr : Int)) : gMet l g yX6_moved wsX6_moved rmX6_movedf [.ref x, .int (iI rel)] (I, R, J, AI, AJ, AR) (gQi g (fun (z : Int) (w : gS) => I = w.1 ∧ R = w.2.1 ∧ J = w.2.2.1 ∧ AI = w.2.2.2.1 ∧ AJ = w.2.2.2.2.1 ∧ AR = w.2.2.2.2.2 ∧ (((rel < 0 ∨ (nr : Int) ≤ rel) ∧ z = -1) ∨ ((0 ≤ rel ∧ rel < (nr : Int)) ∧ z = (((rfC gh AR I AI (gh 35 0) rel.toNat).1 : Nat) : Int))))) := by
  refine gStart (cc := cX6_moved) (maxL := 2) (ret := (some (.int))) (by decide) rfl (Nat.le_of_ble_eq_true rfl) ?_
  intro p e s m below meth c ls F hr hlk hH hz hS hl
  have hl : lv_has ls 2 [(0, .ref x), (1, .int (iI rel))] := hl
  have hS : va_S (gA g) s.heap s.heap [] := hS
  obtain ⟨H, hHe⟩ : ∃ H : Heap, H = s.heap := ⟨_, rfl⟩
  obtain ⟨locs, hlo⟩ : ∃ k : List Loc, k = [] := ⟨_, rfl⟩
  have hH : gH g I R J AI AJ AR H := by rw [hHe]; exact hH
  have hS : va_S (gA g) s.heap H locs := by rw [hHe, hlo]; exact hS
  suffices hw : W p l e rmX6_movedf s m ([.ref x, .int (iI rel)] : List Value).toArray below meth c H locs 0 0 (MQ below (gQi g (fun (z : Int) (w : gS) => I = w.1 ∧ R = w.2.1 ∧ J = w.2.2.1 ∧ AI = w.2.2.2.1 ∧ AJ = w.2.2.2.2.1 ∧ AR = w.2.2.2.2.2 ∧ (((rel < 0 ∨ (nr : Int) ≤ rel) ∧ z = -1) ∨ ((0 ≤ rel ∧ rel < (nr : Int)) ∧ z = (((rfC gh AR I AI (gh 35 0) rel.toNat).1 : Nat) : Int))))) ([.ref x, .int (iI rel)] : List Value).toArray s 0 0 (gA g)) (F0 m 0 ls []) by
    rw [hHe, hlo] at hw; exact hw
  clear hHe hlo
  have iX6 : ∀ w ∈ u_ws RX6 TX6 18, w ∈ wsX6_moved := (by decide +kernel)
  have iX4 : ∀ w ∈ u_ws RX4 TX4 4, w ∈ wsX6_moved := (by decide +kernel)
  have k45 : Cond.fieldLink RX6 45 (TX6 7).1 (TX6 7).2.1 (TX6 7).2.2.1 ∈ wsX6_moved := List.mem_of_getElem? (i := 1) rfl
  have k99 : Cond.fieldLink RX6 99 (TX4 3).1 (TX4 3).2.1 (TX4 3).2.2.1 ∈ wsX6_moved := List.mem_of_getElem? (i := 2) rfl
  refine lv_aload_n F.1 F.2.1 dX6_moved_0 rfl (lv_at hl 0 rfl) ?_
  refine lv_iload_n F.1 F.2.1 dX6_moved_1 rfl (lv_at hl 1 rfl) ?_
  have b_1 := gI_x hv hx.1
  refine g_calli (g_runV (As := [.int (iI rel)]) (rest := []) (ci := 6) F hl.1 hH hS hz (c_X6_isRelationf l g gh pA bA nA I R J AI AJ AR x rel zrel hv hx) (cwV 1 F.2.2.2.2.1 gX6_moved_X6_isRelation rfl rfl rfl hdX6_isRelation ⟨Nat.le_of_ble_eq_true rfl, Nat.le_of_ble_eq_true rfl⟩) hx.1 (by decide) rfl rfl rfl (Nat.le_of_ble_eq_true rfl) dX6_moved_2 ⟨Nat.zero_le _, Nat.zero_le _⟩) hS (fun v_8 I_2 R_3 J_4 AI_5 AJ_6 AR_7 H locs zv_8 hp_9 hH hS => ?_)
  dsimp only at hp_9
  obtain ⟨rfl, rfl, rfl, rfl, rfl, rfl, q_10, qir⟩ := hp_9
  refine z_if_eq (tgt := 20) F dX6_moved_5 (by decide) zv_8 (fun c_11 => ?_) (fun c_11 => ?_)
  · refine z_iconst F dX6_moved_20 ?_
    exact g_iret F hr hlk hH hS hz ⟨by decide, by decide⟩ ⟨rfl, rfl, rfl, rfl, rfl, rfl, Or.inl ⟨by have q9 := qir (by omega); omega, rfl⟩⟩ dX6_moved_21
  · refine lv_aload_n F.1 F.2.1 dX6_moved_8 rfl (lv_at hl 0 rfl) ?_
    obtain ⟨r_12a, r_12b⟩ := gR_x7 hv hx.1
    refine g_getR (ci := 6) (k := 7) F hH rfl (by decide) iX6 hx.1 (by decide) rfl (b := gh 35 0) r_12a k45 dX6_moved_9 ?_
    refine lv_iload_n F.1 F.2.1 dX6_moved_12 rfl (lv_at hl 1 rfl) ?_
    have hx13 : 0 ≤ rel ∧ rel < ((16 : Nat) : Int) ∧ rel ≤ 2147483647 := ⟨by omega, by omega, by omega⟩
    obtain ⟨y_13, y_13a, y_13b, y_13c, y_13d, y_13e⟩ := r_12b.2 (rel).toNat (by omega)
    refine g_aldR F hH r_12b.1 hx13.1 hx13.2.1 hx13.2.2 (b := y_13) y_13a dX6_moved_13 ?_
    have hsz : (I y_13 3).toInt = ((((rfC gh AR I AI (gh 35 0) rel.toNat)).1 : Nat) : Int) := by unfold rfC; rw [rob_e y_13a]; have q9 := (gI_rows hv y_13b).2.2.1; omega
    refine g_getI (ci := 4) (k := 3) F hH rfl (by decide) iX4 y_13b (by decide) rfl k99 dX6_moved_14 ?_
    obtain ⟨b_14a, b_14b, b_14c, b_14d, b_14e, b_14f, b_14g, b_14h⟩ := gI_rows hv y_13b
    refine z_goto (tgt := 21) F dX6_moved_17 (by decide) ?_
    exact g_iret F hr hlk hH hS hz (zr_t _) ⟨rfl, rfl, rfl, rfl, rfl, rfl, Or.inr ⟨by omega, hsz⟩⟩ dX6_moved_21
