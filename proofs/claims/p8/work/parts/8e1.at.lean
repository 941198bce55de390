def rmX6_tupleCellf : Room := { frames := 6, cells := 1, slots := 6, locals := 82 }
set_option maxHeartbeats 4000000 in
set_option maxRecDepth 100000 in
/-- a cell of a tuple -/
theorem c_X6_tupleCellf (l : Launch) (g : gG) (gh : gGh) (n : Nat) (I : gI) (R : gR) (J : gJ) (AI : gI) (AJ : gJ) (AR : gR) (a : Nat) (cl : Int) (row : Int) (place : Int) (zcl : zr cl) (zrow : zr row) (zplace : zr place) (hv : gInv g gh R AR I AI) (ha : gO g a 4) (hcl : cl ≤ 6) (hn9 : (I a 3).toInt = (n : Int)) (h49 : gh 2 a = 4) (hst : l.stackTraces = false) : gMetX l g yX6_tupleCell tsX6_tupleCell rmX6_tupleCellf [.ref a, .int (iI cl), .int (iI row), .int (iI place)] (I, R, J, AI, AJ, AR) (gQi g (fun (z : Int) (w : gS) => I = w.1 ∧ R = w.2.1 ∧ J = w.2.2.1 ∧ AI = w.2.2.2.1 ∧ AJ = w.2.2.2.2.1 ∧ AR = w.2.2.2.2.2 ∧ (((0 ≤ row ∧ row < (n : Int)) ∧ (place = 4 ∨ (0 ≤ place ∧ place < cl))) ∧ z = (AI (gh 0 a) (6 * row.toNat + place.toNat)).toInt))) (fun w : gS => I = w.1 ∧ R = w.2.1 ∧ J = w.2.2.1 ∧ AI = w.2.2.2.1 ∧ AJ = w.2.2.2.2.1 ∧ AR = w.2.2.2.2.2 ∧ (¬ ((0 ≤ row ∧ row < (n : Int)) ∧ (place = 4 ∨ (0 ≤ place ∧ place < cl))))) := by
  refine gStartX (cc := cX6_tupleCell) (maxL := 4) (ret := (some (.int))) (by decide) rfl (Nat.le_of_ble_eq_true rfl) ?_
  intro p e s m below meth c ls F hr hlk hH hz hS hxt hTh hl
  have hl : lv_has ls 4 [(0, .ref a), (1, .int (iI cl)), (2, .int (iI row)), (3, .int (iI place))] := hl
  have hS : va_S (gA g) s.heap s.heap [] := hS
  obtain ⟨H, hHe⟩ : ∃ H : Heap, H = s.heap := ⟨_, rfl⟩
  obtain ⟨locs, hlo⟩ : ∃ k : List Loc, k = [] := ⟨_, rfl⟩
  have hH : gH g I R J AI AJ AR H := by rw [hHe]; exact hH
  have hS : va_S (gA g) s.heap H locs := by rw [hHe, hlo]; exact hS
  suffices hw : W p l e rmX6_tupleCellf s m ([.ref a, .int (iI cl), .int (iI row), .int (iI place)] : List Value).toArray below meth c H locs 0 0 (vx_MQ below (gQi g (fun (z : Int) (w : gS) => I = w.1 ∧ R = w.2.1 ∧ J = w.2.2.1 ∧ AI = w.2.2.2.1 ∧ AJ = w.2.2.2.2.1 ∧ AR = w.2.2.2.2.2 ∧ (((0 ≤ row ∧ row < (n : Int)) ∧ (place = 4 ∨ (0 ≤ place ∧ place < cl))) ∧ z = (AI (gh 0 a) (6 * row.toNat + place.toNat)).toInt))) (vx_X (fun w : gS => I = w.1 ∧ R = w.2.1 ∧ J = w.2.2.1 ∧ AI = w.2.2.2.1 ∧ AJ = w.2.2.2.2.1 ∧ AR = w.2.2.2.2.2 ∧ (¬ ((0 ≤ row ∧ row < (n : Int)) ∧ (place = 4 ∨ (0 ≤ place ∧ place < cl))))) (gBX g) (gA g)) ([.ref a, .int (iI cl), .int (iI row), .int (iI place)] : List Value).toArray s 1 6 (gA g)) (F0 m 0 ls []) by
    rw [hHe, hlo] at hw; exact hw
  clear hHe hlo
  have hrl := gI_rows hv ha
  have iX4 : ∀ w ∈ u_ws RX4 TX4 4, w ∈ tsX6_tupleCell := fun w h => List.mem_cons_of_mem _ (inTB4 w h)
  have k99 : Cond.fieldLink RX6 99 (TX4 3).1 (TX4 3).2.1 (TX4 3).2.2.1 ∈ tsX6_tupleCell := List.mem_cons_of_mem _ (TBm (tk1 (List.mem_of_getElem? (i := 217) rfl)) rfl)
  refine lv_iload_n F.1 F.2.1 dX6_tupleCell_0 rfl (lv_at hl 2 rfl) ?_
  refine z_if_lt (tgt := 12) F dX6_tupleCell_1 (by decide) zrow (fun c_1 => ?_) (fun c_1 => ?_)
  · exact g_throw F hTh hst hH hS hz hxt hlk hl.1 (i := 5) rfl (fun w h => List.mem_cons_of_mem _ h) dX6_tupleCell_12 dX6_tupleCell_15 dX6_tupleCell_16 dX6_tupleCell_18 dX6_tupleCell_21 (Nat.le_of_ble_eq_true rfl) (Nat.le_of_ble_eq_true rfl) (Nat.le_refl _) (Nat.le_refl _) ⟨rfl, rfl, rfl, rfl, rfl, rfl, by rintro ⟨h8, h7⟩; omega⟩
  · refine lv_iload_n F.1 F.2.1 dX6_tupleCell_4 rfl (lv_at hl 2 rfl) ?_
    refine lv_aload_n F.1 F.2.1 dX6_tupleCell_5 rfl (lv_at hl 0 rfl) ?_
    refine g_getI (ci := 4) (k := 3) F hH rfl (by decide) iX4 ha (by decide) rfl k99 dX6_tupleCell_6 ?_
    obtain ⟨b_2a, b_2b, b_2c, b_2d, b_2e, b_2f, b_2g, b_2h⟩ := gI_rows hv ha
    refine z_icmp_lt (tgt := 22) F dX6_tupleCell_9 (by decide) zrow (zr_t _) (fun c_3 => ?_) (fun c_3 => ?_)
    · refine lv_iload_n F.1 F.2.1 dX6_tupleCell_22 rfl (lv_at hl 3 rfl) ?_
      refine z_iconst F dX6_tupleCell_23 ?_
      refine z_icmp_ne (tgt := 33) F dX6_tupleCell_24 (by decide) zplace ⟨by decide, by decide⟩ (fun c_4 => ?_) (fun c_4 => ?_)
      · refine lv_iload_n F.1 F.2.1 dX6_tupleCell_33 rfl (lv_at hl 3 rfl) ?_
        refine z_if_lt (tgt := 42) F dX6_tupleCell_34 (by decide) zplace (fun c_5 => ?_) (fun c_5 => ?_)
        · exact g_throw F hTh hst hH hS hz hxt hlk hl.1 (i := 3) rfl (fun w h => List.mem_cons_of_mem _ h) dX6_tupleCell_42 dX6_tupleCell_45 dX6_tupleCell_46 dX6_tupleCell_48 dX6_tupleCell_51 (Nat.le_of_ble_eq_true rfl) (Nat.le_of_ble_eq_true rfl) (Nat.le_refl _) (Nat.le_refl _) ⟨rfl, rfl, rfl, rfl, rfl, rfl, by rintro ⟨h8, h7⟩; omega⟩
        · refine lv_iload_n F.1 F.2.1 dX6_tupleCell_37 rfl (lv_at hl 3 rfl) ?_
          refine lv_iload_n F.1 F.2.1 dX6_tupleCell_38 rfl (lv_at hl 1 rfl) ?_
          refine z_icmp_lt (tgt := 52) F dX6_tupleCell_39 (by decide) zplace zcl (fun c_6 => ?_) (fun c_6 => ?_)
          · refine lv_aload_n F.1 F.2.1 dX6_tupleCell_52 rfl (lv_at hl 0 rfl) ?_
            refine lv_iload_n F.1 F.2.1 dX6_tupleCell_53 rfl (lv_at hl 2 rfl) ?_
            refine lv_iload_n F.1 F.2.1 dX6_tupleCell_54 rfl (lv_at hl 3 rfl) ?_
            refine g_calli (g_runV (As := [.int (iI row), .int (iI place)]) (rest := []) (ci := 4) F hl.1 hH hS hz (c_X4_cell l g gh I R J AI AJ AR a row place zrow zplace hv ha (by omega) (by omega) (by omega) (by omega)) (cwV 2 F.2.2.2.2.1 (good_up gTB_X6_tupleCell_X4_cell) rfl rfl rfl hdX4_cell ⟨Nat.le_of_ble_eq_true rfl, Nat.le_of_ble_eq_true rfl⟩) ha (by decide) rfl rfl rfl (Nat.le_of_ble_eq_true rfl) dX6_tupleCell_55 ⟨Nat.zero_le _, Nat.zero_le _⟩) hS (fun v_13 I_7 R_8 J_9 AI_10 AJ_11 AR_12 H locs zv_13 hp_14 hH hS => ?_)
            dsimp only at hp_14
            obtain ⟨rfl, rfl, rfl, rfl, rfl, rfl, qce⟩ := hp_14
            exact g_iretX F hr hlk hH hS hz zv_13 ⟨rfl, rfl, rfl, rfl, rfl, rfl, ⟨by omega, by (try dsimp only); first | (rw [qam]; congr 2; omega) | (rw [qce]; congr 2; omega)⟩⟩ (by decide) (by decide) dX6_tupleCell_58
          · exact g_throw F hTh hst hH hS hz hxt hlk hl.1 (i := 3) rfl (fun w h => List.mem_cons_of_mem _ h) dX6_tupleCell_42 dX6_tupleCell_45 dX6_tupleCell_46 dX6_tupleCell_48 dX6_tupleCell_51 (Nat.le_of_ble_eq_true rfl) (Nat.le_of_ble_eq_true rfl) (Nat.le_refl _) (Nat.le_refl _) ⟨rfl, rfl, rfl, rfl, rfl, rfl, by rintro ⟨h8, h7⟩; omega⟩
      · refine lv_aload_n F.1 F.2.1 dX6_tupleCell_27 rfl (lv_at hl 0 rfl) ?_
        refine lv_iload_n F.1 F.2.1 dX6_tupleCell_28 rfl (lv_at hl 2 rfl) ?_
        refine g_calli (g_runV (As := [.int (iI row)]) (rest := []) (ci := 4) F hl.1 hH hS hz (c_X4_amount l g gh I R J AI AJ AR a row zrow hv ha (by omega) (by omega)) (cwV 1 F.2.2.2.2.1 (good_up gTB_X6_tupleCell_X4_amount) rfl rfl rfl hdX4_amount ⟨Nat.le_of_ble_eq_true rfl, Nat.le_of_ble_eq_true rfl⟩) ha (by decide) rfl rfl rfl (Nat.le_of_ble_eq_true rfl) dX6_tupleCell_29 ⟨Nat.zero_le _, Nat.zero_le _⟩) hS (fun v_21 I_15 R_16 J_17 AI_18 AJ_19 AR_20 H locs zv_21 hp_22 hH hS => ?_)
        dsimp only at hp_22
        obtain ⟨rfl, rfl, rfl, rfl, rfl, rfl, qam⟩ := hp_22
        exact g_iretX F hr hlk hH hS hz zv_21 ⟨rfl, rfl, rfl, rfl, rfl, rfl, ⟨by omega, by (try dsimp only); first | (rw [qam]; congr 2; omega) | (rw [qce]; congr 2; omega)⟩⟩ (by decide) (by decide) dX6_tupleCell_32
    · exact g_throw F hTh hst hH hS hz hxt hlk hl.1 (i := 5) rfl (fun w h => List.mem_cons_of_mem _ h) dX6_tupleCell_12 dX6_tupleCell_15 dX6_tupleCell_16 dX6_tupleCell_18 dX6_tupleCell_21 (Nat.le_of_ble_eq_true rfl) (Nat.le_of_ble_eq_true rfl) (Nat.le_refl _) (Nat.le_refl _) ⟨rfl, rfl, rfl, rfl, rfl, rfl, by rintro ⟨h8, h7⟩; omega⟩

def rmX6_atf : Room := { frames := 7, cells := 1, slots := 6, locals := 105 }
set_option maxHeartbeats 4000000 in
set_option maxRecDepth 100000 in
/-- at -/
theorem c_X6_atf (l : Launch) (g : gG) (gh : gGh) (pA bA nA : Nat) (nr : Nat) (cc : Nat → LC) (I : gI) (R : gR) (J : gJ) (AI : gI) (AJ : gJ) (AR : gR) (x : Nat) (rel : Int) (row : Int) (place : Int) (zrel : zr rel) (zrow : zr row) (zplace : zr place) (hv : gInv g gh R AR I AI) (hx : xS g gh R AR x pA bA nA) (hlen : (I pA 1).toInt = (nr : Int)) (hln : ∀ r, r < nr → lnC (I (rob AR (gh 6 pA) r)) (AI (gh 3 (rob AR (gh 6 pA) r))) (cc r)) (hst : l.stackTraces = false) : gMetX l g yX6_at tsX6_at rmX6_atf [.ref x, .int (iI rel), .int (iI row), .int (iI place)] (I, R, J, AI, AJ, AR) (gQi g (fun (z : Int) (w : gS) => I = w.1 ∧ R = w.2.1 ∧ J = w.2.2.1 ∧ AI = w.2.2.2.1 ∧ AJ = w.2.2.2.2.1 ∧ AR = w.2.2.2.2.2 ∧ (((0 ≤ rel ∧ rel < (nr : Int)) ∧ (place = 4 ∨ (0 ≤ place ∧ place < (cc rel.toNat).1 1)) ∧ 0 ≤ row ∧ row < (((rfC gh AR I AI bA rel.toNat).1 : Nat) : Int)) ∧ z = (((rfC gh AR I AI bA rel.toNat)).2 (6 * row.toNat + place.toNat)).toInt))) (fun w : gS => I = w.1 ∧ R = w.2.1 ∧ J = w.2.2.1 ∧ AI = w.2.2.2.1 ∧ AJ = w.2.2.2.2.1 ∧ AR = w.2.2.2.2.2 ∧ (¬ ((0 ≤ rel ∧ rel < (nr : Int)) ∧ (place = 4 ∨ (0 ≤ place ∧ place < (cc rel.toNat).1 1)) ∧ 0 ≤ row ∧ row < (((rfC gh AR I AI bA rel.toNat).1 : Nat) : Int)))) := by
  refine gStartX (cc := cX6_at) (maxL := 4) (ret := (some (.int))) (by decide) rfl (Nat.le_of_ble_eq_true rfl) ?_
  intro p e s m below meth c ls F hr hlk hH hz hS hxt hTh hl
  have hl : lv_has ls 4 [(0, .ref x), (1, .int (iI rel)), (2, .int (iI row)), (3, .int (iI place))] := hl
  have hS : va_S (gA g) s.heap s.heap [] := hS
  obtain ⟨H, hHe⟩ : ∃ H : Heap, H = s.heap := ⟨_, rfl⟩
  obtain ⟨locs, hlo⟩ : ∃ k : List Loc, k = [] := ⟨_, rfl⟩
  have hH : gH g I R J AI AJ AR H := by rw [hHe]; exact hH
  have hS : va_S (gA g) s.heap H locs := by rw [hHe, hlo]; exact hS
  suffices hw : W p l e rmX6_atf s m ([.ref x, .int (iI rel), .int (iI row), .int (iI place)] : List Value).toArray below meth c H locs 0 0 (vx_MQ below (gQi g (fun (z : Int) (w : gS) => I = w.1 ∧ R = w.2.1 ∧ J = w.2.2.1 ∧ AI = w.2.2.2.1 ∧ AJ = w.2.2.2.2.1 ∧ AR = w.2.2.2.2.2 ∧ (((0 ≤ rel ∧ rel < (nr : Int)) ∧ (place = 4 ∨ (0 ≤ place ∧ place < (cc rel.toNat).1 1)) ∧ 0 ≤ row ∧ row < (((rfC gh AR I AI bA rel.toNat).1 : Nat) : Int)) ∧ z = (((rfC gh AR I AI bA rel.toNat)).2 (6 * row.toNat + place.toNat)).toInt))) (vx_X (fun w : gS => I = w.1 ∧ R = w.2.1 ∧ J = w.2.2.1 ∧ AI = w.2.2.2.1 ∧ AJ = w.2.2.2.2.1 ∧ AR = w.2.2.2.2.2 ∧ (¬ ((0 ≤ rel ∧ rel < (nr : Int)) ∧ (place = 4 ∨ (0 ≤ place ∧ place < (cc rel.toNat).1 1)) ∧ 0 ≤ row ∧ row < (((rfC gh AR I AI bA rel.toNat).1 : Nat) : Int)))) (gBX g) (gA g)) ([.ref x, .int (iI rel), .int (iI row), .int (iI place)] : List Value).toArray s 1 6 (gA g)) (F0 m 0 ls []) by
    rw [hHe, hlo] at hw; exact hw
  clear hHe hlo
  have iX6 : ∀ w ∈ u_ws RX6 TX6 18, w ∈ tsX6_at := fun w h => List.mem_cons_of_mem _ (inTB6 w h)
  have iX2 : ∀ w ∈ u_ws RX2 TX2 3, w ∈ tsX6_at := fun w h => List.mem_cons_of_mem _ (inTB2 w h)
  have iX0 : ∀ w ∈ u_ws RX0 TX0 15, w ∈ tsX6_at := fun w h => List.mem_cons_of_mem _ (inTB0 w h)
  have k38 : Cond.fieldLink RX6 38 (TX6 5).1 (TX6 5).2.1 (TX6 5).2.2.1 ∈ tsX6_at := List.mem_cons_of_mem _ (TBm (tk1 (List.mem_of_getElem? (i := 235) rfl)) rfl)
  have k23 : Cond.fieldLink RX6 23 (TX6 3).1 (TX6 3).2.1 (TX6 3).2.2.1 ∈ tsX6_at := List.mem_cons_of_mem _ (TBm (tk1 (List.mem_of_getElem? (i := 233) rfl)) rfl)
  have k113 : Cond.fieldLink RX6 113 (TX2 0).1 (TX2 0).2.1 (TX2 0).2.2.1 ∈ tsX6_at := List.mem_cons_of_mem _ (TBm (tk1 (List.mem_of_getElem? (i := 156) rfl)) rfl)
  have k125 : Cond.fieldLink RX6 125 (TX0 2).1 (TX0 2).2.1 (TX0 2).2.2.1 ∈ tsX6_at := List.mem_cons_of_mem _ (TBm (tk1 (List.mem_of_getElem? (i := 86) rfl)) rfl)
  refine lv_aload_n F.1 F.2.1 dX6_at_0 rfl (lv_at hl 0 rfl) ?_
  refine lv_iload_n F.1 F.2.1 dX6_at_1 rfl (lv_at hl 1 rfl) ?_
  have b_1 := gI_x hv hx.1
  refine g_calli (g_runV (As := [.int (iI rel)]) (rest := []) (ci := 6) F hl.1 hH hS hz (c_X6_isRelationf l g gh pA bA nA I R J AI AJ AR x rel zrel hv hx) (cwV 1 F.2.2.2.2.1 (good_up gTB_X6_at_X6_isRelation) rfl rfl rfl hdX6_isRelation ⟨Nat.le_of_ble_eq_true rfl, Nat.le_of_ble_eq_true rfl⟩) hx.1 (by decide) rfl rfl rfl (Nat.le_of_ble_eq_true rfl) dX6_at_2 ⟨Nat.zero_le _, Nat.zero_le _⟩) hS (fun v_8 I_2 R_3 J_4 AI_5 AJ_6 AR_7 H locs zv_8 hp_9 hH hS => ?_)
  dsimp only at hp_9
  obtain ⟨rfl, rfl, rfl, rfl, rfl, rfl, q_10, qir⟩ := hp_9
  refine z_if_ne (tgt := 18) F dX6_at_5 (by decide) zv_8 (fun c_11 => ?_) (fun c_11 => ?_)
  · refine lv_aload_n F.1 F.2.1 dX6_at_18 rfl (lv_at hl 0 rfl) ?_
    refine g_getR (ci := 6) (k := 5) F hH rfl (by decide) iX6 hx.1 (by decide) rfl (b := bA) hx.2.2.2.1 k38 dX6_at_19 ?_
    refine lv_iload_n F.1 F.2.1 dX6_at_22 rfl (lv_at hl 1 rfl) ?_
    have hx23 : 0 ≤ rel ∧ rel < ((16 : Nat) : Int) ∧ rel ≤ 2147483647 := ⟨by omega, by omega, by omega⟩
    obtain ⟨y_12, y_12a, y_12b, y_12c, y_12d, y_12e⟩ := hx.2.2.2.2.1.2 (rel).toNat (by omega)
    refine g_aldR F hH hx.2.2.2.2.1.1 hx23.1 hx23.2.1 hx23.2.2 (b := y_12) y_12a dX6_at_23 ?_
    have hsz : (I y_12 3).toInt = ((((rfC gh AR I AI bA rel.toNat)).1 : Nat) : Int) := by unfold rfC; rw [rob_e y_12a]; have q9 := (gI_rows hv y_12b).2.2.1; omega
    have h49 : gh 2 y_12 = 4 := y_12d
    have e2 : ((rfC gh AR I AI bA rel.toNat)).2 = AI (gh 0 y_12) := by unfold rfC; rw [rob_e y_12a]
    refine lv_aload_n F.1 F.2.1 dX6_at_24 rfl (lv_at hl 0 rfl) ?_
    refine g_getR (ci := 6) (k := 3) F hH rfl (by decide) iX6 hx.1 (by decide) rfl (b := pA) hx.2.1 k23 dX6_at_25 ?_
    obtain ⟨r_13a, r_13b⟩ := gR_lines hv hx.2.2.1
    refine g_getR (ci := 2) (k := 0) F hH rfl (by decide) iX2 hx.2.2.1 (by decide) rfl (b := gh 6 pA) r_13a k113 dX6_at_28 ?_
    refine lv_iload_n F.1 F.2.1 dX6_at_31 rfl (lv_at hl 1 rfl) ?_
    have hx32 : 0 ≤ rel ∧ rel < ((16 : Nat) : Int) ∧ rel ≤ 2147483647 := ⟨by omega, by omega, by omega⟩
    obtain ⟨y_14, y_14a, y_14b, y_14c, y_14d⟩ := gA_lines hv hx.2.2.1 (z := rel) (by omega) (by omega)
    refine g_aldL F hH r_13b hx32.1 hx32.2.1 hx32.2.2 (b := y_14) y_14a dX6_at_32 ?_
    have hl9 := (hln rel.toNat (by omega)).1
    rw [rob_e y_14a] at hl9
    refine g_getI (ci := 0) (k := 2) F hH rfl (by decide) iX0 y_14b (by decide) rfl k125 dX6_at_33 ?_
    have b_15 := gI_line hv y_14b
    unfold vLineI at b_15
    have hc4 : (I y_14 2).toInt ≤ 4 := by have q := (hv.2.2.1 y_14 y_14b).2.2.2; rw [y_14c] at q; exact q (by omega)
    refine lv_iload_n F.1 F.2.1 dX6_at_36 rfl (lv_at hl 2 rfl) ?_
    refine lv_iload_n F.1 F.2.1 dX6_at_37 rfl (lv_at hl 3 rfl) ?_
    refine g_calliX (g_runSX (As := [.ref y_12, .int (iI ((I y_14 2).toInt)), .int (iI row), .int (iI place)]) (rest := []) F hTh hl.1 hH hS hz (c_X6_tupleCellf l g gh ((rfC gh AR I AI bA rel.toNat).1) I R J AI AJ AR y_12 ((I y_14 2).toInt) row place (zr_t _) zrow zplace hv y_12b (by omega) hsz h49 hst) (va_cwS 4 F.2.2.2.2.1 (good_up gTB_X6_at_X6_tupleCell) rfl rfl rfl hdX6_tupleCell.2 ⟨Nat.le_of_ble_eq_true rfl, Nat.le_of_ble_eq_true rfl⟩) rfl rfl (Nat.le_of_ble_eq_true rfl) dX6_at_38 ⟨Nat.le_refl _, Nat.le_refl _⟩) hS (fun ce9 q9 I2 R2 J2 AI2 AJ2 AR2 H locs hp hH hS h1 h2 h3 => ?_) (fun z I2 R2 J2 AI2 AJ2 AR2 H locs zz hp hH hS => ?_)
    · dsimp only at hp
      obtain ⟨rfl, rfl, rfl, rfl, rfl, rfl, qtx⟩ := hp
      exact g_outX F hH hS hz hxt hlk h1 h2 h3 ⟨rfl, rfl, rfl, rfl, rfl, rfl, (fun h9 => qtx ⟨h9.2.2, by have h8 := h9.2.1; omega⟩)⟩ (by decide) (by decide)
    dsimp only at hp
    obtain ⟨rfl, rfl, rfl, rfl, rfl, rfl, qtc⟩ := hp
    exact g_iretX F hr hlk hH hS hz zz ⟨rfl, rfl, rfl, rfl, rfl, rfl, ⟨⟨by omega, by have h9 := qtc.1.2; omega, qtc.1.1⟩, by (try dsimp only); rw [e2]; exact qtc.2⟩⟩ (by decide) (by decide) dX6_at_41
  · exact g_throw F hTh hst hH hS hz hxt hlk hl.1 (i := 4) rfl (fun w h => List.mem_cons_of_mem _ h) dX6_at_8 dX6_at_11 dX6_at_12 dX6_at_14 dX6_at_17 (Nat.le_of_ble_eq_true rfl) (Nat.le_of_ble_eq_true rfl) (Nat.le_refl _) (Nat.le_refl _) ⟨rfl, rfl, rfl, rfl, rfl, rfl, (fun h9 => by have h8 := h9.1; have h7 := qir (by omega); omega)⟩

def rmX6_movedAtf : Room := { frames := 7, cells := 1, slots := 6, locals := 105 }
set_option maxHeartbeats 4000000 in
set_option maxRecDepth 100000 in
/-- movedAt -/
theorem c_X6_movedAtf (l : Launch) (g : gG) (gh : gGh) (pA bA nA : Nat) (nr : Nat) (cc : Nat → LC) (I : gI) (R : gR) (J : gJ) (AI : gI) (AJ : gJ) (AR : gR) (x : Nat) (rel : Int) (row : Int) (place : Int) (zrel : zr rel) (zrow : zr row) (zplace : zr place) (hv : gInv g gh R AR I AI) (hx : xS g gh R AR x pA bA nA) (hlen : (I pA 1).toInt = (nr : Int)) (hln : ∀ r, r < nr → lnC (I (rob AR (gh 6 pA) r)) (AI (gh 3 (rob AR (gh 6 pA) r))) (cc r)) (hst : l.stackTraces = false) : gMetX l g yX6_movedAt tsX6_movedAt rmX6_movedAtf [.ref x, .int (iI rel), .int (iI row), .int (iI place)] (I, R, J, AI, AJ, AR) (gQi g (fun (z : Int) (w : gS) => I = w.1 ∧ R = w.2.1 ∧ J = w.2.2.1 ∧ AI = w.2.2.2.1 ∧ AJ = w.2.2.2.2.1 ∧ AR = w.2.2.2.2.2 ∧ (((0 ≤ rel ∧ rel < (nr : Int)) ∧ (place = 4 ∨ (0 ≤ place ∧ place < (cc rel.toNat).1 1)) ∧ 0 ≤ row ∧ row < (((rfC gh AR I AI (gh 35 0) rel.toNat).1 : Nat) : Int)) ∧ z = (((rfC gh AR I AI (gh 35 0) rel.toNat)).2 (6 * row.toNat + place.toNat)).toInt))) (fun w : gS => I = w.1 ∧ R = w.2.1 ∧ J = w.2.2.1 ∧ AI = w.2.2.2.1 ∧ AJ = w.2.2.2.2.1 ∧ AR = w.2.2.2.2.2 ∧ (¬ ((0 ≤ rel ∧ rel < (nr : Int)) ∧ (place = 4 ∨ (0 ≤ place ∧ place < (cc rel.toNat).1 1)) ∧ 0 ≤ row ∧ row < (((rfC gh AR I AI (gh 35 0) rel.toNat).1 : Nat) : Int)))) := by
  refine gStartX (cc := cX6_movedAt) (maxL := 4) (ret := (some (.int))) (by decide) rfl (Nat.le_of_ble_eq_true rfl) ?_
  intro p e s m below meth c ls F hr hlk hH hz hS hxt hTh hl
  have hl : lv_has ls 4 [(0, .ref x), (1, .int (iI rel)), (2, .int (iI row)), (3, .int (iI place))] := hl
  have hS : va_S (gA g) s.heap s.heap [] := hS
  obtain ⟨H, hHe⟩ : ∃ H : Heap, H = s.heap := ⟨_, rfl⟩
  obtain ⟨locs, hlo⟩ : ∃ k : List Loc, k = [] := ⟨_, rfl⟩
  have hH : gH g I R J AI AJ AR H := by rw [hHe]; exact hH
  have hS : va_S (gA g) s.heap H locs := by rw [hHe, hlo]; exact hS
  suffices hw : W p l e rmX6_movedAtf s m ([.ref x, .int (iI rel), .int (iI row), .int (iI place)] : List Value).toArray below meth c H locs 0 0 (vx_MQ below (gQi g (fun (z : Int) (w : gS) => I = w.1 ∧ R = w.2.1 ∧ J = w.2.2.1 ∧ AI = w.2.2.2.1 ∧ AJ = w.2.2.2.2.1 ∧ AR = w.2.2.2.2.2 ∧ (((0 ≤ rel ∧ rel < (nr : Int)) ∧ (place = 4 ∨ (0 ≤ place ∧ place < (cc rel.toNat).1 1)) ∧ 0 ≤ row ∧ row < (((rfC gh AR I AI (gh 35 0) rel.toNat).1 : Nat) : Int)) ∧ z = (((rfC gh AR I AI (gh 35 0) rel.toNat)).2 (6 * row.toNat + place.toNat)).toInt))) (vx_X (fun w : gS => I = w.1 ∧ R = w.2.1 ∧ J = w.2.2.1 ∧ AI = w.2.2.2.1 ∧ AJ = w.2.2.2.2.1 ∧ AR = w.2.2.2.2.2 ∧ (¬ ((0 ≤ rel ∧ rel < (nr : Int)) ∧ (place = 4 ∨ (0 ≤ place ∧ place < (cc rel.toNat).1 1)) ∧ 0 ≤ row ∧ row < (((rfC gh AR I AI (gh 35 0) rel.toNat).1 : Nat) : Int)))) (gBX g) (gA g)) ([.ref x, .int (iI rel), .int (iI row), .int (iI place)] : List Value).toArray s 1 6 (gA g)) (F0 m 0 ls []) by
    rw [hHe, hlo] at hw; exact hw
  clear hHe hlo
  have iX6 : ∀ w ∈ u_ws RX6 TX6 18, w ∈ tsX6_movedAt := fun w h => List.mem_cons_of_mem _ (inTB6 w h)
  have iX2 : ∀ w ∈ u_ws RX2 TX2 3, w ∈ tsX6_movedAt := fun w h => List.mem_cons_of_mem _ (inTB2 w h)
  have iX0 : ∀ w ∈ u_ws RX0 TX0 15, w ∈ tsX6_movedAt := fun w h => List.mem_cons_of_mem _ (inTB0 w h)
  have k45 : Cond.fieldLink RX6 45 (TX6 7).1 (TX6 7).2.1 (TX6 7).2.2.1 ∈ tsX6_movedAt := List.mem_cons_of_mem _ (TBm (tk1 (List.mem_of_getElem? (i := 237) rfl)) rfl)
  have k23 : Cond.fieldLink RX6 23 (TX6 3).1 (TX6 3).2.1 (TX6 3).2.2.1 ∈ tsX6_movedAt := List.mem_cons_of_mem _ (TBm (tk1 (List.mem_of_getElem? (i := 233) rfl)) rfl)
  have k113 : Cond.fieldLink RX6 113 (TX2 0).1 (TX2 0).2.1 (TX2 0).2.2.1 ∈ tsX6_movedAt := List.mem_cons_of_mem _ (TBm (tk1 (List.mem_of_getElem? (i := 156) rfl)) rfl)
  have k125 : Cond.fieldLink RX6 125 (TX0 2).1 (TX0 2).2.1 (TX0 2).2.2.1 ∈ tsX6_movedAt := List.mem_cons_of_mem _ (TBm (tk1 (List.mem_of_getElem? (i := 86) rfl)) rfl)
  refine lv_aload_n F.1 F.2.1 dX6_movedAt_0 rfl (lv_at hl 0 rfl) ?_
  refine lv_iload_n F.1 F.2.1 dX6_movedAt_1 rfl (lv_at hl 1 rfl) ?_
  have b_1 := gI_x hv hx.1
  refine g_calli (g_runV (As := [.int (iI rel)]) (rest := []) (ci := 6) F hl.1 hH hS hz (c_X6_isRelationf l g gh pA bA nA I R J AI AJ AR x rel zrel hv hx) (cwV 1 F.2.2.2.2.1 (good_up gTB_X6_movedAt_X6_isRelation) rfl rfl rfl hdX6_isRelation ⟨Nat.le_of_ble_eq_true rfl, Nat.le_of_ble_eq_true rfl⟩) hx.1 (by decide) rfl rfl rfl (Nat.le_of_ble_eq_true rfl) dX6_movedAt_2 ⟨Nat.zero_le _, Nat.zero_le _⟩) hS (fun v_8 I_2 R_3 J_4 AI_5 AJ_6 AR_7 H locs zv_8 hp_9 hH hS => ?_)
  dsimp only at hp_9
  obtain ⟨rfl, rfl, rfl, rfl, rfl, rfl, q_10, qir⟩ := hp_9
  refine z_if_ne (tgt := 18) F dX6_movedAt_5 (by decide) zv_8 (fun c_11 => ?_) (fun c_11 => ?_)
  · refine lv_aload_n F.1 F.2.1 dX6_movedAt_18 rfl (lv_at hl 0 rfl) ?_
    obtain ⟨r_12a, r_12b⟩ := gR_x7 hv hx.1
    refine g_getR (ci := 6) (k := 7) F hH rfl (by decide) iX6 hx.1 (by decide) rfl (b := gh 35 0) r_12a k45 dX6_movedAt_19 ?_
    refine lv_iload_n F.1 F.2.1 dX6_movedAt_22 rfl (lv_at hl 1 rfl) ?_
    have hx23 : 0 ≤ rel ∧ rel < ((16 : Nat) : Int) ∧ rel ≤ 2147483647 := ⟨by omega, by omega, by omega⟩
    obtain ⟨y_13, y_13a, y_13b, y_13c, y_13d, y_13e⟩ := r_12b.2 (rel).toNat (by omega)
    refine g_aldR F hH r_12b.1 hx23.1 hx23.2.1 hx23.2.2 (b := y_13) y_13a dX6_movedAt_23 ?_
    have hsz : (I y_13 3).toInt = ((((rfC gh AR I AI (gh 35 0) rel.toNat)).1 : Nat) : Int) := by unfold rfC; rw [rob_e y_13a]; have q9 := (gI_rows hv y_13b).2.2.1; omega
    have h49 : gh 2 y_13 = 4 := y_13d
    have e2 : ((rfC gh AR I AI (gh 35 0) rel.toNat)).2 = AI (gh 0 y_13) := by unfold rfC; rw [rob_e y_13a]
    refine lv_aload_n F.1 F.2.1 dX6_movedAt_24 rfl (lv_at hl 0 rfl) ?_
    refine g_getR (ci := 6) (k := 3) F hH rfl (by decide) iX6 hx.1 (by decide) rfl (b := pA) hx.2.1 k23 dX6_movedAt_25 ?_
    obtain ⟨r_14a, r_14b⟩ := gR_lines hv hx.2.2.1
    refine g_getR (ci := 2) (k := 0) F hH rfl (by decide) iX2 hx.2.2.1 (by decide) rfl (b := gh 6 pA) r_14a k113 dX6_movedAt_28 ?_
    refine lv_iload_n F.1 F.2.1 dX6_movedAt_31 rfl (lv_at hl 1 rfl) ?_
    have hx32 : 0 ≤ rel ∧ rel < ((16 : Nat) : Int) ∧ rel ≤ 2147483647 := ⟨by omega, by omega, by omega⟩
    obtain ⟨y_15, y_15a, y_15b, y_15c, y_15d⟩ := gA_lines hv hx.2.2.1 (z := rel) (by omega) (by omega)
    refine g_aldL F hH r_14b hx32.1 hx32.2.1 hx32.2.2 (b := y_15) y_15a dX6_movedAt_32 ?_
    have hl9 := (hln rel.toNat (by omega)).1
    rw [rob_e y_15a] at hl9
    refine g_getI (ci := 0) (k := 2) F hH rfl (by decide) iX0 y_15b (by decide) rfl k125 dX6_movedAt_33 ?_
    have b_16 := gI_line hv y_15b
    unfold vLineI at b_16
    have hc4 : (I y_15 2).toInt ≤ 4 := by have q := (hv.2.2.1 y_15 y_15b).2.2.2; rw [y_15c] at q; exact q (by omega)
    refine lv_iload_n F.1 F.2.1 dX6_movedAt_36 rfl (lv_at hl 2 rfl) ?_
    refine lv_iload_n F.1 F.2.1 dX6_movedAt_37 rfl (lv_at hl 3 rfl) ?_
    refine g_calliX (g_runSX (As := [.ref y_13, .int (iI ((I y_15 2).toInt)), .int (iI row), .int (iI place)]) (rest := []) F hTh hl.1 hH hS hz (c_X6_tupleCellf l g gh ((rfC gh AR I AI (gh 35 0) rel.toNat).1) I R J AI AJ AR y_13 ((I y_15 2).toInt) row place (zr_t _) zrow zplace hv y_13b (by omega) hsz h49 hst) (va_cwS 4 F.2.2.2.2.1 (good_up gTB_X6_movedAt_X6_tupleCell) rfl rfl rfl hdX6_tupleCell.2 ⟨Nat.le_of_ble_eq_true rfl, Nat.le_of_ble_eq_true rfl⟩) rfl rfl (Nat.le_of_ble_eq_true rfl) dX6_movedAt_38 ⟨Nat.le_refl _, Nat.le_refl _⟩) hS (fun ce9 q9 I2 R2 J2 AI2 AJ2 AR2 H locs hp hH hS h1 h2 h3 => ?_) (fun z I2 R2 J2 AI2 AJ2 AR2 H locs zz hp hH hS => ?_)
    · dsimp only at hp
      obtain ⟨rfl, rfl, rfl, rfl, rfl, rfl, qtx⟩ := hp
      exact g_outX F hH hS hz hxt hlk h1 h2 h3 ⟨rfl, rfl, rfl, rfl, rfl, rfl, (fun h9 => qtx ⟨h9.2.2, by have h8 := h9.2.1; omega⟩)⟩ (by decide) (by decide)
    dsimp only at hp
    obtain ⟨rfl, rfl, rfl, rfl, rfl, rfl, qtc⟩ := hp
    exact g_iretX F hr hlk hH hS hz zz ⟨rfl, rfl, rfl, rfl, rfl, rfl, ⟨⟨by omega, by have h9 := qtc.1.2; omega, qtc.1.1⟩, by (try dsimp only); rw [e2]; exact qtc.2⟩⟩ (by decide) (by decide) dX6_movedAt_41
  · exact g_throw F hTh hst hH hS hz hxt hlk hl.1 (i := 4) rfl (fun w h => List.mem_cons_of_mem _ h) dX6_movedAt_8 dX6_movedAt_11 dX6_movedAt_12 dX6_movedAt_14 dX6_movedAt_17 (Nat.le_of_ble_eq_true rfl) (Nat.le_of_ble_eq_true rfl) (Nat.le_refl _) (Nat.le_refl _) ⟨rfl, rfl, rfl, rfl, rfl, rfl, (fun h9 => by have h8 := h9.1; have h7 := qir (by omega); omega)⟩
