section
def rmX6_tupleCellf : Room := { frames := 6, cells := 1, slots := 6, locals := 82 }
set_option maxHeartbeats 4000000 in
set_option maxRecDepth 100000 in
/-- a cell of a tuple -/
theorem c_X6_tupleCellf (l : Launch) (g : gG) (gh : gGh) (n : Nat) (I : gI) (R : gR) (J : gJ) (AI : gI) (AJ : gJ) (AR : gR) (a : Nat) (cl : Int) (row : Int) (place : Int) (zcl : zr cl) (zrow : zr row) (zplace : zr place) (hv : gInv g gh R AR I AI) (ha : gO g a 4) (hcl : cl ≤ 6) (hn9 : (I a 3).toInt = (n : Int)) (h49 : gh 2 a = 4) (hst : l.stackTraces = false) : gMetX l g yX6_tupleCell tsX6_tupleCell rmX6_tupleCellf [.ref a, .int (iI cl), .int (iI row), .int (iI place)] (I, R, J, AI, AJ, AR) (gQi g (fun (z : Int) (w : gS) => I = w.1 ∧ R = w.2.1 ∧ J = w.2.2.1 ∧ AI = w.2.2.2.1 ∧ AJ = w.2.2.2.2.1 ∧ AR = w.2.2.2.2.2 ∧ (((0 ≤ row ∧ row < (n : Int)) ∧ (place = 4 ∨ (0 ≤ place ∧ place < cl))) ∧ z = (AI (gh 0 a) (6 * row.toNat + place.toNat)).toInt))) (fun w : gS => I = w.1 ∧ R = w.2.1 ∧ J = w.2.2.1 ∧ AI = w.2.2.2.1 ∧ AJ = w.2.2.2.2.1 ∧ AR = w.2.2.2.2.2 ∧ (¬ ((0 ≤ row ∧ row < (n : Int)) ∧ (place = 4 ∨ (0 ≤ place ∧ place < cl))))) := by
  refine gStartX (cc := cX6_tupleCell) (maxL := 4) (ret := (some (.int))) (by decide) rfl (Nat.le_of_ble_eq_true rfl) ?_
  intro p e s m below meth c ls F hr hlk hH hz hS hxt hTh hl
  have hl : lv_has ls 4 [(0, .ref a), (1, .int (iI cl)), (2, .int (iI row)), (3, .int (iI place))] := hl
  have hS : va_S (gA g) s.heap s.heap [] := hS
  obtain ⟨H, hHe⟩ : ∃ H : Heap, H = s.heap := ⟨_, rfl⟩
  obtain ⟨locs, hlo⟩ : ∃ k : List Loc, k = [] := ⟨_, rfl⟩
  have hH : gH g I R J AI AJ AR H := by rw [hHe]; exact hH
  have hS : va_S (gA g) s.heap H locs := by rw [hHe, hlo]; exact hS
  suffices hw : W p l e rmX6_tupleCellf s m ([.ref a, .int (iI cl), .int (iI row), .int (iI place)] : List Value).toArray below meth c H locs 0 0 (vx_MQ below (gQi g (fun (z : Int) (w : gS) => I = w.1 ∧ R = w.2.1 ∧ J = w.2.2.1 ∧ AI = w.2.2.2.1 ∧ AJ = w.2.2.2.2.1 ∧ AR = w.2.2.2.2.2 ∧ (((0 ≤ row ∧ row < (n : Int)) ∧ (place = 4 ∨ (0 ≤ place ∧ place < cl))) ∧ z = (AI (gh 0 a) (6 * row.toNat + place.toNat)).toInt))) (vx_X (fun w : gS => I = w.1 ∧ R = w.2.1 ∧ J = w.2.2.1 ∧ AI = w.2.2.2.1 ∧ AJ = w.2.2.2.2.1 ∧ AR = w.2.2.2.2.2 ∧ (¬ ((0 ≤ row ∧ row < (n : Int)) ∧ (place = 4 ∨ (0 ≤ place ∧ place < cl))))) (gBX g) (gA g)) ([.ref a, .int (iI cl), .int (iI row), .int (iI place)] : List Value).toArray s 1 6 (gA g)) (F0 m 0 ls []) by
    rw [hHe, hlo] at hw; exact hw
  clear hHe hlo
  have hrl := gI_rows hv ha
  have iX4 : ∀ w ∈ u_ws RX4 TX4 4, w ∈ tsX6_tupleCell := fun w h => List.mem_cons_of_mem _ (inTB4 w h)
  have k99 : Cond.fieldLink RX6 99 (TX4 3).1 (TX4 3).2.1 (TX4 3).2.2.1 ∈ tsX6_tupleCell := List.mem_cons_of_mem _ (TBm (tk1 (List.mem_of_getElem? (i := 217) rfl)) rfl)
  refine lv_iload_n F.1 F.2.1 dX6_tupleCell_0 rfl (lv_at hl 2 rfl) ?_
  refine z_if_lt (tgt := 12) F dX6_tupleCell_1 (by decide) zrow (fun c_1 => ?_) (fun c_1 => ?_)
  · exact g_throw F hTh hst hH hS hz hxt hlk hl.1 (i := 5) rfl (fun w h => List.mem_cons_of_mem _ h) dX6_tupleCell_12 dX6_tupleCell_15 dX6_tupleCell_16 dX6_tupleCell_18 dX6_tupleCell_21 (Nat.le_of_ble_eq_true rfl) (Nat.le_of_ble_eq_true rfl) (Nat.le_refl _) (Nat.le_refl _) ⟨rfl, rfl, rfl, rfl, rfl, rfl, by rintro ⟨h8, h7⟩; omega⟩
  · refine lv_iload_n F.1 F.2.1 dX6_tupleCell_4 rfl (lv_at hl 2 rfl) ?_
    refine lv_aload_n F.1 F.2.1 dX6_tupleCell_5 rfl (lv_at hl 0 rfl) ?_
    refine g_getI (ci := 4) (k := 3) F hH rfl (by decide) iX4 ha (by decide) rfl k99 dX6_tupleCell_6 ?_
    obtain ⟨b_2a, b_2b, b_2c, b_2d, b_2e, b_2f, b_2g, b_2h⟩ := gI_rows hv ha
    refine z_icmp_lt (tgt := 22) F dX6_tupleCell_9 (by decide) zrow (zr_t _) (fun c_3 => ?_) (fun c_3 => ?_)
    · refine lv_iload_n F.1 F.2.1 dX6_tupleCell_22 rfl (lv_at hl 3 rfl) ?_
      refine z_iconst F dX6_tupleCell_23 ?_
      refine z_icmp_ne (tgt := 33) F dX6_tupleCell_24 (by decide) zplace ⟨by decide, by decide⟩ (fun c_4 => ?_) (fun c_4 => ?_)
      · refine lv_iload_n F.1 F.2.1 dX6_tupleCell_33 rfl (lv_at hl 3 rfl) ?_
        refine z_if_lt (tgt := 42) F dX6_tupleCell_34 (by decide) zplace (fun c_5 => ?_) (fun c_5 => ?_)
        · exact g_throw F hTh hst hH hS hz hxt hlk hl.1 (i := 3) rfl (fun w h => List.mem_cons_of_mem _ h) dX6_tupleCell_42 dX6_tupleCell_45 dX6_tupleCell_46 dX6_tupleCell_48 dX6_tupleCell_51 (Nat.le_of_ble_eq_true rfl) (Nat.le_of_ble_eq_true rfl) (Nat.le_refl _) (Nat.le_refl _) ⟨rfl, rfl, rfl, rfl, rfl, rfl, by rintro ⟨h8, h7⟩; omega⟩
        · refine lv_iload_n F.1 F.2.1 dX6_tupleCell_37 rfl (lv_at hl 3 rfl) ?_
          refine lv_iload_n F.1 F.2.1 dX6_tupleCell_38 rfl (lv_at hl 1 rfl) ?_
          refine z_icmp_lt (tgt := 52) F dX6_tupleCell_39 (by decide) zplace zcl (fun c_6 => ?_) (fun c_6 => ?_)
          · refine lv_aload_n F.1 F.2.1 dX6_tupleCell_52 rfl (lv_at hl 0 rfl) ?_
            refine lv_iload_n F.1 F.2.1 dX6_tupleCell_53 rfl (lv_at hl 2 rfl) ?_
            refine lv_iload_n F.1 F.2.1 dX6_tupleCell_54 rfl (lv_at hl 3 rfl) ?_
            refine g_calli (g_runV (As := [.int (iI row), .int (iI place)]) (rest := []) (ci := 4) F hl.1 hH hS hz (c_X4_cell l g gh I R J AI AJ AR a row place zrow zplace hv ha (by omega) (by omega) (by omega) (by omega)) (cwV 2 F.2.2.2.2.1 (good_up gTB_X6_tupleCell_X4_cell) rfl rfl rfl hdX4_cell ⟨Nat.le_of_ble_eq_true rfl, Nat.le_of_ble_eq_true rfl⟩) ha (by decide) rfl rfl rfl (Nat.le_of_ble_eq_true rfl) dX6_tupleCell_55 ⟨Nat.zero_le _, Nat.zero_le _⟩) hS (fun v_13 I_7 R_8 J_9 AI_10 AJ_11 AR_12 H locs zv_13 hp_14 hH hS => ?_)
            dsimp only at hp_14
            obtain ⟨rfl, rfl, rfl, rfl, rfl, rfl, qce⟩ := hp_14
            exact g_iretX F hr hlk hH hS hz zv_13 ⟨rfl, rfl, rfl, rfl, rfl, rfl, ⟨by omega, by (try dsimp only); first | (rw [qam]; congr 2; omega) | (rw [qce]; congr 2; omega)⟩⟩ (by decide) (by decide) dX6_tupleCell_58
          · exact g_throw F hTh hst hH hS hz hxt hlk hl.1 (i := 3) rfl (fun w h => List.mem_cons_of_mem _ h) dX6_tupleCell_42 dX6_tupleCell_45 dX6_tupleCell_46 dX6_tupleCell_48 dX6_tupleCell_51 (Nat.le_of_ble_eq_true rfl) (Nat.le_of_ble_eq_true rfl) (Nat.le_refl _) (Nat.le_refl _) ⟨rfl, rfl, rfl, rfl, rfl, rfl, by rintro ⟨h8, h7⟩; omega⟩
      · refine lv_aload_n F.1 F.2.1 dX6_tupleCell_27 rfl (lv_at hl 0 rfl) ?_
        refine lv_iload_n F.1 F.2.1 dX6_tupleCell_28 rfl (lv_at hl 2 rfl) ?_
        refine g_calli (g_runV (As := [.int (iI row)]) (rest := []) (ci := 4) F hl.1 hH hS hz (c_X4_amount l g gh I R J AI AJ AR a row zrow hv ha (by omega) (by omega)) (cwV 1 F.2.2.2.2.1 (good_up gTB_X6_tupleCell_X4_amount) rfl rfl rfl hdX4_amount ⟨Nat.le_of_ble_eq_true rfl, Nat.le_of_ble_eq_true rfl⟩) ha (by decide) rfl rfl rfl (Nat.le_of_ble_eq_true rfl) dX6_tupleCell_29 ⟨Nat.zero_le _, Nat.zero_le _⟩) hS (fun v_21 I_15 R_16 J_17 AI_18 AJ_19 AR_20 H locs zv_21 hp_22 hH hS => ?_)
        dsimp only at hp_22
        obtain ⟨rfl, rfl, rfl, rfl, rfl, rfl, qam⟩ := hp_22
        exact g_iretX F hr hlk hH hS hz zv_21 ⟨rfl, rfl, rfl, rfl, rfl, rfl, ⟨by omega, by (try dsimp only); first | (rw [qam]; congr 2; omega) | (rw [qce]; congr 2; omega)⟩⟩ (by decide) (by decide) dX6_tupleCell_32
    · exact g_throw F hTh hst hH hS hz hxt hlk hl.1 (i := 5) rfl (fun w h => List.mem_cons_of_mem _ h) dX6_tupleCell_12 dX6_tupleCell_15 dX6_tupleCell_16 dX6_tupleCell_18 dX6_tupleCell_21 (Nat.le_of_ble_eq_true rfl) (Nat.le_of_ble_eq_true rfl) (Nat.le_refl _) (Nat.le_refl _) ⟨rfl, rfl, rfl, rfl, rfl, rfl, by rintro ⟨h8, h7⟩; omega⟩

def rmX6_atf : Room := { frames := 7, cells := 1, slots := 6, locals := 105 }
set_option maxHeartbeats 4000000 in
set_option maxRecDepth 100000 in
/-- at -/
theorem c_X6_atf (l : Launch) (g : gG) (gh : gGh) (pA bA nA : Nat) (nr : Nat) (cc : Nat → LC) (I : gI) (R : gR) (J : gJ) (AI : gI) (AJ : gJ) (AR : gR) (x : Nat) (rel : Int) (row : Int) (place : Int) (zrel : zr rel) (zrow : zr row) (zplace : zr place) (hv : gInv g gh R AR I AI) (hx : xS g gh R AR x pA bA nA) (hlen : (I pA 1).toInt = (nr : Int)) (hln : ∀ r, r < nr → lnC (I (rob AR (gh 6 pA) r)) (AI (gh 3 (rob AR (gh 6 pA) r))) (cc r)) (hst : l.stackTraces = false) : gMetX l g yX6_at tsX6_at rmX6_atf [.ref x, .int (iI rel), .int (iI row), .int (iI place)] (I, R, J, AI, AJ, AR) (gQi g (fun (z : Int) (w : gS) => I = w.1 ∧ R = w.2.1 ∧ J = w.2.2.1 ∧ AI = w.2.2.2.1 ∧ AJ = w.2.2.2.2.1 ∧ AR = w.2.2.2.2.2 ∧ (((0 ≤ rel ∧ rel < (nr : Int)) ∧ (place = 4 ∨ (0 ≤ place ∧ place < (cc rel.toNat).1 1)) ∧ 0 ≤ row ∧ row < (((rfC gh AR I AI bA rel.toNat).1 : Nat) : Int)) ∧ z = (((rfC gh AR I AI bA rel.toNat)).2 (6 * row.toNat + place.toNat)).toInt))) (fun w : gS => I = w.1 ∧ R = w.2.1 ∧ J = w.2.2.1 ∧ AI = w.2.2.2.1 ∧ AJ = w.2.2.2.2.1 ∧ AR = w.2.2.2.2.2 ∧ (¬ ((0 ≤ rel ∧ rel < (nr : Int)) ∧ (place = 4 ∨ (0 ≤ place ∧ place < (cc rel.toNat).1 1)) ∧ 0 ≤ row ∧ row < (((rfC gh AR I AI bA rel.toNat).1 : Nat) : Int)))) := by
  refine gStartX (cc := cX6_at) (maxL := 4) (ret := (some (.int))) (by decide) rfl (Nat.le_of_ble_eq_true rfl) ?_
  intro p e s m below meth c ls F hr hlk hH hz hS hxt hTh hl
  have hl : lv_has ls 4 [(0, .ref x), (1, .int (iI rel)), (2, .int (iI row)), (3, .int (iI place))] := hl
  have hS : va_S (gA g) s.heap s.heap [] := hS
  obtain ⟨H, hHe⟩ : ∃ H : Heap, H = s.heap := ⟨_, rfl⟩
  obtain ⟨locs, hlo⟩ : ∃ k : List Loc, k = [] := ⟨_, rfl⟩
  have hH : gH g I R J AI AJ AR H := by rw [hHe]; exact hH
  have hS : va_S (gA g) s.heap H locs := by rw [hHe, hlo]; exact hS
  suffices hw : W p l e rmX6_atf s m ([.ref x, .int (iI rel), .int (iI row), .int (iI place)] : List Value).toArray below meth c H locs 0 0 (vx_MQ below (gQi g (fun (z : Int) (w : gS) => I = w.1 ∧ R = w.2.1 ∧ J = w.2.2.1 ∧ AI = w.2.2.2.1 ∧ AJ = w.2.2.2.2.1 ∧ AR = w.2.2.2.2.2 ∧ (((0 ≤ rel ∧ rel < (nr : Int)) ∧ (place = 4 ∨ (0 ≤ place ∧ place < (cc rel.toNat).1 1)) ∧ 0 ≤ row ∧ row < (((rfC gh AR I AI bA rel.toNat).1 : Nat) : Int)) ∧ z = (((rfC gh AR I AI bA rel.toNat)).2 (6 * row.toNat + place.toNat)).toInt))) (vx_X (fun w : gS => I = w.1 ∧ R = w.2.1 ∧ J = w.2.2.1 ∧ AI = w.2.2.2.1 ∧ AJ = w.2.2.2.2.1 ∧ AR = w.2.2.2.2.2 ∧ (¬ ((0 ≤ rel ∧ rel < (nr : Int)) ∧ (place = 4 ∨ (0 ≤ place ∧ place < (cc rel.toNat).1 1)) ∧ 0 ≤ row ∧ row < (((rfC gh AR I AI bA rel.toNat).1 : Nat) : Int)))) (gBX g) (gA g)) ([.ref x, .int (iI rel), .int (iI row), .int (iI place)] : List Value).toArray s 1 6 (gA g)) (F0 m 0 ls []) by
    rw [hHe, hlo] at hw; exact hw
  clear hHe hlo
  have iX6 : ∀ w ∈ u_ws RX6 TX6 18, w ∈ tsX6_at := fun w h => List.mem_cons_of_mem _ (inTB6 w h)
  have iX2 : ∀ w ∈ u_ws RX2 TX2 3, w ∈ tsX6_at := fun w h => List.mem_cons_of_mem _ (inTB2 w h)
  have iX0 : ∀ w ∈ u_ws RX0 TX0 15, w ∈ tsX6_at := fun w h => List.mem_cons_of_mem _ (inTB0 w h)
  have k38 : Cond.fieldLink RX6 38 (TX6 5).1 (TX6 5).2.1 (TX6 5).2.2.1 ∈ tsX6_at := List.mem_cons_of_mem _ (TBm (tk1 (List.mem_of_getElem? (i := 235) rfl)) rfl)
  have k23 : Cond.fieldLink RX6 23 (TX6 3).1 (TX6 3).2.1 (TX6 3).2.2.1 ∈ tsX6_at := List.mem_cons_of_mem _ (TBm (tk1 (List.mem_of_getElem? (i := 233) rfl)) rfl)
  have k113 : Cond.fieldLink RX6 113 (TX2 0).1 (TX2 0).2.1 (TX2 0).2.2.1 ∈ tsX6_at := List.mem_cons_of_mem _ (TBm (tk1 (List.mem_of_getElem? (i := 156) rfl)) rfl)
  have k125 : Cond.fieldLink RX6 125 (TX0 2).1 (TX0 2).2.1 (TX0 2).2.2.1 ∈ tsX6_at := List.mem_cons_of_mem _ (TBm (tk1 (List.mem_of_getElem? (i := 86) rfl)) rfl)
  refine lv_aload_n F.1 F.2.1 dX6_at_0 rfl (lv_at hl 0 rfl) ?_
  refine lv_iload_n F.1 F.2.1 dX6_at_1 rfl (lv_at hl 1 rfl) ?_
  have b_1 := gI_x hv hx.1
  refine g_calli (g_runV (As := [.int (iI rel)]) (rest := []) (ci := 6) F hl.1 hH hS hz (c_X6_isRelationf l g gh pA bA nA I R J AI AJ AR x rel zrel hv hx) (cwV 1 F.2.2.2.2.1 (good_up gTB_X6_at_X6_isRelation) rfl rfl rfl hdX6_isRelation ⟨Nat.le_of_ble_eq_true rfl, Nat.le_of_ble_eq_true rfl⟩) hx.1 (by decide) rfl rfl rfl (Nat.le_of_ble_eq_true rfl) dX6_at_2 ⟨Nat.zero_le _, Nat.zero_le _⟩) hS (fun v_8 I_2 R_3 J_4 AI_5 AJ_6 AR_7 H locs zv_8 hp_9 hH hS => ?_)
  dsimp only at hp_9
  obtain ⟨rfl, rfl, rfl, rfl, rfl, rfl, q_10, qir⟩ := hp_9
  refine z_if_ne (tgt := 18) F dX6_at_5 (by decide) zv_8 (fun c_11 => ?_) (fun c_11 => ?_)
  · refine lv_aload_n F.1 F.2.1 dX6_at_18 rfl (lv_at hl 0 rfl) ?_
    refine g_getR (ci := 6) (k := 5) F hH rfl (by decide) iX6 hx.1 (by decide) rfl (b := bA) hx.2.2.2.1 k38 dX6_at_19 ?_
    refine lv_iload_n F.1 F.2.1 dX6_at_22 rfl (lv_at hl 1 rfl) ?_
    have hx23 : 0 ≤ rel ∧ rel < ((16 : Nat) : Int) ∧ rel ≤ 2147483647 := ⟨by omega, by omega, by omega⟩
    obtain ⟨y_12, y_12a, y_12b, y_12c, y_12d, y_12e⟩ := hx.2.2.2.2.1.2 (rel).toNat (by omega)
    refine g_aldR F hH hx.2.2.2.2.1.1 hx23.1 hx23.2.1 hx23.2.2 (b := y_12) y_12a dX6_at_23 ?_
    have hsz : (I y_12 3).toInt = ((((rfC gh AR I AI bA rel.toNat)).1 : Nat) : Int) := by unfold rfC; rw [rob_e y_12a]; have q9 := (gI_rows hv y_12b).2.2.1; omega
    have h49 : gh 2 y_12 = 4 := y_12d
    have e2 : ((rfC gh AR I AI bA rel.toNat)).2 = AI (gh 0 y_12) := by unfold rfC; rw [rob_e y_12a]
    refine lv_aload_n F.1 F.2.1 dX6_at_24 rfl (lv_at hl 0 rfl) ?_
    refine g_getR (ci := 6) (k := 3) F hH rfl (by decide) iX6 hx.1 (by decide) rfl (b := pA) hx.2.1 k23 dX6_at_25 ?_
    obtain ⟨r_13a, r_13b⟩ := gR_lines hv hx.2.2.1
    refine g_getR (ci := 2) (k := 0) F hH rfl (by decide) iX2 hx.2.2.1 (by decide) rfl (b := gh 6 pA) r_13a k113 dX6_at_28 ?_
    refine lv_iload_n F.1 F.2.1 dX6_at_31 rfl (lv_at hl 1 rfl) ?_
    have hx32 : 0 ≤ rel ∧ rel < ((16 : Nat) : Int) ∧ rel ≤ 2147483647 := ⟨by omega, by omega, by omega⟩
    obtain ⟨y_14, y_14a, y_14b, y_14c, y_14d⟩ := gA_lines hv hx.2.2.1 (z := rel) (by omega) (by omega)
    refine g_aldL F hH r_13b hx32.1 hx32.2.1 hx32.2.2 (b := y_14) y_14a dX6_at_32 ?_
    have hl9 := (hln rel.toNat (by omega)).1
    rw [rob_e y_14a] at hl9
    refine g_getI (ci := 0) (k := 2) F hH rfl (by decide) iX0 y_14b (by decide) rfl k125 dX6_at_33 ?_
    have b_15 := gI_line hv y_14b
    unfold vLineI at b_15
    have hc4 : (I y_14 2).toInt ≤ 4 := by have q := (hv.2.2.1 y_14 y_14b).2.2.2; rw [y_14c] at q; exact q (by omega)
    refine lv_iload_n F.1 F.2.1 dX6_at_36 rfl (lv_at hl 2 rfl) ?_
    refine lv_iload_n F.1 F.2.1 dX6_at_37 rfl (lv_at hl 3 rfl) ?_
    refine g_calliX (g_runSX (As := [.ref y_12, .int (iI ((I y_14 2).toInt)), .int (iI row), .int (iI place)]) (rest := []) F hTh hl.1 hH hS hz (c_X6_tupleCellf l g gh ((rfC gh AR I AI bA rel.toNat).1) I R J AI AJ AR y_12 ((I y_14 2).toInt) row place (zr_t _) zrow zplace hv y_12b (by omega) hsz h49 hst) (va_cwS 4 F.2.2.2.2.1 (good_up gTB_X6_at_X6_tupleCell) rfl rfl rfl hdX6_tupleCell.2 ⟨Nat.le_of_ble_eq_true rfl, Nat.le_of_ble_eq_true rfl⟩) rfl rfl (Nat.le_of_ble_eq_true rfl) dX6_at_38 ⟨Nat.le_refl _, Nat.le_refl _⟩) hS (fun ce9 q9 I2 R2 J2 AI2 AJ2 AR2 H locs hp hH hS h1 h2 h3 => ?_) (fun z I2 R2 J2 AI2 AJ2 AR2 H locs zz hp hH hS => ?_)
    · dsimp only at hp
      obtain ⟨rfl, rfl, rfl, rfl, rfl, rfl, qtx⟩ := hp
      exact g_outX F hH hS hz hxt hlk h1 h2 h3 ⟨rfl, rfl, rfl, rfl, rfl, rfl, (fun h9 => qtx ⟨h9.2.2, by have h8 := h9.2.1; omega⟩)⟩ (by decide) (by decide)
    dsimp only at hp
    obtain ⟨rfl, rfl, rfl, rfl, rfl, rfl, qtc⟩ := hp
    exact g_iretX F hr hlk hH hS hz zz ⟨rfl, rfl, rfl, rfl, rfl, rfl, ⟨⟨by omega, by have h9 := qtc.1.2; omega, qtc.1.1⟩, by (try dsimp only); rw [e2]; exact qtc.2⟩⟩ (by decide) (by decide) dX6_at_41
  · exact g_throw F hTh hst hH hS hz hxt hlk hl.1 (i := 4) rfl (fun w h => List.mem_cons_of_mem _ h) dX6_at_8 dX6_at_11 dX6_at_12 dX6_at_14 dX6_at_17 (Nat.le_of_ble_eq_true rfl) (Nat.le_of_ble_eq_true rfl) (Nat.le_refl _) (Nat.le_refl _) ⟨rfl, rfl, rfl, rfl, rfl, rfl, (fun h9 => by have h8 := h9.1; have h7 := qir (by omega); omega)⟩

def rmX6_movedAtf : Room := { frames := 7, cells := 1, slots := 6, locals := 105 }
set_option maxHeartbeats 4000000 in
set_option maxRecDepth 100000 in
/-- movedAt -/
theorem c_X6_movedAtf (l : Launch) (g : gG) (gh : gGh) (pA bA nA : Nat) (nr : Nat) (cc : Nat → LC) (I : gI) (R : gR) (J : gJ) (AI : gI) (AJ : gJ) (AR : gR) (x : Nat) (rel : Int) (row : Int) (place : Int) (zrel : zr rel) (zrow : zr row) (zplace : zr place) (hv : gInv g gh R AR I AI) (hx : xS g gh R AR x pA bA nA) (hlen : (I pA 1).toInt = (nr : Int)) (hln : ∀ r, r < nr → lnC (I (rob AR (gh 6 pA) r)) (AI (gh 3 (rob AR (gh 6 pA) r))) (cc r)) (hst : l.stackTraces = false) : gMetX l g yX6_movedAt tsX6_movedAt rmX6_movedAtf [.ref x, .int (iI rel), .int (iI row), .int (iI place)] (I, R, J, AI, AJ, AR) (gQi g (fun (z : Int) (w : gS) => I = w.1 ∧ R = w.2.1 ∧ J = w.2.2.1 ∧ AI = w.2.2.2.1 ∧ AJ = w.2.2.2.2.1 ∧ AR = w.2.2.2.2.2 ∧ (((0 ≤ rel ∧ rel < (nr : Int)) ∧ (place = 4 ∨ (0 ≤ place ∧ place < (cc rel.toNat).1 1)) ∧ 0 ≤ row ∧ row < (((rfC gh AR I AI (gh 35 0) rel.toNat).1 : Nat) : Int)) ∧ z = (((rfC gh AR I AI (gh 35 0) rel.toNat)).2 (6 * row.toNat + place.toNat)).toInt))) (fun w : gS => I = w.1 ∧ R = w.2.1 ∧ J = w.2.2.1 ∧ AI = w.2.2.2.1 ∧ AJ = w.2.2.2.2.1 ∧ AR = w.2.2.2.2.2 ∧ (¬ ((0 ≤ rel ∧ rel < (nr : Int)) ∧ (place = 4 ∨ (0 ≤ place ∧ place < (cc rel.toNat).1 1)) ∧ 0 ≤ row ∧ row < (((rfC gh AR I AI (gh 35 0) rel.toNat).1 : Nat) : Int)))) := by
  refine gStartX (cc := cX6_movedAt) (maxL := 4) (ret := (some (.int))) (by decide) rfl (Nat.le_of_ble_eq_true rfl) ?_
  intro p e s m below meth c ls F hr hlk hH hz hS hxt hTh hl
  have hl : lv_has ls 4 [(0, .ref x), (1, .int (iI rel)), (2, .int (iI row)), (3, .int (iI place))] := hl
  have hS : va_S (gA g) s.heap s.heap [] := hS
  obtain ⟨H, hHe⟩ : ∃ H : Heap, H = s.heap := ⟨_, rfl⟩
  obtain ⟨locs, hlo⟩ : ∃ k : List Loc, k = [] := ⟨_, rfl⟩
  have hH : gH g I R J AI AJ AR H := by rw [hHe]; exact hH
  have hS : va_S (gA g) s.heap H locs := by rw [hHe, hlo]; exact hS
  suffices hw : W p l e rmX6_movedAtf s m ([.ref x, .int (iI rel), .int (iI row), .int (iI place)] : List Value).toArray below meth c H locs 0 0 (vx_MQ below (gQi g (fun (z : Int) (w : gS) => I = w.1 ∧ R = w.2.1 ∧ J = w.2.2.1 ∧ AI = w.2.2.2.1 ∧ AJ = w.2.2.2.2.1 ∧ AR = w.2.2.2.2.2 ∧ (((0 ≤ rel ∧ rel < (nr : Int)) ∧ (place = 4 ∨ (0 ≤ place ∧ place < (cc rel.toNat).1 1)) ∧ 0 ≤ row ∧ row < (((rfC gh AR I AI (gh 35 0) rel.toNat).1 : Nat) : Int)) ∧ z = (((rfC gh AR I AI (gh 35 0) rel.toNat)).2 (6 * row.toNat + place.toNat)).toInt))) (vx_X (fun w : gS => I = w.1 ∧ R = w.2.1 ∧ J = w.2.2.1 ∧ AI = w.2.2.2.1 ∧ AJ = w.2.2.2.2.1 ∧ AR = w.2.2.2.2.2 ∧ (¬ ((0 ≤ rel ∧ rel < (nr : Int)) ∧ (place = 4 ∨ (0 ≤ place ∧ place < (cc rel.toNat).1 1)) ∧ 0 ≤ row ∧ row < (((rfC gh AR I AI (gh 35 0) rel.toNat).1 : Nat) : Int)))) (gBX g) (gA g)) ([.ref x, .int (iI rel), .int (iI row), .int (iI place)] : List Value).toArray s 1 6 (gA g)) (F0 m 0 ls []) by
    rw [hHe, hlo] at hw; exact hw
  clear hHe hlo
  have iX6 : ∀ w ∈ u_ws RX6 TX6 18, w ∈ tsX6_movedAt := fun w h => List.mem_cons_of_mem _ (inTB6 w h)
  have iX2 : ∀ w ∈ u_ws RX2 TX2 3, w ∈ tsX6_movedAt := fun w h => List.mem_cons_of_mem _ (inTB2 w h)
  have iX0 : ∀ w ∈ u_ws RX0 TX0 15, w ∈ tsX6_movedAt := fun w h => List.mem_cons_of_mem _ (inTB0 w h)
  have k45 : Cond.fieldLink RX6 45 (TX6 7).1 (TX6 7).2.1 (TX6 7).2.2.1 ∈ tsX6_movedAt := List.mem_cons_of_mem _ (TBm (tk1 (List.mem_of_getElem? (i := 237) rfl)) rfl)
  have k23 : Cond.fieldLink RX6 23 (TX6 3).1 (TX6 3).2.1 (TX6 3).2.2.1 ∈ tsX6_movedAt := List.mem_cons_of_mem _ (TBm (tk1 (List.mem_of_getElem? (i := 233) rfl)) rfl)
  have k113 : Cond.fieldLink RX6 113 (TX2 0).1 (TX2 0).2.1 (TX2 0).2.2.1 ∈ tsX6_movedAt := List.mem_cons_of_mem _ (TBm (tk1 (List.mem_of_getElem? (i := 156) rfl)) rfl)
  have k125 : Cond.fieldLink RX6 125 (TX0 2).1 (TX0 2).2.1 (TX0 2).2.2.1 ∈ tsX6_movedAt := List.mem_cons_of_mem _ (TBm (tk1 (List.mem_of_getElem? (i := 86) rfl)) rfl)
  refine lv_aload_n F.1 F.2.1 dX6_movedAt_0 rfl (lv_at hl 0 rfl) ?_
  refine lv_iload_n F.1 F.2.1 dX6_movedAt_1 rfl (lv_at hl 1 rfl) ?_
  have b_1 := gI_x hv hx.1
  refine g_calli (g_runV (As := [.int (iI rel)]) (rest := []) (ci := 6) F hl.1 hH hS hz (c_X6_isRelationf l g gh pA bA nA I R J AI AJ AR x rel zrel hv hx) (cwV 1 F.2.2.2.2.1 (good_up gTB_X6_movedAt_X6_isRelation) rfl rfl rfl hdX6_isRelation ⟨Nat.le_of_ble_eq_true rfl, Nat.le_of_ble_eq_true rfl⟩) hx.1 (by decide) rfl rfl rfl (Nat.le_of_ble_eq_true rfl) dX6_movedAt_2 ⟨Nat.zero_le _, Nat.zero_le _⟩) hS (fun v_8 I_2 R_3 J_4 AI_5 AJ_6 AR_7 H locs zv_8 hp_9 hH hS => ?_)
  dsimp only at hp_9
  obtain ⟨rfl, rfl, rfl, rfl, rfl, rfl, q_10, qir⟩ := hp_9
  refine z_if_ne (tgt := 18) F dX6_movedAt_5 (by decide) zv_8 (fun c_11 => ?_) (fun c_11 => ?_)
  · refine lv_aload_n F.1 F.2.1 dX6_movedAt_18 rfl (lv_at hl 0 rfl) ?_
    obtain ⟨r_12a, r_12b⟩ := gR_x7 hv hx.1
    refine g_getR (ci := 6) (k := 7) F hH rfl (by decide) iX6 hx.1 (by decide) rfl (b := gh 35 0) r_12a k45 dX6_movedAt_19 ?_
    refine lv_iload_n F.1 F.2.1 dX6_movedAt_22 rfl (lv_at hl 1 rfl) ?_
    have hx23 : 0 ≤ rel ∧ rel < ((16 : Nat) : Int) ∧ rel ≤ 2147483647 := ⟨by omega, by omega, by omega⟩
    obtain ⟨y_13, y_13a, y_13b, y_13c, y_13d, y_13e⟩ := r_12b.2 (rel).toNat (by omega)
    refine g_aldR F hH r_12b.1 hx23.1 hx23.2.1 hx23.2.2 (b := y_13) y_13a dX6_movedAt_23 ?_
    have hsz : (I y_13 3).toInt = ((((rfC gh AR I AI (gh 35 0) rel.toNat)).1 : Nat) : Int) := by unfold rfC; rw [rob_e y_13a]; have q9 := (gI_rows hv y_13b).2.2.1; omega
    have h49 : gh 2 y_13 = 4 := y_13d
    have e2 : ((rfC gh AR I AI (gh 35 0) rel.toNat)).2 = AI (gh 0 y_13) := by unfold rfC; rw [rob_e y_13a]
    refine lv_aload_n F.1 F.2.1 dX6_movedAt_24 rfl (lv_at hl 0 rfl) ?_
    refine g_getR (ci := 6) (k := 3) F hH rfl (by decide) iX6 hx.1 (by decide) rfl (b := pA) hx.2.1 k23 dX6_movedAt_25 ?_
    obtain ⟨r_14a, r_14b⟩ := gR_lines hv hx.2.2.1
    refine g_getR (ci := 2) (k := 0) F hH rfl (by decide) iX2 hx.2.2.1 (by decide) rfl (b := gh 6 pA) r_14a k113 dX6_movedAt_28 ?_
    refine lv_iload_n F.1 F.2.1 dX6_movedAt_31 rfl (lv_at hl 1 rfl) ?_
    have hx32 : 0 ≤ rel ∧ rel < ((16 : Nat) : Int) ∧ rel ≤ 2147483647 := ⟨by omega, by omega, by omega⟩
    obtain ⟨y_15, y_15a, y_15b, y_15c, y_15d⟩ := gA_lines hv hx.2.2.1 (z := rel) (by omega) (by omega)
    refine g_aldL F hH r_14b hx32.1 hx32.2.1 hx32.2.2 (b := y_15) y_15a dX6_movedAt_32 ?_
    have hl9 := (hln rel.toNat (by omega)).1
    rw [rob_e y_15a] at hl9
    refine g_getI (ci := 0) (k := 2) F hH rfl (by decide) iX0 y_15b (by decide) rfl k125 dX6_movedAt_33 ?_
    have b_16 := gI_line hv y_15b
    unfold vLineI at b_16
    have hc4 : (I y_15 2).toInt ≤ 4 := by have q := (hv.2.2.1 y_15 y_15b).2.2.2; rw [y_15c] at q; exact q (by omega)
    refine lv_iload_n F.1 F.2.1 dX6_movedAt_36 rfl (lv_at hl 2 rfl) ?_
    refine lv_iload_n F.1 F.2.1 dX6_movedAt_37 rfl (lv_at hl 3 rfl) ?_
    refine g_calliX (g_runSX (As := [.ref y_13, .int (iI ((I y_15 2).toInt)), .int (iI row), .int (iI place)]) (rest := []) F hTh hl.1 hH hS hz (c_X6_tupleCellf l g gh ((rfC gh AR I AI (gh 35 0) rel.toNat).1) I R J AI AJ AR y_13 ((I y_15 2).toInt) row place (zr_t _) zrow zplace hv y_13b (by omega) hsz h49 hst) (va_cwS 4 F.2.2.2.2.1 (good_up gTB_X6_movedAt_X6_tupleCell) rfl rfl rfl hdX6_tupleCell.2 ⟨Nat.le_of_ble_eq_true rfl, Nat.le_of_ble_eq_true rfl⟩) rfl rfl (Nat.le_of_ble_eq_true rfl) dX6_movedAt_38 ⟨Nat.le_refl _, Nat.le_refl _⟩) hS (fun ce9 q9 I2 R2 J2 AI2 AJ2 AR2 H locs hp hH hS h1 h2 h3 => ?_) (fun z I2 R2 J2 AI2 AJ2 AR2 H locs zz hp hH hS => ?_)
    · dsimp only at hp
      obtain ⟨rfl, rfl, rfl, rfl, rfl, rfl, qtx⟩ := hp
      exact g_outX F hH hS hz hxt hlk h1 h2 h3 ⟨rfl, rfl, rfl, rfl, rfl, rfl, (fun h9 => qtx ⟨h9.2.2, by have h8 := h9.2.1; omega⟩)⟩ (by decide) (by decide)
    dsimp only at hp
    obtain ⟨rfl, rfl, rfl, rfl, rfl, rfl, qtc⟩ := hp
    exact g_iretX F hr hlk hH hS hz zz ⟨rfl, rfl, rfl, rfl, rfl, rfl, ⟨⟨by omega, by have h9 := qtc.1.2; omega, qtc.1.1⟩, by (try dsimp only); rw [e2]; exact qtc.2⟩⟩ (by decide) (by decide) dX6_movedAt_41
  · exact g_throw F hTh hst hH hS hz hxt hlk hl.1 (i := 4) rfl (fun w h => List.mem_cons_of_mem _ h) dX6_movedAt_8 dX6_movedAt_11 dX6_movedAt_12 dX6_movedAt_14 dX6_movedAt_17 (Nat.le_of_ble_eq_true rfl) (Nat.le_of_ble_eq_true rfl) (Nat.le_refl _) (Nat.le_refl _) ⟨rfl, rfl, rfl, rfl, rfl, rfl, (fun h9 => by have h8 := h9.1; have h7 := qir (by omega); omega)⟩
end
section
def rmX6_totalf : Room := { frames := 6, cells := 1, slots := 6, locals := 82 }
set_option maxHeartbeats 4000000 in
set_option maxRecDepth 100000 in
/-- total -/
theorem c_X6_totalf (l : Launch) (g : gG) (gh : gGh) (pA bA nA : Nat) (nr : Nat) (I : gI) (R : gR) (J : gJ) (AI : gI) (AJ : gJ) (AR : gR) (x : Nat) (rel : Int) (zrel : zr rel) (hv : gInv g gh R AR I AI) (hx : xS g gh R AR x pA bA nA) (hlen : (I pA 1).toInt = (nr : Int)) (hst : l.stackTraces = false) : gMetX l g yX6_total tsX6_total rmX6_totalf [.ref x, .int (iI rel)] (I, R, J, AI, AJ, AR) (gQi g (fun (z : Int) (w : gS) => I = w.1 ∧ R = w.2.1 ∧ J = w.2.2.1 ∧ AI = w.2.2.2.1 ∧ AJ = w.2.2.2.2.1 ∧ AR = w.2.2.2.2.2 ∧ ((0 ≤ rel ∧ rel < (nr : Int)) ∧ iI z = smA ((rfC gh AR I AI bA rel.toNat)).2 ((rfC gh AR I AI bA rel.toNat)).1))) (fun w : gS => I = w.1 ∧ R = w.2.1 ∧ J = w.2.2.1 ∧ AI = w.2.2.2.1 ∧ AJ = w.2.2.2.2.1 ∧ AR = w.2.2.2.2.2 ∧ (rel < 0 ∨ (nr : Int) ≤ rel)) := by
  refine gStartX (cc := cX6_total) (maxL := 5) (ret := (some (.int))) (by decide) rfl (Nat.le_of_ble_eq_true rfl) ?_
  intro p e s m below meth c ls F hr hlk hH hz hS hxt hTh hl
  have hl : lv_has ls 5 [(0, .ref x), (1, .int (iI rel))] := hl
  have hS : va_S (gA g) s.heap s.heap [] := hS
  obtain ⟨H, hHe⟩ : ∃ H : Heap, H = s.heap := ⟨_, rfl⟩
  obtain ⟨locs, hlo⟩ : ∃ k : List Loc, k = [] := ⟨_, rfl⟩
  have hH : gH g I R J AI AJ AR H := by rw [hHe]; exact hH
  have hS : va_S (gA g) s.heap H locs := by rw [hHe, hlo]; exact hS
  suffices hw : W p l e rmX6_totalf s m ([.ref x, .int (iI rel)] : List Value).toArray below meth c H locs 0 0 (vx_MQ below (gQi g (fun (z : Int) (w : gS) => I = w.1 ∧ R = w.2.1 ∧ J = w.2.2.1 ∧ AI = w.2.2.2.1 ∧ AJ = w.2.2.2.2.1 ∧ AR = w.2.2.2.2.2 ∧ ((0 ≤ rel ∧ rel < (nr : Int)) ∧ iI z = smA ((rfC gh AR I AI bA rel.toNat)).2 ((rfC gh AR I AI bA rel.toNat)).1))) (vx_X (fun w : gS => I = w.1 ∧ R = w.2.1 ∧ J = w.2.2.1 ∧ AI = w.2.2.2.1 ∧ AJ = w.2.2.2.2.1 ∧ AR = w.2.2.2.2.2 ∧ (rel < 0 ∨ (nr : Int) ≤ rel)) (gBX g) (gA g)) ([.ref x, .int (iI rel)] : List Value).toArray s 1 6 (gA g)) (F0 m 0 ls []) by
    rw [hHe, hlo] at hw; exact hw
  clear hHe hlo
  have iX6 : ∀ w ∈ u_ws RX6 TX6 18, w ∈ tsX6_total := fun w h => List.mem_cons_of_mem _ (inTB6 w h)
  have iX4 : ∀ w ∈ u_ws RX4 TX4 4, w ∈ tsX6_total := fun w h => List.mem_cons_of_mem _ (inTB4 w h)
  have k38 : Cond.fieldLink RX6 38 (TX6 5).1 (TX6 5).2.1 (TX6 5).2.2.1 ∈ tsX6_total := List.mem_cons_of_mem _ (TBm (tk1 (List.mem_of_getElem? (i := 235) rfl)) rfl)
  have k99 : Cond.fieldLink RX6 99 (TX4 3).1 (TX4 3).2.1 (TX4 3).2.2.1 ∈ tsX6_total := List.mem_cons_of_mem _ (TBm (tk1 (List.mem_of_getElem? (i := 217) rfl)) rfl)
  refine lv_aload_n F.1 F.2.1 dX6_total_0 rfl (lv_at hl 0 rfl) ?_
  refine lv_iload_n F.1 F.2.1 dX6_total_1 rfl (lv_at hl 1 rfl) ?_
  have b_1 := gI_x hv hx.1
  refine g_calli (g_runV (As := [.int (iI rel)]) (rest := []) (ci := 6) F hl.1 hH hS hz (c_X6_isRelationf l g gh pA bA nA I R J AI AJ AR x rel zrel hv hx) (cwV 1 F.2.2.2.2.1 (good_up gTB_X6_total_X6_isRelation) rfl rfl rfl hdX6_isRelation ⟨Nat.le_of_ble_eq_true rfl, Nat.le_of_ble_eq_true rfl⟩) hx.1 (by decide) rfl rfl rfl (Nat.le_of_ble_eq_true rfl) dX6_total_2 ⟨Nat.zero_le _, Nat.zero_le _⟩) hS (fun v_8 I_2 R_3 J_4 AI_5 AJ_6 AR_7 H locs zv_8 hp_9 hH hS => ?_)
  dsimp only at hp_9
  obtain ⟨rfl, rfl, rfl, rfl, rfl, rfl, q_10, qir⟩ := hp_9
  refine z_if_ne (tgt := 18) F dX6_total_5 (by decide) zv_8 (fun c_11 => ?_) (fun c_11 => ?_)
  · refine lv_aload_n F.1 F.2.1 dX6_total_18 rfl (lv_at hl 0 rfl) ?_
    refine g_getR (ci := 6) (k := 5) F hH rfl (by decide) iX6 hx.1 (by decide) rfl (b := bA) hx.2.2.2.1 k38 dX6_total_19 ?_
    refine lv_iload_n F.1 F.2.1 dX6_total_22 rfl (lv_at hl 1 rfl) ?_
    have hx23 : 0 ≤ rel ∧ rel < ((16 : Nat) : Int) ∧ rel ≤ 2147483647 := ⟨by omega, by omega, by omega⟩
    obtain ⟨y_12, y_12a, y_12b, y_12c, y_12d, y_12e⟩ := hx.2.2.2.2.1.2 (rel).toNat (by omega)
    refine g_aldR F hH hx.2.2.2.2.1.1 hx23.1 hx23.2.1 hx23.2.2 (b := y_12) y_12a dX6_total_23 ?_
    have hsz : (I y_12 3).toInt = ((((rfC gh AR I AI bA rel.toNat)).1 : Nat) : Int) := by unfold rfC; rw [rob_e y_12a]; have q9 := (gI_rows hv y_12b).2.2.1; omega
    have h49 : gh 2 y_12 = 4 := y_12d
    have e2 : ((rfC gh AR I AI bA rel.toNat)).2 = AI (gh 0 y_12) := by unfold rfC; rw [rob_e y_12a]
    have hrl := gI_rows hv y_12b
    refine lv_astore_n (lv' := [(2, .ref y_12), (0, .ref x), (1, .int (iI rel))]) F.1 F.2.1 dX6_total_24 rfl hl (by decide) rfl (fun ls hl => ?_)
    refine z_iconst F dX6_total_25 ?_
    refine lv_istore_n (lv' := [(3, .int (iI 0)), (2, .ref y_12), (0, .ref x), (1, .int (iI rel))]) F.1 F.2.1 dX6_total_26 rfl hl (by decide) rfl (fun ls hl => ?_)
    refine z_iconst F dX6_total_27 ?_
    refine lv_istore (lv' := [(4, .int (iI 0)), (3, .int (iI 0)), (2, .ref y_12), (0, .ref x), (1, .int (iI rel))]) F.1 F.2.1 dX6_total_28 hl (by decide) rfl (fun ls hl => ?_)
    have cut_30_12 : ∀ (NN : Nat) (sm i : Int) (H : Heap) (locs : List Loc) (ls : Array Slot), zr sm → zr i → (0 ≤ i ∧ i ≤ 240) → (iI sm = smA ((rfC gh AR I AI bA rel.toNat)).2 i.toNat) → (i ≤ ((((rfC gh AR I AI bA rel.toNat)).1 : Nat) : Int)) → (240 - i) < ((NN : Nat) : Int) → gH g I R J AI AJ AR H → va_S (gA g) s.heap H locs → lv_has ls 5 [(4, .int (iI i)), (3, .int (iI sm)), (2, .ref y_12), (0, .ref x), (1, .int (iI rel))] → W p l e rmX6_totalf s m ([.ref x, .int (iI rel)] : List Value).toArray below meth c H locs 0 0 (vx_MQ below (gQi g (fun (z : Int) (w : gS) => I = w.1 ∧ R = w.2.1 ∧ J = w.2.2.1 ∧ AI = w.2.2.2.1 ∧ AJ = w.2.2.2.2.1 ∧ AR = w.2.2.2.2.2 ∧ ((0 ≤ rel ∧ rel < (nr : Int)) ∧ iI z = smA ((rfC gh AR I AI bA rel.toNat)).2 ((rfC gh AR I AI bA rel.toNat)).1))) (vx_X (fun w : gS => I = w.1 ∧ R = w.2.1 ∧ J = w.2.2.1 ∧ AI = w.2.2.2.1 ∧ AJ = w.2.2.2.2.1 ∧ AR = w.2.2.2.2.2 ∧ (rel < 0 ∨ (nr : Int) ≤ rel)) (gBX g) (gA g)) ([.ref x, .int (iI rel)] : List Value).toArray s 1 6 (gA g)) (F0 m 30 ls []) := by
      intro NN30
      induction NN30 with
      | zero =>
        intro sm i H locs ls zsm zi hi hsm hin hm30 hH hS hl
        exact absurd hm30 (by omega)
      | succ NN30 ih30 =>
        intro sm i H locs ls zsm zi hi hsm hin hm30 hH hS hl
        refine lv_iload F.1 F.2.1 dX6_total_30 (lv_at hl 0 rfl) ?_
        refine lv_aload_n F.1 F.2.1 dX6_total_32 rfl (lv_at hl 2 rfl) ?_
        refine g_getI (ci := 4) (k := 3) F hH rfl (by decide) iX4 y_12b (by decide) rfl k99 dX6_total_33 ?_
        obtain ⟨b_14a, b_14b, b_14c, b_14d, b_14e, b_14f, b_14g, b_14h⟩ := gI_rows hv y_12b
        refine z_icmp_ge (tgt := 54) F dX6_total_36 (by decide) zi (zr_t _) (fun c_15 => ?_) (fun c_15 => ?_)
        · refine lv_iload_n F.1 F.2.1 dX6_total_54 rfl (lv_at hl 1 rfl) ?_
          exact g_iretX F hr hlk hH hS hz zsm ⟨rfl, rfl, rfl, rfl, rfl, rfl, ⟨by omega, by rw [← show i.toNat = ((rfC gh AR I AI bA rel.toNat)).1 by omega]; exact hsm⟩⟩ (by decide) (by decide) dX6_total_55
        · refine lv_iload_n F.1 F.2.1 dX6_total_39 rfl (lv_at hl 1 rfl) ?_
          refine lv_aload_n F.1 F.2.1 dX6_total_40 rfl (lv_at hl 2 rfl) ?_
          refine lv_iload F.1 F.2.1 dX6_total_41 (lv_at hl 0 rfl) ?_
          refine g_calli (g_runV (As := [.int (iI i)]) (rest := [.int (iI sm)]) (ci := 4) F hl.1 hH hS hz (c_X4_amount l g gh I R J AI AJ AR y_12 i zi hv y_12b (by omega) (by omega)) (cwV 1 F.2.2.2.2.1 (good_up gTB_X6_total_X4_amount) rfl rfl rfl hdX4_amount ⟨Nat.le_of_ble_eq_true rfl, Nat.le_of_ble_eq_true rfl⟩) y_12b (by decide) rfl rfl rfl (Nat.le_of_ble_eq_true rfl) dX6_total_43 ⟨Nat.zero_le _, Nat.zero_le _⟩) hS (fun v_22 I_16 R_17 J_18 AI_19 AJ_20 AR_21 H locs zv_22 hp_23 hH hS => ?_)
          dsimp only at hp_23
          obtain ⟨rfl, rfl, rfl, rfl, rfl, rfl, qam⟩ := hp_23
          refine z_iadd F dX6_total_46 ?_
          refine z_norm (fun v_24 zv_24 ev_24 => ?_)
          have hsm9 : iI v_24 = smA ((rfC gh AR I AI bA rel.toNat)).2 (i + 1).toNat := by rw [show (i + 1).toNat = i.toNat + 1 by omega, smA, ← hsm, e2, ev_24, ← iI_add, qam, iI_self]; congr 2; omega
          refine lv_istore_n (lv' := [(3, .int (iI v_24)), (4, .int (iI i)), (2, .ref y_12), (0, .ref x), (1, .int (iI rel))]) F.1 F.2.1 dX6_total_47 rfl hl (by decide) rfl (fun ls hl => ?_)
          refine z_iinc (lv' := [(4, .int (iI (i + 1))), (3, .int (iI v_24)), (2, .ref y_12), (0, .ref x), (1, .int (iI rel))]) F dX6_total_48 hl (k := 1) rfl (by decide) rfl (fun ls hl => ?_)
          refine z_goto (tgt := 30) F dX6_total_51 (by decide) ?_
          exact ih30 v_24 (i + 1) H locs ls zv_24 ⟨by omega, by omega⟩ (by omega) hsm9 (by omega) (by omega) hH hS (lv_sub hl [0, 1, 2, 3, 4] rfl)
    exact cut_30_12 (((240 - 0) + 1 : Int).toNat) 0 0 H locs ls ⟨by decide, by decide⟩ ⟨by decide, by decide⟩ (by omega) rfl (by omega) (by omega) hH hS (lv_sub hl [0, 1, 2, 3, 4] rfl)
  · exact g_throw F hTh hst hH hS hz hxt hlk hl.1 (i := 4) rfl (fun w h => List.mem_cons_of_mem _ h) dX6_total_8 dX6_total_11 dX6_total_12 dX6_total_14 dX6_total_17 (Nat.le_of_ble_eq_true rfl) (Nat.le_of_ble_eq_true rfl) (Nat.le_refl _) (Nat.le_refl _) ⟨rfl, rfl, rfl, rfl, rfl, rfl, (by have h9 := qir (by omega); omega)⟩
end
section
def rmL_atf : Room := { frames := 8, cells := 1, slots := 6, locals := 128 }
set_option maxHeartbeats 4000000 in
set_option maxRecDepth 100000 in
/-- at, caught -/
theorem c_L_atf (l : Launch) (g : gG) (gh : gGh) (pA bA nA : Nat) (nr : Nat) (cc : Nat → LC) (I : gI) (R : gR) (J : gJ) (AI : gI) (AJ : gJ) (AR : gR) (x : Nat) (rel : Int) (row : Int) (place : Int) (ou : Nat) (zrel : zr rel) (zrow : zr row) (zplace : zr place) (hv : gInv g gh R AR I AI) (hx : xS g gh R AR x pA bA nA) (hou : gAr g ou 10 1) (hlen : (I pA 1).toInt = (nr : Int)) (hln : ∀ r, r < nr → lnC (I (rob AR (gh 6 pA) r)) (AI (gh 3 (rob AR (gh 6 pA) r))) (cc r)) (hst : l.stackTraces = false) : gMetX l g yL_at tsL_at rmL_atf [.ref x, .int (iI rel), .int (iI row), .int (iI place), .ref ou] (I, R, J, AI, AJ, AR) (gQi g (fun (z : Int) (w : gS) => I = w.1 ∧ R = w.2.1 ∧ J = w.2.2.1 ∧ AI = w.2.2.2.1 ∧ AR = w.2.2.2.2.2 ∧ (gInv g gh R AR I AI) ∧ (z = 0 ∨ z = 1) ∧ ((z = 0 ∧ ∃ v9 : Int, (((0 ≤ rel ∧ rel < (nr : Int)) ∧ (place = 4 ∨ (0 ≤ place ∧ place < (cc rel.toNat).1 1)) ∧ 0 ≤ row ∧ row < (((rfC gh AR I AI bA rel.toNat).1 : Nat) : Int)) ∧ v9 = (((rfC gh AR I AI bA rel.toNat)).2 (6 * row.toNat + place.toNat)).toInt) ∧ zr v9 ∧ (w.2.2.2.2.1) ou 0 = (iI v9).toInt64) ∨ (z = 1 ∧ (¬ ((0 ≤ rel ∧ rel < (nr : Int)) ∧ (place = 4 ∨ (0 ≤ place ∧ place < (cc rel.toNat).1 1)) ∧ 0 ≤ row ∧ row < (((rfC gh AR I AI bA rel.toNat).1 : Nat) : Int))))) ∧ (∀ b, b ≠ ou → (w.2.2.2.2.1) b = AJ b))) (fun _ : gS => False) := by
  refine gStartW (cc := cL_at) (maxL := 6) (ret := (some (.int))) (by decide) rfl (Nat.le_of_ble_eq_true rfl) ?_
  intro p e s m below meth c ls F hr hlk hH hz hS hxt hTh hl
  have hl : lv_has ls 6 [(0, .ref x), (1, .int (iI rel)), (2, .int (iI row)), (3, .int (iI place)), (4, .ref ou)] := hl
  have hS : va_S (gA g) s.heap s.heap [] := hS
  obtain ⟨H, hHe⟩ : ∃ H : Heap, H = s.heap := ⟨_, rfl⟩
  obtain ⟨locs, hlo⟩ : ∃ k : List Loc, k = [] := ⟨_, rfl⟩
  have hH : gH g I R J AI AJ AR H := by rw [hHe]; exact hH
  have hS : va_S (gA g) s.heap H locs := by rw [hHe, hlo]; exact hS
  suffices hw : W p l e rmL_atf s m ([.ref x, .int (iI rel), .int (iI row), .int (iI place), .ref ou] : List Value).toArray below meth c H locs 0 0 (vx_MQ below (gQi g (fun (z : Int) (w : gS) => I = w.1 ∧ R = w.2.1 ∧ J = w.2.2.1 ∧ AI = w.2.2.2.1 ∧ AR = w.2.2.2.2.2 ∧ (gInv g gh R AR I AI) ∧ (z = 0 ∨ z = 1) ∧ ((z = 0 ∧ ∃ v9 : Int, (((0 ≤ rel ∧ rel < (nr : Int)) ∧ (place = 4 ∨ (0 ≤ place ∧ place < (cc rel.toNat).1 1)) ∧ 0 ≤ row ∧ row < (((rfC gh AR I AI bA rel.toNat).1 : Nat) : Int)) ∧ v9 = (((rfC gh AR I AI bA rel.toNat)).2 (6 * row.toNat + place.toNat)).toInt) ∧ zr v9 ∧ (w.2.2.2.2.1) ou 0 = (iI v9).toInt64) ∨ (z = 1 ∧ (¬ ((0 ≤ rel ∧ rel < (nr : Int)) ∧ (place = 4 ∨ (0 ≤ place ∧ place < (cc rel.toNat).1 1)) ∧ 0 ≤ row ∧ row < (((rfC gh AR I AI bA rel.toNat).1 : Nat) : Int))))) ∧ (∀ b, b ≠ ou → (w.2.2.2.2.1) b = AJ b))) (vx_X (fun _ : gS => False) (gBX g) (gA g)) ([.ref x, .int (iI rel), .int (iI row), .int (iI place), .ref ou] : List Value).toArray s 1 6 (gA g)) (F0 m 0 ls []) by
    rw [hHe, hlo] at hw; exact hw
  clear hHe hlo
  refine lv_aload F.1 F.2.1 dL_at_0 (lv_at hl 4 rfl) ?_
  refine z_iconst F dL_at_2 ?_
  refine lv_aload_n F.1 F.2.1 dL_at_3 rfl (lv_at hl 0 rfl) ?_
  refine lv_iload_n F.1 F.2.1 dL_at_4 rfl (lv_at hl 1 rfl) ?_
  refine lv_iload_n F.1 F.2.1 dL_at_5 rfl (lv_at hl 2 rfl) ?_
  refine lv_iload_n F.1 F.2.1 dL_at_6 rfl (lv_at hl 3 rfl) ?_
  refine g_calliX (g_runVX (As := [.int (iI rel), .int (iI row), .int (iI place)]) (rest := [.int (iI 0), .ref ou]) (ci := 6) F hTh hl.1 hH hS hz (c_X6_atf l g gh pA bA nA nr cc I R J AI AJ AR x rel row place zrel zrow zplace hv hx hlen hln hst) (cwV 3 F.2.2.2.2.1 (good_up gTB_L_at_X6_at) rfl rfl rfl hdX6_at ⟨Nat.le_of_ble_eq_true rfl, Nat.le_of_ble_eq_true rfl⟩) hx.1 (by decide) rfl rfl rfl (Nat.le_of_ble_eq_true rfl) dL_at_7 ⟨Nat.le_refl _, Nat.le_refl _⟩) hS (fun ce9 q9 I_1 R_2 J_3 AI_4 AJ_5 AR_6 H locs hp hH hS h1 h2 h3 => ?_) (fun z I_1 R_2 J_3 AI_4 AJ_5 AR_6 H locs zz hp hH hS => ?_)
  · dsimp only at hp
    obtain ⟨rfl, rfl, rfl, rfl, rfl, rfl, qtx⟩ := hp
    refine g_catch F hTh hxt (by decide) (by decide) (List.mem_cons_of_mem _ (TBm (tk4 (List.mem_of_getElem? (i := 151) rfl)) rfl)) h1 h2 h3 ?_
    refine lv_astore (lv' := [(5, .ref q9), (0, .ref x), (1, .int (iI rel)), (2, .int (iI row)), (3, .int (iI place)), (4, .ref ou)]) F.1 F.2.1 dL_at_15 hl (by decide) rfl (fun ls hl => ?_)
    refine z_iconst F dL_at_17 ?_
    exact g_iretX F hr hlk hH hS hz ⟨by decide, by decide⟩ ⟨rfl, rfl, rfl, rfl, rfl, hv, by first | omega | rfl | (dsimp only; omega), Or.inr ⟨rfl, qtx⟩, (fun _ _ => rfl)⟩ (by decide) (by decide) dL_at_18
  dsimp only at hp
  obtain ⟨rfl, rfl, rfl, rfl, rfl, rfl, qtv⟩ := hp
  refine lv_i2l F.1 F.2.1 dL_at_10 rfl ?_
  refine lv_topl (fun j_7 ej_7 => ?_)
  have hx11 : 0 ≤ (0 : Int) ∧ (0 : Int) < ((1 : Nat) : Int) ∧ (0 : Int) ≤ 2147483647 := ⟨by omega, by omega, by omega⟩
  refine g_last F hH hS hou hx11.1 hx11.2.1 hx11.2.2 dL_at_11 (fun H locs hH hS => ?_)
  obtain ⟨AJ_8, eAJ_8⟩ : ∃ qQ, qQ = gup2 AJ ou ((0 : Int)).toNat (j_7) := ⟨_, rfl⟩
  rw [← eAJ_8] at hH
  have kAJ_8 : ∀ b, b ≠ ou → AJ_8 b = AJ b := fun b hb => by rw [eAJ_8]; exact funext fun j => gup2_a _ _ hb
  refine z_goto (tgt := 19) F dL_at_12 (by decide) ?_
  refine z_iconst F dL_at_19 ?_
  exact g_iretX F hr hlk hH hS hz ⟨by decide, by decide⟩ ⟨rfl, rfl, rfl, rfl, rfl, hv, by first | omega | rfl | (dsimp only; omega), Or.inl ⟨rfl, _, qtv, zz, by (try dsimp only); rw [eAJ_8, gup2_e _ _ (by decide), ej_7]⟩, kAJ_8⟩ (by decide) (by decide) dL_at_20

def rmL_totalf : Room := { frames := 7, cells := 1, slots := 6, locals := 106 }
set_option maxHeartbeats 4000000 in
set_option maxRecDepth 100000 in
/-- total, caught -/
theorem c_L_totalf (l : Launch) (g : gG) (gh : gGh) (pA bA nA : Nat) (nr : Nat) (I : gI) (R : gR) (J : gJ) (AI : gI) (AJ : gJ) (AR : gR) (x : Nat) (rel : Int) (ou : Nat) (zrel : zr rel) (hv : gInv g gh R AR I AI) (hx : xS g gh R AR x pA bA nA) (hou : gAr g ou 10 1) (hlen : (I pA 1).toInt = (nr : Int)) (hst : l.stackTraces = false) : gMetX l g yL_total tsL_total rmL_totalf [.ref x, .int (iI rel), .ref ou] (I, R, J, AI, AJ, AR) (gQi g (fun (z : Int) (w : gS) => I = w.1 ∧ R = w.2.1 ∧ J = w.2.2.1 ∧ AI = w.2.2.2.1 ∧ AR = w.2.2.2.2.2 ∧ (gInv g gh R AR I AI) ∧ (z = 0 ∨ z = 1) ∧ ((z = 0 ∧ ∃ v9 : Int, ((0 ≤ rel ∧ rel < (nr : Int)) ∧ iI v9 = smA ((rfC gh AR I AI bA rel.toNat)).2 ((rfC gh AR I AI bA rel.toNat)).1) ∧ zr v9 ∧ (w.2.2.2.2.1) ou 0 = (iI v9).toInt64) ∨ (z = 1 ∧ (rel < 0 ∨ (nr : Int) ≤ rel))) ∧ (∀ b, b ≠ ou → (w.2.2.2.2.1) b = AJ b))) (fun _ : gS => False) := by
  refine gStartW (cc := cL_total) (maxL := 4) (ret := (some (.int))) (by decide) rfl (Nat.le_of_ble_eq_true rfl) ?_
  intro p e s m below meth c ls F hr hlk hH hz hS hxt hTh hl
  have hl : lv_has ls 4 [(0, .ref x), (1, .int (iI rel)), (2, .ref ou)] := hl
  have hS : va_S (gA g) s.heap s.heap [] := hS
  obtain ⟨H, hHe⟩ : ∃ H : Heap, H = s.heap := ⟨_, rfl⟩
  obtain ⟨locs, hlo⟩ : ∃ k : List Loc, k = [] := ⟨_, rfl⟩
  have hH : gH g I R J AI AJ AR H := by rw [hHe]; exact hH
  have hS : va_S (gA g) s.heap H locs := by rw [hHe, hlo]; exact hS
  suffices hw : W p l e rmL_totalf s m ([.ref x, .int (iI rel), .ref ou] : List Value).toArray below meth c H locs 0 0 (vx_MQ below (gQi g (fun (z : Int) (w : gS) => I = w.1 ∧ R = w.2.1 ∧ J = w.2.2.1 ∧ AI = w.2.2.2.1 ∧ AR = w.2.2.2.2.2 ∧ (gInv g gh R AR I AI) ∧ (z = 0 ∨ z = 1) ∧ ((z = 0 ∧ ∃ v9 : Int, ((0 ≤ rel ∧ rel < (nr : Int)) ∧ iI v9 = smA ((rfC gh AR I AI bA rel.toNat)).2 ((rfC gh AR I AI bA rel.toNat)).1) ∧ zr v9 ∧ (w.2.2.2.2.1) ou 0 = (iI v9).toInt64) ∨ (z = 1 ∧ (rel < 0 ∨ (nr : Int) ≤ rel))) ∧ (∀ b, b ≠ ou → (w.2.2.2.2.1) b = AJ b))) (vx_X (fun _ : gS => False) (gBX g) (gA g)) ([.ref x, .int (iI rel), .ref ou] : List Value).toArray s 1 6 (gA g)) (F0 m 0 ls []) by
    rw [hHe, hlo] at hw; exact hw
  clear hHe hlo
  refine lv_aload_n F.1 F.2.1 dL_total_0 rfl (lv_at hl 2 rfl) ?_
  refine z_iconst F dL_total_1 ?_
  refine lv_aload_n F.1 F.2.1 dL_total_2 rfl (lv_at hl 0 rfl) ?_
  refine lv_iload_n F.1 F.2.1 dL_total_3 rfl (lv_at hl 1 rfl) ?_
  refine g_calliX (g_runVX (As := [.int (iI rel)]) (rest := [.int (iI 0), .ref ou]) (ci := 6) F hTh hl.1 hH hS hz (c_X6_totalf l g gh pA bA nA nr I R J AI AJ AR x rel zrel hv hx hlen hst) (cwV 1 F.2.2.2.2.1 (good_up gTB_L_total_X6_total) rfl rfl rfl hdX6_total ⟨Nat.le_of_ble_eq_true rfl, Nat.le_of_ble_eq_true rfl⟩) hx.1 (by decide) rfl rfl rfl (Nat.le_of_ble_eq_true rfl) dL_total_4 ⟨Nat.le_refl _, Nat.le_refl _⟩) hS (fun ce9 q9 I_1 R_2 J_3 AI_4 AJ_5 AR_6 H locs hp hH hS h1 h2 h3 => ?_) (fun z I_1 R_2 J_3 AI_4 AJ_5 AR_6 H locs zz hp hH hS => ?_)
  · dsimp only at hp
    obtain ⟨rfl, rfl, rfl, rfl, rfl, rfl, qtx⟩ := hp
    refine g_catch F hTh hxt (by decide) (by decide) (List.mem_cons_of_mem _ (TBm (tk4 (List.mem_of_getElem? (i := 151) rfl)) rfl)) h1 h2 h3 ?_
    refine lv_astore_n (lv' := [(3, .ref q9), (0, .ref x), (1, .int (iI rel)), (2, .ref ou)]) F.1 F.2.1 dL_total_12 rfl hl (by decide) rfl (fun ls hl => ?_)
    refine z_iconst F dL_total_13 ?_
    exact g_iretX F hr hlk hH hS hz ⟨by decide, by decide⟩ ⟨rfl, rfl, rfl, rfl, rfl, hv, by first | omega | rfl | (dsimp only; omega), Or.inr ⟨rfl, qtx⟩, (fun _ _ => rfl)⟩ (by decide) (by decide) dL_total_14
  dsimp only at hp
  obtain ⟨rfl, rfl, rfl, rfl, rfl, rfl, qtv⟩ := hp
  refine lv_i2l F.1 F.2.1 dL_total_7 rfl ?_
  refine lv_topl (fun j_7 ej_7 => ?_)
  have hx8 : 0 ≤ (0 : Int) ∧ (0 : Int) < ((1 : Nat) : Int) ∧ (0 : Int) ≤ 2147483647 := ⟨by omega, by omega, by omega⟩
  refine g_last F hH hS hou hx8.1 hx8.2.1 hx8.2.2 dL_total_8 (fun H locs hH hS => ?_)
  obtain ⟨AJ_8, eAJ_8⟩ : ∃ qQ, qQ = gup2 AJ ou ((0 : Int)).toNat (j_7) := ⟨_, rfl⟩
  rw [← eAJ_8] at hH
  have kAJ_8 : ∀ b, b ≠ ou → AJ_8 b = AJ b := fun b hb => by rw [eAJ_8]; exact funext fun j => gup2_a _ _ hb
  refine z_goto (tgt := 15) F dL_total_9 (by decide) ?_
  refine z_iconst F dL_total_15 ?_
  exact g_iretX F hr hlk hH hS hz ⟨by decide, by decide⟩ ⟨rfl, rfl, rfl, rfl, rfl, hv, by first | omega | rfl | (dsimp only; omega), Or.inl ⟨rfl, _, qtv, zz, by (try dsimp only); rw [eAJ_8, gup2_e _ _ (by decide), ej_7]⟩, kAJ_8⟩ (by decide) (by decide) dL_total_16

def rmL_movedAtf : Room := { frames := 8, cells := 1, slots := 6, locals := 128 }
set_option maxHeartbeats 4000000 in
set_option maxRecDepth 100000 in
/-- movedAt, caught -/
theorem c_L_movedAtf (l : Launch) (g : gG) (gh : gGh) (pA bA nA : Nat) (nr : Nat) (cc : Nat → LC) (I : gI) (R : gR) (J : gJ) (AI : gI) (AJ : gJ) (AR : gR) (x : Nat) (rel : Int) (row : Int) (place : Int) (ou : Nat) (zrel : zr rel) (zrow : zr row) (zplace : zr place) (hv : gInv g gh R AR I AI) (hx : xS g gh R AR x pA bA nA) (hou : gAr g ou 10 1) (hlen : (I pA 1).toInt = (nr : Int)) (hln : ∀ r, r < nr → lnC (I (rob AR (gh 6 pA) r)) (AI (gh 3 (rob AR (gh 6 pA) r))) (cc r)) (hst : l.stackTraces = false) : gMetX l g yL_movedAt tsL_movedAt rmL_movedAtf [.ref x, .int (iI rel), .int (iI row), .int (iI place), .ref ou] (I, R, J, AI, AJ, AR) (gQi g (fun (z : Int) (w : gS) => I = w.1 ∧ R = w.2.1 ∧ J = w.2.2.1 ∧ AI = w.2.2.2.1 ∧ AR = w.2.2.2.2.2 ∧ (gInv g gh R AR I AI) ∧ (z = 0 ∨ z = 1) ∧ ((z = 0 ∧ ∃ v9 : Int, (((0 ≤ rel ∧ rel < (nr : Int)) ∧ (place = 4 ∨ (0 ≤ place ∧ place < (cc rel.toNat).1 1)) ∧ 0 ≤ row ∧ row < (((rfC gh AR I AI (gh 35 0) rel.toNat).1 : Nat) : Int)) ∧ v9 = (((rfC gh AR I AI (gh 35 0) rel.toNat)).2 (6 * row.toNat + place.toNat)).toInt) ∧ zr v9 ∧ (w.2.2.2.2.1) ou 0 = (iI v9).toInt64) ∨ (z = 1 ∧ (¬ ((0 ≤ rel ∧ rel < (nr : Int)) ∧ (place = 4 ∨ (0 ≤ place ∧ place < (cc rel.toNat).1 1)) ∧ 0 ≤ row ∧ row < (((rfC gh AR I AI (gh 35 0) rel.toNat).1 : Nat) : Int))))) ∧ (∀ b, b ≠ ou → (w.2.2.2.2.1) b = AJ b))) (fun _ : gS => False) := by
  refine gStartW (cc := cL_movedAt) (maxL := 6) (ret := (some (.int))) (by decide) rfl (Nat.le_of_ble_eq_true rfl) ?_
  intro p e s m below meth c ls F hr hlk hH hz hS hxt hTh hl
  have hl : lv_has ls 6 [(0, .ref x), (1, .int (iI rel)), (2, .int (iI row)), (3, .int (iI place)), (4, .ref ou)] := hl
  have hS : va_S (gA g) s.heap s.heap [] := hS
  obtain ⟨H, hHe⟩ : ∃ H : Heap, H = s.heap := ⟨_, rfl⟩
  obtain ⟨locs, hlo⟩ : ∃ k : List Loc, k = [] := ⟨_, rfl⟩
  have hH : gH g I R J AI AJ AR H := by rw [hHe]; exact hH
  have hS : va_S (gA g) s.heap H locs := by rw [hHe, hlo]; exact hS
  suffices hw : W p l e rmL_movedAtf s m ([.ref x, .int (iI rel), .int (iI row), .int (iI place), .ref ou] : List Value).toArray below meth c H locs 0 0 (vx_MQ below (gQi g (fun (z : Int) (w : gS) => I = w.1 ∧ R = w.2.1 ∧ J = w.2.2.1 ∧ AI = w.2.2.2.1 ∧ AR = w.2.2.2.2.2 ∧ (gInv g gh R AR I AI) ∧ (z = 0 ∨ z = 1) ∧ ((z = 0 ∧ ∃ v9 : Int, (((0 ≤ rel ∧ rel < (nr : Int)) ∧ (place = 4 ∨ (0 ≤ place ∧ place < (cc rel.toNat).1 1)) ∧ 0 ≤ row ∧ row < (((rfC gh AR I AI (gh 35 0) rel.toNat).1 : Nat) : Int)) ∧ v9 = (((rfC gh AR I AI (gh 35 0) rel.toNat)).2 (6 * row.toNat + place.toNat)).toInt) ∧ zr v9 ∧ (w.2.2.2.2.1) ou 0 = (iI v9).toInt64) ∨ (z = 1 ∧ (¬ ((0 ≤ rel ∧ rel < (nr : Int)) ∧ (place = 4 ∨ (0 ≤ place ∧ place < (cc rel.toNat).1 1)) ∧ 0 ≤ row ∧ row < (((rfC gh AR I AI (gh 35 0) rel.toNat).1 : Nat) : Int))))) ∧ (∀ b, b ≠ ou → (w.2.2.2.2.1) b = AJ b))) (vx_X (fun _ : gS => False) (gBX g) (gA g)) ([.ref x, .int (iI rel), .int (iI row), .int (iI place), .ref ou] : List Value).toArray s 1 6 (gA g)) (F0 m 0 ls []) by
    rw [hHe, hlo] at hw; exact hw
  clear hHe hlo
  refine lv_aload F.1 F.2.1 dL_movedAt_0 (lv_at hl 4 rfl) ?_
  refine z_iconst F dL_movedAt_2 ?_
  refine lv_aload_n F.1 F.2.1 dL_movedAt_3 rfl (lv_at hl 0 rfl) ?_
  refine lv_iload_n F.1 F.2.1 dL_movedAt_4 rfl (lv_at hl 1 rfl) ?_
  refine lv_iload_n F.1 F.2.1 dL_movedAt_5 rfl (lv_at hl 2 rfl) ?_
  refine lv_iload_n F.1 F.2.1 dL_movedAt_6 rfl (lv_at hl 3 rfl) ?_
  refine g_calliX (g_runVX (As := [.int (iI rel), .int (iI row), .int (iI place)]) (rest := [.int (iI 0), .ref ou]) (ci := 6) F hTh hl.1 hH hS hz (c_X6_movedAtf l g gh pA bA nA nr cc I R J AI AJ AR x rel row place zrel zrow zplace hv hx hlen hln hst) (cwV 3 F.2.2.2.2.1 (good_up gTB_L_movedAt_X6_movedAt) rfl rfl rfl hdX6_movedAt ⟨Nat.le_of_ble_eq_true rfl, Nat.le_of_ble_eq_true rfl⟩) hx.1 (by decide) rfl rfl rfl (Nat.le_of_ble_eq_true rfl) dL_movedAt_7 ⟨Nat.le_refl _, Nat.le_refl _⟩) hS (fun ce9 q9 I_1 R_2 J_3 AI_4 AJ_5 AR_6 H locs hp hH hS h1 h2 h3 => ?_) (fun z I_1 R_2 J_3 AI_4 AJ_5 AR_6 H locs zz hp hH hS => ?_)
  · dsimp only at hp
    obtain ⟨rfl, rfl, rfl, rfl, rfl, rfl, qtx⟩ := hp
    refine g_catch F hTh hxt (by decide) (by decide) (List.mem_cons_of_mem _ (TBm (tk4 (List.mem_of_getElem? (i := 151) rfl)) rfl)) h1 h2 h3 ?_
    refine lv_astore (lv' := [(5, .ref q9), (0, .ref x), (1, .int (iI rel)), (2, .int (iI row)), (3, .int (iI place)), (4, .ref ou)]) F.1 F.2.1 dL_movedAt_15 hl (by decide) rfl (fun ls hl => ?_)
    refine z_iconst F dL_movedAt_17 ?_
    exact g_iretX F hr hlk hH hS hz ⟨by decide, by decide⟩ ⟨rfl, rfl, rfl, rfl, rfl, hv, by first | omega | rfl | (dsimp only; omega), Or.inr ⟨rfl, qtx⟩, (fun _ _ => rfl)⟩ (by decide) (by decide) dL_movedAt_18
  dsimp only at hp
  obtain ⟨rfl, rfl, rfl, rfl, rfl, rfl, qtv⟩ := hp
  refine lv_i2l F.1 F.2.1 dL_movedAt_10 rfl ?_
  refine lv_topl (fun j_7 ej_7 => ?_)
  have hx11 : 0 ≤ (0 : Int) ∧ (0 : Int) < ((1 : Nat) : Int) ∧ (0 : Int) ≤ 2147483647 := ⟨by omega, by omega, by omega⟩
  refine g_last F hH hS hou hx11.1 hx11.2.1 hx11.2.2 dL_movedAt_11 (fun H locs hH hS => ?_)
  obtain ⟨AJ_8, eAJ_8⟩ : ∃ qQ, qQ = gup2 AJ ou ((0 : Int)).toNat (j_7) := ⟨_, rfl⟩
  rw [← eAJ_8] at hH
  have kAJ_8 : ∀ b, b ≠ ou → AJ_8 b = AJ b := fun b hb => by rw [eAJ_8]; exact funext fun j => gup2_a _ _ hb
  refine z_goto (tgt := 19) F dL_movedAt_12 (by decide) ?_
  refine z_iconst F dL_movedAt_19 ?_
  exact g_iretX F hr hlk hH hS hz ⟨by decide, by decide⟩ ⟨rfl, rfl, rfl, rfl, rfl, hv, by first | omega | rfl | (dsimp only; omega), Or.inl ⟨rfl, _, qtv, zz, by (try dsimp only); rw [eAJ_8, gup2_e _ _ (by decide), ej_7]⟩, kAJ_8⟩ (by decide) (by decide) dL_movedAt_20
end
section
/-! the last round, read off the marks -/
def rdX (f : Nat → Int32) (i : Nat) (v : Int) : Prop := 0 ≤ v ∧ (∀ q, q < i → (f (6 * q + 5)).toInt ≤ v) ∧ (v = 0 ∨ ∃ q, q < i ∧ v = (f (6 * q + 5)).toInt)
theorem rdX_0 {f : Nat → Int32} : rdX f 0 0 := ⟨Int.le_refl _, fun q h => absurd h (Nat.not_lt_zero q), Or.inl rfl⟩
theorem rdX_s {f : Nat → Int32} {i : Nat} {v w : Int} (h : rdX f i v) (hw : (w = v ∧ (f (6 * i + 5)).toInt ≤ v) ∨ (w = (f (6 * i + 5)).toInt ∧ v ≤ (f (6 * i + 5)).toInt)) : rdX f (i + 1) w := by
  obtain ⟨h1, h2, h3⟩ := h
  refine ⟨by omega, fun q hq => ?_, ?_⟩
  · by_cases e : q = i
    · rw [e]; omega
    · have := h2 q (by omega); omega
  · rcases hw with ⟨e, _⟩ | ⟨e, _⟩
    · rw [e]; exact h3.imp id (fun ⟨q, a, b⟩ => ⟨q, by omega, b⟩)
    · exact Or.inr ⟨i, by omega, e⟩
theorem rg_R {c : LC} {x y f : Nat → Int32} {n m R k : Nat} {z : Int} (h : rgY c x n y m R f k) (hz : rdX f k z) : z = (R : Int) := by
  obtain ⟨h1, _, h3, _, M, h5, h6⟩ := h
  obtain ⟨z1, z2, z3⟩ := hz
  have mk : ∀ q, q < k → ∃ w : Nat, w ≤ R ∧ (f (6 * q + 5)).toInt = (w : Int) := fun q hq => by
    have r := h5.2.1 q hq
    obtain ⟨w, w1, w2⟩ := rS_at R _ r.1
    refine ⟨w, w1, ?_⟩
    rw [r.2.2, h6 w _ w1 w2, iI_val ⟨by omega, by omega⟩]
  have le : z ≤ (R : Int) := by
    rcases z3 with e | ⟨q, a, e⟩
    · omega
    · obtain ⟨w, w1, w2⟩ := mk q a
      omega
  have ge : (R : Int) ≤ z := by
    rcases h3 with e | ⟨t, ht⟩
    · omega
    · obtain ⟨q, a, e⟩ := h5.2.2 t (rS_new R t ht)
      have r := (h5.2.1 q a).2.2
      rw [e, h6 R t (Nat.le_refl _) ht] at r
      have s := z2 q a
      rw [r, iI_val ⟨by omega, by omega⟩] at s
      exact s
  omega
end
section
def rmX6_roundsf : Room := { frames := 2, cells := 0, slots := 0, locals := 42 }
set_option maxHeartbeats 4000000 in
set_option maxRecDepth 100000 in
/-- rounds -/
theorem c_X6_roundsf (l : Launch) (g : gG) (gh : gGh) (pA bA nA : Nat) (nr : Nat) (cc : Nat → LC) (I : gI) (R : gR) (J : gJ) (AI : gI) (AJ : gJ) (AR : gR) (x : Nat) (rel : Int) (zrel : zr rel) (hv : gInv g gh R AR I AI) (hx : xS g gh R AR x pA bA nA) (hlen : (I pA 1).toInt = (nr : Int)) (hln : ∀ r, r < nr → lnC (I (rob AR (gh 6 pA) r)) (AI (gh 3 (rob AR (gh 6 pA) r))) (cc r)) : gMet l g yX6_rounds wsX6_rounds rmX6_roundsf [.ref x, .int (iI rel)] (I, R, J, AI, AJ, AR) (gQi g (fun (z : Int) (w : gS) => I = w.1 ∧ R = w.2.1 ∧ J = w.2.2.1 ∧ AI = w.2.2.2.1 ∧ AJ = w.2.2.2.2.1 ∧ AR = w.2.2.2.2.2 ∧ ((¬ ((0 ≤ rel ∧ rel < (nr : Int)) ∧ (cc rel.toNat).1 0 = 8) ∧ z = -1) ∨ (((0 ≤ rel ∧ rel < (nr : Int)) ∧ (cc rel.toNat).1 0 = 8) ∧ rdX ((rfC gh AR I AI bA rel.toNat)).2 ((rfC gh AR I AI bA rel.toNat)).1 z)))) := by
  refine gStart (cc := cX6_rounds) (maxL := 5) (ret := (some (.int))) (by decide) rfl (Nat.le_of_ble_eq_true rfl) ?_
  intro p e s m below meth c ls F hr hlk hH hz hS hl
  have hl : lv_has ls 5 [(0, .ref x), (1, .int (iI rel))] := hl
  have hS : va_S (gA g) s.heap s.heap [] := hS
  obtain ⟨H, hHe⟩ : ∃ H : Heap, H = s.heap := ⟨_, rfl⟩
  obtain ⟨locs, hlo⟩ : ∃ k : List Loc, k = [] := ⟨_, rfl⟩
  have hH : gH g I R J AI AJ AR H := by rw [hHe]; exact hH
  have hS : va_S (gA g) s.heap H locs := by rw [hHe, hlo]; exact hS
  suffices hw : W p l e rmX6_roundsf s m ([.ref x, .int (iI rel)] : List Value).toArray below meth c H locs 0 0 (MQ below (gQi g (fun (z : Int) (w : gS) => I = w.1 ∧ R = w.2.1 ∧ J = w.2.2.1 ∧ AI = w.2.2.2.1 ∧ AJ = w.2.2.2.2.1 ∧ AR = w.2.2.2.2.2 ∧ ((¬ ((0 ≤ rel ∧ rel < (nr : Int)) ∧ (cc rel.toNat).1 0 = 8) ∧ z = -1) ∨ (((0 ≤ rel ∧ rel < (nr : Int)) ∧ (cc rel.toNat).1 0 = 8) ∧ rdX ((rfC gh AR I AI bA rel.toNat)).2 ((rfC gh AR I AI bA rel.toNat)).1 z)))) ([.ref x, .int (iI rel)] : List Value).toArray s 0 0 (gA g)) (F0 m 0 ls []) by
    rw [hHe, hlo] at hw; exact hw
  clear hHe hlo
  have iX6 : ∀ w ∈ u_ws RX6 TX6 18, w ∈ wsX6_rounds := (by decide +kernel)
  have iX4 : ∀ w ∈ u_ws RX4 TX4 4, w ∈ wsX6_rounds := (by decide +kernel)
  have k38 : Cond.fieldLink RX6 38 (TX6 5).1 (TX6 5).2.1 (TX6 5).2.2.1 ∈ wsX6_rounds := List.mem_of_getElem? (i := 1) rfl
  have k99 : Cond.fieldLink RX6 99 (TX4 3).1 (TX4 3).2.1 (TX4 3).2.2.1 ∈ wsX6_rounds := List.mem_of_getElem? (i := 2) rfl
  refine lv_aload_n F.1 F.2.1 dX6_rounds_0 rfl (lv_at hl 0 rfl) ?_
  refine lv_iload_n F.1 F.2.1 dX6_rounds_1 rfl (lv_at hl 1 rfl) ?_
  have b_1 := gI_x hv hx.1
  refine g_calli (g_runV (As := [.int (iI rel)]) (rest := []) (ci := 6) F hl.1 hH hS hz (c_X6_isRingf l g gh pA bA nA nr cc I R J AI AJ AR x rel zrel hv hx (by omega) hln) (cwV 1 F.2.2.2.2.1 gX6_rounds_X6_isRing rfl rfl rfl hdX6_isRing ⟨Nat.le_of_ble_eq_true rfl, Nat.le_of_ble_eq_true rfl⟩) hx.1 (by decide) rfl rfl rfl (Nat.le_of_ble_eq_true rfl) dX6_rounds_2 ⟨Nat.zero_le _, Nat.zero_le _⟩) hS (fun v_8 I_2 R_3 J_4 AI_5 AJ_6 AR_7 H locs zv_8 hp_9 hH hS => ?_)
  dsimp only at hp_9
  obtain ⟨rfl, rfl, rfl, rfl, rfl, rfl, q_10, qrg⟩ := hp_9
  refine z_if_ne (tgt := 10) F dX6_rounds_5 (by decide) zv_8 (fun c_11 => ?_) (fun c_11 => ?_)
  · refine lv_aload_n F.1 F.2.1 dX6_rounds_10 rfl (lv_at hl 0 rfl) ?_
    refine g_getR (ci := 6) (k := 5) F hH rfl (by decide) iX6 hx.1 (by decide) rfl (b := bA) hx.2.2.2.1 k38 dX6_rounds_11 ?_
    refine lv_iload_n F.1 F.2.1 dX6_rounds_14 rfl (lv_at hl 1 rfl) ?_
    have hx15 : 0 ≤ rel ∧ rel < ((16 : Nat) : Int) ∧ rel ≤ 2147483647 := ⟨by omega, by omega, by omega⟩
    obtain ⟨y_12, y_12a, y_12b, y_12c, y_12d, y_12e⟩ := hx.2.2.2.2.1.2 (rel).toNat (by omega)
    refine g_aldR F hH hx.2.2.2.2.1.1 hx15.1 hx15.2.1 hx15.2.2 (b := y_12) y_12a dX6_rounds_15 ?_
    have hsz : (I y_12 3).toInt = ((((rfC gh AR I AI bA rel.toNat)).1 : Nat) : Int) := by unfold rfC; rw [rob_e y_12a]; have q9 := (gI_rows hv y_12b).2.2.1; omega
    have e2 : ((rfC gh AR I AI bA rel.toNat)).2 = AI (gh 0 y_12) := by unfold rfC; rw [rob_e y_12a]
    have hrl := gI_rows hv y_12b
    refine lv_astore_n (lv' := [(2, .ref y_12), (0, .ref x), (1, .int (iI rel))]) F.1 F.2.1 dX6_rounds_16 rfl hl (by decide) rfl (fun ls hl => ?_)
    refine z_iconst F dX6_rounds_17 ?_
    refine lv_istore_n (lv' := [(3, .int (iI 0)), (2, .ref y_12), (0, .ref x), (1, .int (iI rel))]) F.1 F.2.1 dX6_rounds_18 rfl hl (by decide) rfl (fun ls hl => ?_)
    refine z_iconst F dX6_rounds_19 ?_
    refine lv_istore (lv' := [(4, .int (iI 0)), (3, .int (iI 0)), (2, .ref y_12), (0, .ref x), (1, .int (iI rel))]) F.1 F.2.1 dX6_rounds_20 hl (by decide) rfl (fun ls hl => ?_)
    have cut_22_12 : ∀ (NN : Nat) (la i : Int) (H : Heap) (locs : List Loc) (ls : Array Slot), zr la → zr i → (0 ≤ i ∧ i ≤ 240) → (rdX ((rfC gh AR I AI bA rel.toNat)).2 i.toNat la) → (i ≤ ((((rfC gh AR I AI bA rel.toNat)).1 : Nat) : Int)) → (240 - i) < ((NN : Nat) : Int) → gH g I R J AI AJ AR H → va_S (gA g) s.heap H locs → lv_has ls 5 [(4, .int (iI i)), (3, .int (iI la)), (2, .ref y_12), (0, .ref x), (1, .int (iI rel))] → W p l e rmX6_roundsf s m ([.ref x, .int (iI rel)] : List Value).toArray below meth c H locs 0 0 (MQ below (gQi g (fun (z : Int) (w : gS) => I = w.1 ∧ R = w.2.1 ∧ J = w.2.2.1 ∧ AI = w.2.2.2.1 ∧ AJ = w.2.2.2.2.1 ∧ AR = w.2.2.2.2.2 ∧ ((¬ ((0 ≤ rel ∧ rel < (nr : Int)) ∧ (cc rel.toNat).1 0 = 8) ∧ z = -1) ∨ (((0 ≤ rel ∧ rel < (nr : Int)) ∧ (cc rel.toNat).1 0 = 8) ∧ rdX ((rfC gh AR I AI bA rel.toNat)).2 ((rfC gh AR I AI bA rel.toNat)).1 z)))) ([.ref x, .int (iI rel)] : List Value).toArray s 0 0 (gA g)) (F0 m 22 ls []) := by
      intro NN22
      induction NN22 with
      | zero =>
        intro la i H locs ls zla zi hi hmx hin hm22 hH hS hl
        exact absurd hm22 (by omega)
      | succ NN22 ih22 =>
        intro la i H locs ls zla zi hi hmx hin hm22 hH hS hl
        refine lv_iload F.1 F.2.1 dX6_rounds_22 (lv_at hl 0 rfl) ?_
        refine lv_aload_n F.1 F.2.1 dX6_rounds_24 rfl (lv_at hl 2 rfl) ?_
        refine g_getI (ci := 4) (k := 3) F hH rfl (by decide) iX4 y_12b (by decide) rfl k99 dX6_rounds_25 ?_
        obtain ⟨b_14a, b_14b, b_14c, b_14d, b_14e, b_14f, b_14g, b_14h⟩ := gI_rows hv y_12b
        refine z_icmp_ge (tgt := 49) F dX6_rounds_28 (by decide) zi (zr_t _) (fun c_15 => ?_) (fun c_15 => ?_)
        · refine lv_iload_n F.1 F.2.1 dX6_rounds_49 rfl (lv_at hl 1 rfl) ?_
          exact g_iret F hr hlk hH hS hz zla ⟨rfl, rfl, rfl, rfl, rfl, rfl, Or.inr ⟨tIz_1 qrg (by omega), by rw [← show i.toNat = ((rfC gh AR I AI bA rel.toNat)).1 by omega]; exact hmx⟩⟩ dX6_rounds_50
        · refine lv_iload_n F.1 F.2.1 dX6_rounds_31 rfl (lv_at hl 1 rfl) ?_
          refine lv_aload_n F.1 F.2.1 dX6_rounds_32 rfl (lv_at hl 2 rfl) ?_
          refine lv_iload F.1 F.2.1 dX6_rounds_33 (lv_at hl 0 rfl) ?_
          refine z_iconst F dX6_rounds_35 ?_
          refine g_calli (g_runV (As := [.int (iI i), .int (iI 5)]) (rest := [.int (iI la)]) (ci := 4) F hl.1 hH hS hz (c_X4_cell l g gh I R J AI AJ AR y_12 i 5 zi ⟨by decide, by decide⟩ hv y_12b (by omega) (by omega) (by omega) (by omega)) (cwV 2 F.2.2.2.2.1 gX6_rounds_X4_cell rfl rfl rfl hdX4_cell ⟨Nat.le_of_ble_eq_true rfl, Nat.le_of_ble_eq_true rfl⟩) y_12b (by decide) rfl rfl rfl (Nat.le_of_ble_eq_true rfl) dX6_rounds_36 ⟨Nat.zero_le _, Nat.zero_le _⟩) hS (fun v_22 I_16 R_17 J_18 AI_19 AJ_20 AR_21 H locs zv_22 hp_23 hH hS => ?_)
          dsimp only at hp_23
          obtain ⟨rfl, rfl, rfl, rfl, rfl, rfl, qce⟩ := hp_23
          have c36 : v_22 = (((rfC gh AR I AI bA rel.toNat)).2 (6 * i.toNat + 5)).toInt := by rw [e2, qce]; congr 2; omega
          refine z_mmax (rest := []) F hl.1 (List.mem_of_getElem? (i := 3) rfl) (List.mem_of_getElem? (i := 4) rfl) (List.mem_of_getElem? (i := 5) rfl) (List.mem_of_getElem? (i := 6) rfl) (Nat.le_of_ble_eq_true rfl) (Nat.le_of_ble_eq_true rfl) (Nat.zero_le _) (Nat.zero_le _) zla zv_22 dX6_rounds_39 (fun v_24 zv_24 qv_24 => ?_)
          have hmx9 : rdX ((rfC gh AR I AI bA rel.toNat)).2 (i + 1).toNat v_24 := by rw [show (i + 1).toNat = i.toNat + 1 by omega]; exact rdX_s hmx (by rw [← c36]; omega)
          refine lv_istore_n (lv' := [(3, .int (iI v_24)), (4, .int (iI i)), (2, .ref y_12), (0, .ref x), (1, .int (iI rel))]) F.1 F.2.1 dX6_rounds_42 rfl hl (by decide) rfl (fun ls hl => ?_)
          refine z_iinc (lv' := [(4, .int (iI (i + 1))), (3, .int (iI v_24)), (2, .ref y_12), (0, .ref x), (1, .int (iI rel))]) F dX6_rounds_43 hl (k := 1) rfl (by decide) rfl (fun ls hl => ?_)
          refine z_goto (tgt := 22) F dX6_rounds_46 (by decide) ?_
          exact ih22 v_24 (i + 1) H locs ls zv_24 ⟨by omega, by omega⟩ (by omega) hmx9 (by omega) (by omega) hH hS (lv_sub hl [0, 1, 2, 3, 4] rfl)
    exact cut_22_12 (((240 - 0) + 1 : Int).toNat) 0 0 H locs ls ⟨by decide, by decide⟩ ⟨by decide, by decide⟩ (by omega) rdX_0 (by omega) (by omega) hH hS (lv_sub hl [0, 1, 2, 3, 4] rfl)
  · refine z_iconst F dX6_rounds_8 ?_
    exact g_iret F hr hlk hH hS hz ⟨by decide, by decide⟩ ⟨rfl, rfl, rfl, rfl, rfl, rfl, Or.inl ⟨tIz_0 qrg (by omega), rfl⟩⟩ dX6_rounds_9
end
section
/-! items of a list that was read: how many, what holds of each -/
section Items2
variable {nx : Nat → Nat} {sp : Nat → Bool} {F h : Nat} {ok : Nat → Prop}
theorem iPos_s : ∀ (k t : Nat), iPos nx t (k + 1) = iPos nx (nx t + 1) k
  | 0, _ => rfl
  | k + 1, t => by rw [iPos, iPos_s k t, iPos]
theorem iAll_s (h0 : ok h) (hs : sp (nx h) = true) (hr : ∀ j, j < iCnt nx sp F (nx h + 1) → ok (iPos nx (nx h + 1) j)) : ∀ j, j < iCnt nx sp (F + 1) h → ok (iPos nx h j) := fun j hj => by
  rw [iCnt, if_pos hs] at hj
  rcases j with _ | j
  · exact h0
  · rw [iPos_s]; exact hr j (by omega)
theorem iAll_e (h0 : ok h) (hs : sp (nx h) ≠ true) : ∀ j, j < iCnt nx sp (F + 1) h → ok (iPos nx h j) := fun j hj => by
  rw [iCnt, if_neg hs] at hj
  have : j = 0 := by omega
  subst this; exact h0
theorem iEx_s {P : Nat → Prop} (hs : sp (nx h) = true) : (∃ j, j < iCnt nx sp (F + 1) h ∧ P (iPos nx h j)) ↔ P h ∨ ∃ j, j < iCnt nx sp F (nx h + 1) ∧ P (iPos nx (nx h + 1) j) := by
  rw [iCnt, if_pos hs]
  constructor
  · rintro ⟨j, hj, e⟩
    rcases j with _ | j
    · exact Or.inl e
    · rw [iPos_s] at e; exact Or.inr ⟨j, by omega, e⟩
  · rintro (e | ⟨j, hj, e⟩)
    · exact ⟨0, by omega, e⟩
    · exact ⟨j + 1, by omega, by rw [iPos_s]; exact e⟩
theorem iEx_e {P : Nat → Prop} (hs : sp (nx h) ≠ true) : (∃ j, j < iCnt nx sp (F + 1) h ∧ P (iPos nx h j)) ↔ P h := by
  rw [iCnt, if_neg hs]
  constructor
  · rintro ⟨j, hj, e⟩
    have : j = 0 := by omega
    subst this; exact e
  · intro e; exact ⟨0, by omega, e⟩
end Items2
section Lists
variable {b : tTx} {n : Nat} {c d : Int}
theorem spC_y {t : Nat} (h : pK b n t = 44) : spC b n t = true := by unfold spC; exact decide_eq_true h
theorem spC_n {t : Nat} (h : ¬ pK b n t = 44) : spC b n t ≠ true := by unfold spC; exact fun e => h (of_decide_eq_true e)
/-- a term: none or a column below c -/
def okE (b : tTx) (n : Nat) (c : Int) (t : Nat) : Prop := (teC b n t = -1 ∨ 0 ≤ teC b n t) ∧ teC b n t < c ∧ teC b n t ≤ 3
theorem sTerm_okE {k : Int} {h : Nat} (hc : 0 ≤ c) (h0 : (sTerm b n c k h).1 = 0) : okE b n c h ∧ k < 4 := by
  refine ⟨?_, sTerm_k h0⟩
  unfold sTerm at h0; unfold okE teC
  by_cases q : pK b n h = 4
  · rw [if_pos q]; omega
  · rw [if_neg q] at h0 ⊢
    by_cases q1 : pCf b n c h = 0
    · have a := pCf_0 q1
      have a2 := pV_c a.1
      omega
    · rw [if_neg q1] at h0; exact absurd h0 q1
theorem sTerms_all (hc : 0 ≤ c) : ∀ (F : Nat) (k : Int) (h : Nat), 0 ≤ k → (sTerms b n c F k h).1 = 0 → (sTerms b n c F k h).2.2 = k + ((iCnt (nxE b n) (spC b n) F h : Nat) : Int) ∧ (k + ((iCnt (nxE b n) (spC b n) F h : Nat) : Int) ≤ 4 ∧ 1 ≤ iCnt (nxE b n) (spC b n) F h) ∧ ∀ j, j < iCnt (nxE b n) (spC b n) F h → okE b n c (iPos (nxE b n) h j)
  | 0, _, _, _, e => (pr_no e (by decide)).elim
  | F + 1, k, h, hk, e => by
    rw [sTerms] at e ⊢
    by_cases q : (sTerm b n c k h).1 = 0
    · have h4 := sTerm_okE hc q
      have en := sTerm_h rfl q
      rw [thn_y (f := _) rfl q rfl] at e ⊢
      rw [en] at e ⊢
      by_cases w : pK b n (nxE b n h) = 44
      · rw [if_pos w] at e ⊢
        have r := sTerms_all hc F (k + 1) (nxE b n h + 1) (by omega) e
        have ec : iCnt (nxE b n) (spC b n) (F + 1) h = iCnt (nxE b n) (spC b n) F (nxE b n h + 1) + 1 := by rw [iCnt, if_pos (spC_y w)]
        refine ⟨by rw [r.1, ec]; omega, by rw [ec]; omega, iAll_s h4.1 (spC_y w) r.2.2⟩
      · rw [if_neg w] at e ⊢
        have ec : iCnt (nxE b n) (spC b n) (F + 1) h = 1 := by rw [iCnt, if_neg (spC_n w)]
        refine ⟨by rw [ec]; show k + 1 = _; omega, by rw [ec]; omega, iAll_e h4.1 (spC_n w)⟩
    · rw [thn_x rfl q] at e; exact absurd e q
theorem sTests_x : ∀ (F : Nat) (k : Int) (h : Nat), (sTests b n c F k h).1 = 0 → (sTests b n c F k h).2.2 = c
  | 0, _, _, e => (pr_no e (by decide)).elim
  | F + 1, k, h, e => by
    rw [sTests] at e ⊢
    by_cases q : (sTest b n c k h).1 = 0
    · rw [thn_y (f := _) rfl q rfl] at e ⊢
      by_cases w : pK b n (sTest b n c k h).2.1 = 3 ∧ pV b n (sTest b n c k h).2.1 = 11
      · rw [if_pos w] at e ⊢; exact sTests_x F _ _ e
      · rw [if_neg w]
    · rw [thn_x rfl q] at e; exact absurd e q
/-- a test: its sign -/
def okT (b : tTx) (n : Nat) (t : Nat) : Prop := (pK b n (t + 1) = 61 ∨ pK b n (t + 1) = 60 ∨ pK b n (t + 1) = 62) ∧ (pK b n (t + 2) = 4 ∨ (pK b n (t + 2) = 2 ∧ 0 ≤ pV b n (t + 2)))
theorem sTest_okT {k : Int} {h : Nat} (h0 : (sTest b n c k h).1 = 0) : okT b n h := by
  unfold sTest at h0; unfold okT
  by_cases q : pCf b n c h = 0
  · rw [if_pos q] at h0
    by_cases q1 : 8 ≤ k
    · rw [if_pos q1] at h0; exact (pr_no h0 (by decide)).elim
    · rw [if_neg q1] at h0
      by_cases q2 : pK b n (h + 1) = 61 ∨ pK b n (h + 1) = 60 ∨ pK b n (h + 1) = 62
      · rw [if_pos q2] at h0
        refine ⟨q2, ?_⟩
        by_cases q3 : pK b n (h + 2) = 4
        · exact Or.inl q3
        · rw [if_neg q3] at h0
          by_cases q4 : pCf b n c (h + 2) = 0
          · have a := pCf_0 q4; exact Or.inr ⟨a.1, (pV_c a.1).1⟩
          · rw [if_neg q4] at h0; exact absurd h0 q4
      · rw [if_neg q2] at h0; exact (pr_no h0 (by decide)).elim
  · rw [if_neg q] at h0; exact absurd h0 q
theorem spA_y {t : Nat} (h : pK b n t = 3 ∧ pV b n t = 11) : spA b n t = true := by unfold spA; exact decide_eq_true h
theorem spA_n {t : Nat} (h : ¬ (pK b n t = 3 ∧ pV b n t = 11)) : spA b n t ≠ true := by unfold spA; exact fun e => h (of_decide_eq_true e)
theorem sTests_all : ∀ (F : Nat) (k : Int) (h : Nat), (sTests b n c F k h).1 = 0 → ∀ j, j < iCnt nxT (spA b n) F h → okT b n (iPos nxT h j)
  | 0, _, _, e => (pr_no e (by decide)).elim
  | F + 1, k, h, e => by
    rw [sTests] at e
    by_cases q : (sTest b n c k h).1 = 0
    · have h4 := sTest_okT q
      have en := sTest_h rfl q
      rw [thn_y (f := _) rfl q rfl, en] at e
      by_cases w : pK b n (nxT h) = 3 ∧ pV b n (nxT h) = 11
      · rw [if_pos w] at e
        exact iAll_s h4 (spA_y w) (sTests_all F (k + 1) (nxT h + 1) e)
      · exact iAll_e h4 (spA_n w)
    · rw [thn_x rfl q] at e; exact absurd e q
/-- a pair -/
def okP (b : tTx) (n : Nat) (c d : Int) (t : Nat) : Prop := 0 ≤ pV b n t ∧ pV b n t < c ∧ 0 ≤ pV b n (t + 2) ∧ pV b n (t + 2) < d ∧ pV b n t ≤ 3 ∧ pV b n (t + 2) ≤ 3
theorem sPair_okP {k lim : Int} {h : Nat} (h0 : (sPair b n c d k lim h).1 = 0) : okP b n c d h := by
  unfold sPair at h0; unfold okP
  by_cases q : pCf b n c h = 0
  · have a := pCf_0 q
    have a2 := pV_c a.1
    rw [if_pos q] at h0
    by_cases q1 : lim ≤ k
    · rw [if_pos q1] at h0; exact (pr_no h0 (by decide)).elim
    · rw [if_neg q1] at h0
      by_cases q2 : (sTk b n 61 (h + 1)).1 = 0
      · have e2 := sTk_h rfl q2
        rw [thn_y (f := fun t _ => if pCf b n d t = 0 then (0, t + 1, pV b n t) else (pCf b n d t, t, 0)) rfl q2 rfl, e2] at h0
        by_cases q3 : pCf b n d (h + 1 + 1) = 0
        · have g := pCf_0 q3
          have g2 := pV_c g.1
          exact ⟨a2.1, a.2, g2.1, g.2, a2.2, g2.2⟩
        · rw [if_neg q3] at h0; exact absurd h0 q3
      · rw [thn_x rfl q2] at h0; exact absurd h0 q2
  · rw [if_neg q] at h0; exact absurd h0 q
theorem sPairs_all : ∀ (F : Nat) (k : Int) (L : List Int) (h : Nat), (sPairs b n c d F k L h).1 = 0 → (∃ L' : List Int, (sPairs b n c d F k L h).2.2 = c + jC L' d.toNat ∧ ∀ x, x ∈ L' ↔ x ∈ L ∨ ∃ j, j < iCnt nxT (spC b n) F h ∧ pV b n (iPos nxT h j + 2) = x) ∧ ∀ j, j < iCnt nxT (spC b n) F h → okP b n c d (iPos nxT h j)
  | 0, _, _, _, e => (pr_no e (by decide)).elim
  | F + 1, k, L, h, e => by
    rw [sPairs] at e ⊢
    by_cases q : (sPair b n c d k 4 h).1 = 0
    · have h4 := sPair_okP q
      have en := sPair_h rfl q
      rw [thn_y (f := _) rfl q rfl] at e ⊢
      rw [en.1, en.2] at e ⊢
      by_cases w : pK b n (nxT h) = 44
      · rw [if_pos w] at e ⊢
        obtain ⟨⟨L', r1, r2⟩, r3⟩ := sPairs_all F (k + 1) (pV b n (h + 2) :: L) (nxT h + 1) e
        refine ⟨⟨L', r1, fun x => ?_⟩, iAll_s h4 (spC_y w) r3⟩
        rw [r2 x, iEx_s (P := fun t => pV b n (t + 2) = x) (spC_y w), List.mem_cons]
        constructor
        · rintro ((u | u) | u)
          · exact Or.inr (Or.inl u.symm)
          · exact Or.inl u
          · exact Or.inr (Or.inr u)
        · rintro (u | u | u)
          · exact Or.inl (Or.inr u)
          · exact Or.inl (Or.inl u.symm)
          · exact Or.inr u
      · rw [if_neg w] at e ⊢
        refine ⟨⟨pV b n (h + 2) :: L, rfl, fun x => ?_⟩, iAll_e h4 (spC_n w)⟩
        rw [iEx_e (P := fun t => pV b n (t + 2) = x) (spC_n w), List.mem_cons]
        constructor
        · rintro (u | u)
          · exact Or.inr u.symm
          · exact Or.inl u
        · rintro (u | u)
          · exact Or.inr u
          · exact Or.inl u.symm
    · rw [thn_x rfl q] at e; exact absurd e q
theorem sBys_all : ∀ (F : Nat) (k : Int) (L : List Int) (h : Nat), 0 ≤ k → (sBys b n c F k L h).1 = 0 → (sBys b n c F k L h).2.2 = k + ((iCnt nxB (spC b n) F h : Nat) : Int) ∧ (k + ((iCnt nxB (spC b n) F h : Nat) : Int) ≤ 3 ∧ 1 ≤ iCnt nxB (spC b n) F h) ∧ (sBys b n c F k L h).2.1 = nxB (iPos nxB h (iCnt nxB (spC b n) F h - 1))
  | 0, _, _, _, _, e => (pr_no e (by decide)).elim
  | F + 1, k, L, h, hk, e => by
    rw [sBys] at e ⊢
    by_cases q : (sBy b n c k L h).1 = 0
    · have h4 := sBy_k q
      have en := sBy_h rfl q
      rw [thn_y (f := _) rfl q rfl] at e ⊢
      rw [en.1, en.2] at e ⊢
      by_cases w : pK b n (nxB h) = 44
      · rw [if_pos w] at e ⊢
        obtain ⟨r1, r2, r3⟩ := sBys_all F (k + 1) (pV b n h :: L) (nxB h + 1) (by omega) e
        have ec : iCnt nxB (spC b n) (F + 1) h = iCnt nxB (spC b n) F (nxB h + 1) + 1 := by rw [iCnt, if_pos (spC_y w)]
        refine ⟨by rw [r1, ec]; omega, by rw [ec]; omega, ?_⟩
        rw [r3, ec, show iCnt nxB (spC b n) F (nxB h + 1) + 1 - 1 = (iCnt nxB (spC b n) F (nxB h + 1) - 1) + 1 by omega, iPos_s]
      · rw [if_neg w] at e ⊢
        have ec : iCnt nxB (spC b n) (F + 1) h = 1 := by rw [iCnt, if_neg (spC_n w)]
        refine ⟨by rw [ec]; show k + 1 = _; omega, by rw [ec]; omega, by rw [ec]; rfl⟩
    · rw [thn_x rfl q] at e; exact absurd e q
end Lists
end
section
/-! a line that was read, by tokens alone -/
section Cong
variable {b : tTx} {n r : Nat} {nt nt' : Nat → Nat} {cl cl' : Nat → Int}
theorem pFd_cg (e : ∀ u, u < r → nt' u = nt u) (h : Nat) : pFd b n nt' r h = pFd b n nt r h := pFd_c r 0 (fun u _ hu => e u (by omega))
theorem pFd_r (h : Nat) : pFd b n nt r h < (r : Int) := by have := pFd_lt (b := b) (n := n) (h := h) (nt := nt) r 0; unfold pFd; omega
theorem pRf_cg (e : ∀ u, u < r → nt' u = nt u) (h : Nat) : pRf b n nt' r h = pRf b n nt r h := by unfold pRf; rw [pFd_cg e]
theorem cF_cg (e : ∀ u, u < r → nt' u = nt u) (e2 : ∀ u, u < r → cl' u = cl u) {h : Nat} (k : pRf b n nt r h = 0) : cF b n r nt' cl' h = cF b n r nt cl h := by
  unfold cF
  have a := (pRf_i k).2
  have c := pFd_r (b := b) (n := n) (r := r) (nt := nt) h
  rw [pFd_cg e, e2 _ (by omega)]
theorem sRl_cg (e : ∀ u, u < r → nt' u = nt u) (e2 : ∀ u, u < r → cl' u = cl u) : sRl b n r nt' cl' = sRl b n r nt cl := funext fun h => by
  unfold sRl
  rw [pRf_cg e]
  by_cases k : pRf b n nt r h = 0
  · rw [if_pos k, if_pos k, cF_cg e e2 k]
  · rw [if_neg k, if_neg k]
theorem sTwo_cg (e : ∀ u, u < r → nt' u = nt u) (e2 : ∀ u, u < r → cl' u = cl u) (h : Nat) : sTwo b n r nt' cl' h = sTwo b n r nt cl h := by
  unfold sTwo
  rw [sRl_cg e e2]
  refine thn_cg (fun _ => ?_)
  show (if pRf b n nt' r _ = 0 then _ else _) = (if pRf b n nt r _ = 0 then _ else _)
  rw [pRf_cg e]
  by_cases k : pRf b n nt r (sRl b n r nt cl h).2.1 = 0
  · rw [if_pos k, if_pos k, cF_cg e e2 k]
  · rw [if_neg k, if_neg k]
theorem sBody_cg (e : ∀ u, u < r → nt' u = nt u) (e2 : ∀ u, u < r → cl' u = cl u) (kd : Int) (h : Nat) : sBody b n r nt' cl' kd h = sBody b n r nt cl kd h := by
  unfold sBody sSel sPrj sJoi sGrp sRng
  rw [sRl_cg e e2, sTwo_cg e e2]
end Cong
/-- a line that was read: its kind, its body, its end -/
def bTk (b : tTx) (n t : Nat) : Nat := if kdT b n t = 0 then t + 1 else t + 3
def LG (b : tTx) (n : Nat) (nt : Nat → Nat) (cl : Nat → Int) (r : Nat) : Prop :=
  (0 ≤ kdT b n (nt r) ∧ kdT b n (nt r) ≤ 8) ∧ (sBody b n r nt cl (kdT b n (nt r)) (bTk b n (nt r))).1 = 0 ∧ (sBody b n r nt cl (kdT b n (nt r)) (bTk b n (nt r))).2.2 = cl r ∧ cl r ≤ 4
theorem LG_cg {b : tTx} {n r : Nat} {nt nt' : Nat → Nat} {cl cl' : Nat → Int} (e : ∀ u, u ≤ r → nt' u = nt u) (e2 : ∀ u, u ≤ r → cl' u = cl u) (h : LG b n nt cl r) : LG b n nt' cl' r := by
  unfold LG at h ⊢
  rw [e r (Nat.le_refl _), e2 r (Nat.le_refl _), sBody_cg (fun u hu => e u (by omega)) (fun u hu => e2 u (by omega))]
  exact h
/-! a fault's kind is never below 0 -/
section Ge
variable {b : tTx} {n nr h : Nat} {nt : Nat → Nat} {cl : Nat → Int} {tb c d k lim x : Int} {L : List Int}
theorem thn_ge {r : pR} {f : Nat → Int → pR} (h : 0 ≤ r.1) (k : ∀ t v, 0 ≤ (f t v).1) : 0 ≤ (thn r f).1 := by
  by_cases q : r.1 = 0
  · rw [thn_y (f := f) rfl q rfl]; exact k _ _
  · rw [thn_x (f := f) rfl q]; exact h
theorem pRf_ge : 0 ≤ pRf b n nt nr h := by unfold pRf; (repeat' split) <;> (try dsimp only) <;> omega
theorem sTk_ge : 0 ≤ (sTk b n k h).1 := by unfold sTk; (repeat' split) <;> (try dsimp only) <;> omega
theorem sTw_ge : 0 ≤ (sTw b n k h).1 := by unfold sTw; (repeat' split) <;> (try dsimp only) <;> omega
theorem sRl_ge : 0 ≤ (sRl b n nr nt cl h).1 := by unfold sRl; split; (· (try dsimp only); omega); (· exact pRf_ge)
theorem sTest_ge : 0 ≤ (sTest b n c k h).1 := by unfold sTest; (repeat' split) <;> first | exact pCf_r.1 | ((try dsimp only); omega)
theorem sTests_ge : ∀ (F : Nat) (k : Int) (h : Nat), 0 ≤ (sTests b n c F k h).1
  | 0, _, _ => by show (0 : Int) ≤ 4; decide
  | F + 1, k, h => by
    rw [sTests]
    refine thn_ge sTest_ge (fun t v => ?_)
    split
    · exact sTests_ge F _ _
    · (try dsimp only); omega
theorem sTerm_ge : 0 ≤ (sTerm b n c k h).1 := by unfold sTerm; (repeat' split) <;> first | exact pCf_r.1 | ((try dsimp only); omega)
theorem sTerms_ge : ∀ (F : Nat) (k : Int) (h : Nat), 0 ≤ (sTerms b n c F k h).1
  | 0, _, _ => by show (0 : Int) ≤ 4; decide
  | F + 1, k, h => by
    rw [sTerms]
    refine thn_ge sTerm_ge (fun t v => ?_)
    split
    · exact sTerms_ge F _ _
    · (try dsimp only); omega
theorem sPair_ge : 0 ≤ (sPair b n c d k lim h).1 := by
  unfold sPair
  split
  · split
    · (try dsimp only); omega
    · refine thn_ge sTk_ge (fun t v => ?_)
      split
      · (try dsimp only); omega
      · exact pCf_r.1
  · exact pCf_r.1
theorem sPairs_ge : ∀ (F : Nat) (k : Int) (L : List Int) (h : Nat), 0 ≤ (sPairs b n c d F k L h).1
  | 0, _, _, _ => by show (0 : Int) ≤ 4; decide
  | F + 1, k, L, h => by
    rw [sPairs]
    refine thn_ge sPair_ge (fun t v => ?_)
    split
    · exact sPairs_ge F _ _ _
    · (try dsimp only); omega
theorem sBy_ge : 0 ≤ (sBy b n c k L h).1 := by unfold sBy; (repeat' split) <;> first | exact pCf_r.1 | ((try dsimp only); omega)
theorem sBys_ge : ∀ (F : Nat) (k : Int) (L : List Int) (h : Nat), 0 ≤ (sBys b n c F k L h).1
  | 0, _, _, _ => by show (0 : Int) ≤ 4; decide
  | F + 1, k, L, h => by
    rw [sBys]
    refine thn_ge sBy_ge (fun t v => ?_)
    split
    · exact sBys_ge F _ _ _
    · (try dsimp only); omega
theorem sFo_ge : 0 ≤ (sFo b n c x h).1 := by unfold sFo; (repeat' split) <;> first | exact pCf_r.1 | ((try dsimp only); omega)
theorem sTc_ge : 0 ≤ (sTc b n h).1 := by unfold sTc; (repeat' split) <;> (try dsimp only) <;> omega
theorem sClo_ge : 0 ≤ (sClo b n x h).1 := by unfold sClo; (repeat' split) <;> (try dsimp only) <;> omega
theorem sNam_ge : 0 ≤ (sNam b n nr nt h).1 := by unfold sNam; (repeat' split) <;> (try dsimp only) <;> omega
theorem sVk_ge : 0 ≤ (sVk b n h).1 := by
  unfold sVk
  refine thn_ge sTk_ge (fun t v => ?_)
  split <;> ((try dsimp only); omega)
theorem sTwo_ge : 0 ≤ (sTwo b n nr nt cl h).1 := by
  unfold sTwo
  refine thn_ge sRl_ge (fun t v => ?_)
  split
  · split <;> ((try dsimp only); omega)
  · exact pRf_ge
theorem sBody_ge : 0 ≤ (sBody b n nr nt cl k h).1 := by
  unfold sBody
  split
  · exact thn_ge sRl_ge (fun _ _ => thn_ge sTw_ge (fun _ _ => sTests_ge _ _ _))
  · split
    · exact thn_ge sRl_ge (fun _ _ => sTerms_ge _ _ _)
    · split
      · exact thn_ge sRl_ge (fun _ _ => thn_ge sRl_ge (fun _ _ => thn_ge sTw_ge (fun _ _ => sPairs_ge _ _ _ _)))
      · split
        · exact sTwo_ge
        · split
          · exact sRl_ge
          · split
            · exact thn_ge sRl_ge (fun _ _ => thn_ge sTw_ge (fun _ _ => thn_ge (sBys_ge _ _ _ _) (fun _ _ => sFo_ge)))
            · split
              · exact thn_ge sRl_ge (fun _ _ => thn_ge sTw_ge (fun _ _ => thn_ge sRl_ge (fun _ _ => thn_ge sTw_ge (fun _ _ => thn_ge sPair_ge (fun _ _ => thn_ge sTw_ge (fun _ _ => thn_ge (sTerms_ge _ _ _) (fun _ _ => by show (0 : Int) ≤ 0; decide)))))))
              · exact sTc_ge
theorem sHd_ge : 0 ≤ (sHd b n nr nt tb h).1 := by
  unfold sHd
  split
  · split
    · (try dsimp only); omega
    · split
      · (try dsimp only); omega
      · exact sNam_ge
  · split
    · split
      · (try dsimp only); omega
      · exact thn_ge sNam_ge (fun _ _ => sVk_ge)
    · (try dsimp only); omega
theorem sLine_ge : 0 ≤ (sLine b n nr nt cl tb h).1 := thn_ge sHd_ge (fun _ _ => thn_ge sBody_ge (fun _ _ => sClo_ge))
end Ge
section Line
variable {b : tTx} {n nr h : Nat} {nt : Nat → Nat} {cl : Nat → Int} {tb : Int}
theorem sNam_h (h0 : (sNam b n nr nt h).1 = 0) : (sNam b n nr nt h).2.1 = h + 1 := by
  unfold sNam at h0 ⊢
  by_cases k : pK b n h = 3 ∧ pV b n h = -1
  · rw [if_pos k] at h0 ⊢
    by_cases q : pFd b n nt nr h = -1
    · rw [if_pos q]
    · rw [if_neg q] at h0; exact (pr_no h0 (by decide)).elim
  · rw [if_neg k] at h0; exact (pr_no h0 (by decide)).elim
theorem sVk_h (h0 : (sVk b n h).1 = 0) : (sVk b n h).2.1 = h + 2 ∧ (sVk b n h).2.2 = pV b n (h + 1) ∧ 1 ≤ pV b n (h + 1) ∧ pV b n (h + 1) ≤ 8 := by
  unfold sVk at h0 ⊢
  by_cases k : (sTk b n 61 h).1 = 0
  · have e := sTk_h rfl k
    rw [thn_y (f := _) rfl k rfl] at h0 ⊢
    rw [e] at h0 ⊢
    by_cases q : pK b n (h + 1) = 3 ∧ 1 ≤ pV b n (h + 1) ∧ pV b n (h + 1) ≤ 8
    · rw [if_pos q]; exact ⟨rfl, rfl, q.2⟩
    · rw [if_neg q] at h0; exact (pr_no h0 (by decide)).elim
  · rw [thn_x rfl k] at h0; exact absurd h0 k
/-- the head of a line: kind, where its body begins; tables ahead of views -/
theorem sHd_h (h0 : (sHd b n nr nt tb h).1 = 0) : (sHd b n nr nt tb h).2.2 = kdT b n (h + 1) ∧ (sHd b n nr nt tb h).2.1 = bTk b n (h + 1) ∧ (0 ≤ kdT b n (h + 1) ∧ kdT b n (h + 1) ≤ 8) ∧ ((pK b n h = 3 ∧ pV b n h = 0) ↔ kdT b n (h + 1) = 0) ∧ (kdT b n (h + 1) = 0 → ¬ tb < (nr : Int)) := by
  unfold sHd at h0 ⊢
  by_cases k : pK b n h = 3 ∧ pV b n h = 0
  · have ek : kdT b n (h + 1) = 0 := kdT_t k.2
    have eb : bTk b n (h + 1) = h + 1 + 1 := if_pos ek
    rw [if_pos k] at h0 ⊢
    by_cases q : 16 ≤ nr
    · rw [if_pos q] at h0; exact (pr_no h0 (by decide)).elim
    · rw [if_neg q] at h0 ⊢
      by_cases m : tb < (nr : Int)
      · rw [if_pos m] at h0; exact (pr_no h0 (by decide)).elim
      · rw [if_neg m] at h0 ⊢
        rw [sNam_x h0, sNam_h h0, ek, eb]
        exact ⟨rfl, rfl, by decide, ⟨fun _ => rfl, fun _ => k⟩, fun _ => m⟩
  · rw [if_neg k] at h0 ⊢
    by_cases k2 : pK b n h = 3 ∧ pV b n h = 9
    · have ek : kdT b n (h + 1) = pV b n (h + 3) := kdT_v (by omega)
      rw [if_pos k2] at h0 ⊢
      by_cases q : 16 ≤ nr
      · rw [if_pos q] at h0; exact (pr_no h0 (by decide)).elim
      · rw [if_neg q] at h0 ⊢
        by_cases m : (sNam b n nr nt (h + 1)).1 = 0
        · have e1 := sNam_h m
          rw [thn_y (f := fun t _ => sVk b n t) rfl m rfl, e1] at h0 ⊢
          obtain ⟨v1, v2, v3, v4⟩ := sVk_h h0
          have eb : bTk b n (h + 1) = h + 1 + 3 := if_neg (by rw [ek]; show ¬ pV b n (h + 3) = 0; have : pV b n (h + 1 + 1 + 1) = pV b n (h + 3) := rfl; omega)
          rw [v1, v2, ek, eb]
          exact ⟨rfl, rfl, ⟨by show 0 ≤ pV b n (h + 1 + 1 + 1); omega, v4⟩, ⟨fun e => absurd e k, fun e => absurd e (by show ¬ pV b n (h + 1 + 1 + 1) = 0; omega)⟩, fun e => absurd e (by show ¬ pV b n (h + 1 + 1 + 1) = 0; omega)⟩
        · rw [thn_x rfl m] at h0; exact absurd h0 m
    · rw [if_neg k2] at h0; exact (pr_no h0 (by decide)).elim
theorem sClo_h {x : Int} (h0 : (sClo b n x h).1 = 0) : (sClo b n x h).2.2 = x ∧ x ≤ 4 ∧ (sClo b n x h).2.1 = h + 1 := by
  unfold sClo at h0 ⊢
  by_cases k : pK b n h = 59
  · rw [if_pos k] at h0 ⊢
    by_cases q : 4 < x
    · rw [if_pos q] at h0; exact (pr_no h0 (by decide)).elim
    · rw [if_neg q]; exact ⟨rfl, by omega, rfl⟩
  · rw [if_neg k] at h0; exact (pr_no h0 (by decide)).elim
theorem sLine_LG (h0 : (sLine b n nr nt cl tb h).1 = 0) : LG b n (sUp nt nr (h + 1)) (sUp cl nr (sLine b n nr nt cl tb h).2.2) nr ∧ ((pK b n h = 3 ∧ pV b n h = 0) ↔ kdT b n (h + 1) = 0) ∧ (kdT b n (h + 1) = 0 → ¬ tb < (nr : Int)) := by
  have ex : sLine b n nr nt cl tb h = thn (sHd b n nr nt tb h) fun t kd => thn (sBody b n nr nt cl kd t) fun t x => sClo b n x t := rfl
  by_cases k : (sHd b n nr nt tb h).1 = 0
  · obtain ⟨a1, a2, a3, a4, a5⟩ := sHd_h k
    refine ⟨?_, a4, a5⟩
    rw [thn_y (f := fun t kd => thn (sBody b n nr nt cl kd t) fun t x => sClo b n x t) rfl k rfl, a1, a2] at ex
    by_cases q : (sBody b n nr nt cl (kdT b n (h + 1)) (bTk b n (h + 1))).1 = 0
    · rw [thn_y (f := fun t x => sClo b n x t) rfl q rfl] at ex
      rw [ex] at h0 ⊢
      obtain ⟨c1, c2, _⟩ := sClo_h h0
      unfold LG
      rw [sUp_s, sUp_s, sBody_cg (fun u hu => sUp_k (by omega)) (fun u hu => sUp_k (by omega)), c1]
      exact ⟨a3, q, rfl, c2⟩
    · rw [thn_x (f := fun t x => sClo b n x t) rfl q] at ex
      rw [ex] at h0; exact absurd h0 q
  · rw [thn_x rfl k] at ex
    rw [ex] at h0; exact absurd h0 k
/-- tables ahead of views; of lines so far -/
def tbO (b : tTx) (n : Nat) (nt : Nat → Nat) (tb : Int) (nr : Nat) : Prop := 0 ≤ tb ∧ tb ≤ (nr : Int) ∧ ∀ r, r < nr → (kdT b n (nt r) = 0 ↔ (r : Int) < tb)
theorem sPar_LG : ∀ (F nr : Nat) (nt : Nat → Nat) (cl : Nat → Int) (tb : Int) (h : Nat), (∀ r, r < nr → LG b n nt cl r) → tbO b n nt tb nr → (sPar b n F nr nt cl tb h).1 = 0 →
    (sPar b n F nr nt cl tb h).2 = (sParF b n F nr nt cl tb h).1 ∧ (∀ r, r < (sParF b n F nr nt cl tb h).1 → LG b n (sParF b n F nr nt cl tb h).2.1 (sParF b n F nr nt cl tb h).2.2.1 r) ∧ tbO b n (sParF b n F nr nt cl tb h).2.1 (sParF b n F nr nt cl tb h).2.2.2 (sParF b n F nr nt cl tb h).1
  | 0, _, _, _, _, _, hl, ht, _ => ⟨rfl, hl, ht⟩
  | F + 1, nr, nt, cl, tb, h, hl, ht, e => by
    rw [sPar] at e ⊢
    rw [sParF]
    by_cases k : pK b n h = 0
    · rw [if_pos k, if_pos k]; exact ⟨rfl, hl, ht⟩
    · rw [if_neg k] at e ⊢
      rw [if_neg k]
      by_cases q : (sLine b n nr nt cl tb h).1 = 0
      · rw [if_pos q] at e ⊢
        rw [if_pos q]
        obtain ⟨g1, g2, g3⟩ := sLine_LG q
        refine sPar_LG F _ _ _ _ _ (fun r hr => ?_) ?_ e
        · by_cases m : r = nr
          · subst m; exact g1
          · exact LG_cg (fun u hu => sUp_k (by omega)) (fun u hu => sUp_k (by omega)) (hl r (by omega))
        · obtain ⟨t0, t1, t2⟩ := ht
          by_cases w : pK b n h = 3 ∧ pV b n h = 0
          · rw [if_pos w]
            have := g3 (g2.mp w)
            refine ⟨by omega, by omega, fun r hr => ?_⟩
            by_cases m : r = nr
            · subst m; rw [sUp_s]; exact ⟨fun _ => by omega, fun _ => g2.mp w⟩
            · rw [sUp_k m]; have := t2 r (by omega); omega
          · rw [if_neg w]
            refine ⟨t0, by omega, fun r hr => ?_⟩
            by_cases m : r = nr
            · subst m; rw [sUp_s]; exact ⟨fun z => absurd (g2.mpr z) w, fun z => by omega⟩
            · rw [sUp_k m]; exact t2 r (by omega)
      · rw [if_neg q] at e
        have q0 := sLine_ge (b := b) (n := n) (nr := nr) (nt := nt) (cl := cl) (tb := tb) (h := h)
        exact absurd e (by show ¬ 8 * (tPs b n (sLine b n nr nt cl tb h).2.1 : Int) + (sLine b n nr nt cl tb h).1 = 0; omega)
end Line
end
