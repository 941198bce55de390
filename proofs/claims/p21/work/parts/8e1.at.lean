section
def rmX6_tupleCellf : Room := { frames := 6, cells := 1, slots := 6, locals := 82 }
set_option maxHeartbeats 4000000 in
set_option maxRecDepth 100000 in
/-- a cell of a tuple -/
theorem c_X6_tupleCellf (l : Launch) (g : gG) (gh : gGh) (n : Nat) (I : gI) (R : gR) (J : gJ) (AI : gI) (AJ : gJ) (AR : gR) (a : Nat) (cl : Int) (row : Int) (place : Int) (zcl : zr cl) (zrow : zr row) (zplace : zr place) (hv : gInv g gh R AR I AI) (ha : gO g a 4) (hcl : cl ≤ 6) (hn9 : (I a 3).toInt = (n : Int)) (h49 : gh 2 a = 4) (hst : l.stackTraces = false) : gMetX l g yX6_tupleCell tsX6_tupleCell rmX6_tupleCellf [.ref a, .int (iI cl), .int (iI row), .int (iI place)] (I, R, J, AI, AJ, AR) (gQi g (fun (z : Int) (w : gS) => I = w.1 ∧ R = w.2.1 ∧ J = w.2.2.1 ∧ AI = w.2.2.2.1 ∧ AJ = w.2.2.2.2.1 ∧ AR = w.2.2.2.2.2 ∧ (((0 ≤ row ∧ row < (n : Int)) ∧ (place = 4 ∨ (0 ≤ place ∧ place < cl))) ∧ z = (AI (gh 0 a) (6 * row.toNat + place.toNat)).toInt))) (fun w : gS => I = w.1 ∧ R = w.2.1 ∧ J = w.2.2.1 ∧ AI = w.2.2.2.1 ∧ AJ = w.2.2.2.2.1 ∧ AR = w.2.2.2.2.2 ∧ (¬ ((0 ≤ row ∧ row < (n : Int)) ∧ (place = 4 ∨ (0 ≤ place ∧ place < cl))))) := by
  refine gStartX (cc := cX6_tupleCell) (maxL := 4) (ret := (some (.int))) (by decide) rfl (Nat.le_of_ble_eq_true rfl) ?_
  intro p e s m below meth c ls F hr hlk hH hz hS hxt hTh hl
  have hl : lv_has ls 4 [(0, .ref a), (1, .int (iI cl)), (2, .int (iI row)), (3, .int (iI place))] := hl
  have hS : va_S (gA g) s.heap s.heap [] := hS
  obtain ⟨H, hHe⟩ : ∃ H : Heap, H = s.heap := ⟨_, rfl⟩
  obtain ⟨locs, hlo⟩ : ∃ k : List Loc, k = [] := ⟨_, rfl⟩
  have hH : gH g I R J AI AJ AR H := by rw [hHe]; exact hH
  have hS : va_S (gA g) s.heap H locs := by rw [hHe, hlo]; exact hS
  suffices hw : W p l e rmX6_tupleCellf s m ([.ref a, .int (iI cl), .int (iI row), .int (iI place)] : List Value).toArray below meth c H locs 0 0 (vx_MQ below (gQi g (fun (z : Int) (w : gS) => I = w.1 ∧ R = w.2.1 ∧ J = w.2.2.1 ∧ AI = w.2.2.2.1 ∧ AJ = w.2.2.2.2.1 ∧ AR = w.2.2.2.2.2 ∧ (((0 ≤ row ∧ row < (n : Int)) ∧ (place = 4 ∨ (0 ≤ place ∧ place < cl))) ∧ z = (AI (gh 0 a) (6 * row.toNat + place.toNat)).toInt))) (vx_X (fun w : gS => I = w.1 ∧ R = w.2.1 ∧ J = w.2.2.1 ∧ AI = w.2.2.2.1 ∧ AJ = w.2.2.2.2.1 ∧ AR = w.2.2.2.2.2 ∧ (¬ ((0 ≤ row ∧ row < (n : Int)) ∧ (place = 4 ∨ (0 ≤ place ∧ place < cl))))) (gBX g) (gA g)) ([.ref a, .int (iI cl), .int (iI row), .int (iI place)] : List Value).toArray s 1 6 (gA g)) (F0 m 0 ls []) by
    rw [hHe, hlo] at hw; exact hw
  clear hHe hlo
  have hrl := gI_rows hv ha
  have iX4 : ∀ w ∈ u_ws RX4 TX4 4, w ∈ tsX6_tupleCell := fun w h => List.mem_cons_of_mem _ (inTB4 w h)
  have k99 : Cond.fieldLink RX6 99 (TX4 3).1 (TX4 3).2.1 (TX4 3).2.2.1 ∈ tsX6_tupleCell := List.mem_cons_of_mem _ (TBm (tk1 (List.mem_of_getElem? (i := 217) rfl)) rfl)
  refine lv_iload_n F.1 F.2.1 dX6_tupleCell_0 rfl (lv_at hl 2 rfl) ?_
  refine z_if_lt (tgt := 12) F dX6_tupleCell_1 (by decide) zrow (fun c_1 => ?_) (fun c_1 => ?_)
  · exact g_throw F hTh hst hH hS hz hxt hlk hl.1 (i := 5) rfl (fun w h => List.mem_cons_of_mem _ h) dX6_tupleCell_12 dX6_tupleCell_15 dX6_tupleCell_16 dX6_tupleCell_18 dX6_tupleCell_21 (Nat.le_of_ble_eq_true rfl) (Nat.le_of_ble_eq_true rfl) (Nat.le_refl _) (Nat.le_refl _) ⟨rfl, rfl, rfl, rfl, rfl, rfl, by rintro ⟨h8, h7⟩; omega⟩
  · refine lv_iload_n F.1 F.2.1 dX6_tupleCell_4 rfl (lv_at hl 2 rfl) ?_
    refine lv_aload_n F.1 F.2.1 dX6_tupleCell_5 rfl (lv_at hl 0 rfl) ?_
    refine g_getI (ci := 4) (k := 3) F hH rfl (by decide) iX4 ha (by decide) rfl k99 dX6_tupleCell_6 ?_
    obtain ⟨b_2a, b_2b, b_2c, b_2d, b_2e, b_2f, b_2g, b_2h⟩ := gI_rows hv ha
    refine z_icmp_lt (tgt := 22) F dX6_tupleCell_9 (by decide) zrow (zr_t _) (fun c_3 => ?_) (fun c_3 => ?_)
    · refine lv_iload_n F.1 F.2.1 dX6_tupleCell_22 rfl (lv_at hl 3 rfl) ?_
      refine z_iconst F dX6_tupleCell_23 ?_
      refine z_icmp_ne (tgt := 33) F dX6_tupleCell_24 (by decide) zplace ⟨by decide, by decide⟩ (fun c_4 => ?_) (fun c_4 => ?_)
      · refine lv_iload_n F.1 F.2.1 dX6_tupleCell_33 rfl (lv_at hl 3 rfl) ?_
        refine z_if_lt (tgt := 42) F dX6_tupleCell_34 (by decide) zplace (fun c_5 => ?_) (fun c_5 => ?_)
        · exact g_throw F hTh hst hH hS hz hxt hlk hl.1 (i := 3) rfl (fun w h => List.mem_cons_of_mem _ h) dX6_tupleCell_42 dX6_tupleCell_45 dX6_tupleCell_46 dX6_tupleCell_48 dX6_tupleCell_51 (Nat.le_of_ble_eq_true rfl) (Nat.le_of_ble_eq_true rfl) (Nat.le_refl _) (Nat.le_refl _) ⟨rfl, rfl, rfl, rfl, rfl, rfl, by rintro ⟨h8, h7⟩; omega⟩
        · refine lv_iload_n F.1 F.2.1 dX6_tupleCell_37 rfl (lv_at hl 3 rfl) ?_
          refine lv_iload_n F.1 F.2.1 dX6_tupleCell_38 rfl (lv_at hl 1 rfl) ?_
          refine z_icmp_lt (tgt := 52) F dX6_tupleCell_39 (by decide) zplace zcl (fun c_6 => ?_) (fun c_6 => ?_)
          · refine lv_aload_n F.1 F.2.1 dX6_tupleCell_52 rfl (lv_at hl 0 rfl) ?_
            refine lv_iload_n F.1 F.2.1 dX6_tupleCell_53 rfl (lv_at hl 2 rfl) ?_
            refine lv_iload_n F.1 F.2.1 dX6_tupleCell_54 rfl (lv_at hl 3 rfl) ?_
            refine g_calli (g_runV (As := [.int (iI row), .int (iI place)]) (rest := []) (ci := 4) F hl.1 hH hS hz (c_X4_cell l g gh I R J AI AJ AR a row place zrow zplace hv ha (by omega) (by omega) (by omega) (by omega)) (cwV 2 F.2.2.2.2.1 (good_up gTB_X6_tupleCell_X4_cell) rfl rfl rfl hdX4_cell ⟨Nat.le_of_ble_eq_true rfl, Nat.le_of_ble_eq_true rfl⟩) ha (by decide) rfl rfl rfl (Nat.le_of_ble_eq_true rfl) dX6_tupleCell_55 ⟨Nat.zero_le _, Nat.zero_le _⟩) hS (fun v_13 I_7 R_8 J_9 AI_10 AJ_11 AR_12 H locs zv_13 hp_14 hH hS => ?_)
            dsimp only at hp_14
            obtain ⟨rfl, rfl, rfl, rfl, rfl, rfl, qce⟩ := hp_14
            exact g_iretX F hr hlk hH hS hz zv_13 ⟨rfl, rfl, rfl, rfl, rfl, rfl, ⟨by omega, by (try dsimp only); first | (rw [qam]; congr 2; omega) | (rw [qce]; congr 2; omega)⟩⟩ (by decide) (by decide) dX6_tupleCell_58
          · exact g_throw F hTh hst hH hS hz hxt hlk hl.1 (i := 3) rfl (fun w h => List.mem_cons_of_mem _ h) dX6_tupleCell_42 dX6_tupleCell_45 dX6_tupleCell_46 dX6_tupleCell_48 dX6_tupleCell_51 (Nat.le_of_ble_eq_true rfl) (Nat.le_of_ble_eq_true rfl) (Nat.le_refl _) (Nat.le_refl _) ⟨rfl, rfl, rfl, rfl, rfl, rfl, by rintro ⟨h8, h7⟩; omega⟩
      · refine lv_aload_n F.1 F.2.1 dX6_tupleCell_27 rfl (lv_at hl 0 rfl) ?_
        refine lv_iload_n F.1 F.2.1 dX6_tupleCell_28 rfl (lv_at hl 2 rfl) ?_
        refine g_calli (g_runV (As := [.int (iI row)]) (rest := []) (ci := 4) F hl.1 hH hS hz (c_X4_amount l g gh I R J AI AJ AR a row zrow hv ha (by omega) (by omega)) (cwV 1 F.2.2.2.2.1 (good_up gTB_X6_tupleCell_X4_amount) rfl rfl rfl hdX4_amount ⟨Nat.le_of_ble_eq_true rfl, Nat.le_of_ble_eq_true rfl⟩) ha (by decide) rfl rfl rfl (Nat.le_of_ble_eq_true rfl) dX6_tupleCell_29 ⟨Nat.zero_le _, Nat.zero_le _⟩) hS (fun v_21 I_15 R_16 J_17 AI_18 AJ_19 AR_20 H locs zv_21 hp_22 hH hS => ?_)
        dsimp only at hp_22
        obtain ⟨rfl, rfl, rfl, rfl, rfl, rfl, qam⟩ := hp_22
        exact g_iretX F hr hlk hH hS hz zv_21 ⟨rfl, rfl, rfl, rfl, rfl, rfl, ⟨by omega, by (try dsimp only); first | (rw [qam]; congr 2; omega) | (rw [qce]; congr 2; omega)⟩⟩ (by decide) (by decide) dX6_tupleCell_32
    · exact g_throw F hTh hst hH hS hz hxt hlk hl.1 (i := 5) rfl (fun w h => List.mem_cons_of_mem _ h) dX6_tupleCell_12 dX6_tupleCell_15 dX6_tupleCell_16 dX6_tupleCell_18 dX6_tupleCell_21 (Nat.le_of_ble_eq_true rfl) (Nat.le_of_ble_eq_true rfl) (Nat.le_refl _) (Nat.le_refl _) ⟨rfl, rfl, rfl, rfl, rfl, rfl, by rintro ⟨h8, h7⟩; omega⟩

def rmX6_atf : Room := { frames := 7, cells := 1, slots := 6, locals := 105 }
set_option maxHeartbeats 4000000 in
set_option maxRecDepth 100000 in
/-- at -/
theorem c_X6_atf (l : Launch) (g : gG) (gh : gGh) (pA bA nA : Nat) (nr : Nat) (cc : Nat → LC) (I : gI) (R : gR) (J : gJ) (AI : gI) (AJ : gJ) (AR : gR) (x : Nat) (rel : Int) (row : Int) (place : Int) (zrel : zr rel) (zrow : zr row) (zplace : zr place) (hv : gInv g gh R AR I AI) (hx : xS g gh R AR x pA bA nA) (hlen : (I pA 1).toInt = (nr : Int)) (hln : ∀ r, r < nr → lnC (I (rob AR (gh 6 pA) r)) (AI (gh 3 (rob AR (gh 6 pA) r))) (cc r)) (hst : l.stackTraces = false) : gMetX l g yX6_at tsX6_at rmX6_atf [.ref x, .int (iI rel), .int (iI row), .int (iI place)] (I, R, J, AI, AJ, AR) (gQi g (fun (z : Int) (w : gS) => I = w.1 ∧ R = w.2.1 ∧ J = w.2.2.1 ∧ AI = w.2.2.2.1 ∧ AJ = w.2.2.2.2.1 ∧ AR = w.2.2.2.2.2 ∧ (((0 ≤ rel ∧ rel < (nr : Int)) ∧ (place = 4 ∨ (0 ≤ place ∧ place < (cc rel.toNat).1 1)) ∧ 0 ≤ row ∧ row < (((rfC gh AR I AI bA rel.toNat).1 : Nat) : Int)) ∧ z = (((rfC gh AR I AI bA rel.toNat)).2 (6 * row.toNat + place.toNat)).toInt))) (fun w : gS => I = w.1 ∧ R = w.2.1 ∧ J = w.2.2.1 ∧ AI = w.2.2.2.1 ∧ AJ = w.2.2.2.2.1 ∧ AR = w.2.2.2.2.2 ∧ (¬ ((0 ≤ rel ∧ rel < (nr : Int)) ∧ (place = 4 ∨ (0 ≤ place ∧ place < (cc rel.toNat).1 1)) ∧ 0 ≤ row ∧ row < (((rfC gh AR I AI bA rel.toNat).1 : Nat) : Int)))) := by
  refine gStartX (cc := cX6_at) (maxL := 4) (ret := (some (.int))) (by decide) rfl (Nat.le_of_ble_eq_true rfl) ?_
  intro p e s m below meth c ls F hr hlk hH hz hS hxt hTh hl
  have hl : lv_has ls 4 [(0, .ref x), (1, .int (iI rel)), (2, .int (iI row)), (3, .int (iI place))] := hl
  have hS : va_S (gA g) s.heap s.heap [] := hS
  obtain ⟨H, hHe⟩ : ∃ H : Heap, H = s.heap := ⟨_, rfl⟩
  obtain ⟨locs, hlo⟩ : ∃ k : List Loc, k = [] := ⟨_, rfl⟩
  have hH : gH g I R J AI AJ AR H := by rw [hHe]; exact hH
  have hS : va_S (gA g) s.heap H locs := by rw [hHe, hlo]; exact hS
  suffices hw : W p l e rmX6_atf s m ([.ref x, .int (iI rel), .int (iI row), .int (iI place)] : List Value).toArray below meth c H locs 0 0 (vx_MQ below (gQi g (fun (z : Int) (w : gS) => I = w.1 ∧ R = w.2.1 ∧ J = w.2.2.1 ∧ AI = w.2.2.2.1 ∧ AJ = w.2.2.2.2.1 ∧ AR = w.2.2.2.2.2 ∧ (((0 ≤ rel ∧ rel < (nr : Int)) ∧ (place = 4 ∨ (0 ≤ place ∧ place < (cc rel.toNat).1 1)) ∧ 0 ≤ row ∧ row < (((rfC gh AR I AI bA rel.toNat).1 : Nat) : Int)) ∧ z = (((rfC gh AR I AI bA rel.toNat)).2 (6 * row.toNat + place.toNat)).toInt))) (vx_X (fun w : gS => I = w.1 ∧ R = w.2.1 ∧ J = w.2.2.1 ∧ AI = w.2.2.2.1 ∧ AJ = w.2.2.2.2.1 ∧ AR = w.2.2.2.2.2 ∧ (¬ ((0 ≤ rel ∧ rel < (nr : Int)) ∧ (place = 4 ∨ (0 ≤ place ∧ place < (cc rel.toNat).1 1)) ∧ 0 ≤ row ∧ row < (((rfC gh AR I AI bA rel.toNat).1 : Nat) : Int)))) (gBX g) (gA g)) ([.ref x, .int (iI rel), .int (iI row), .int (iI place)] : List Value).toArray s 1 6 (gA g)) (F0 m 0 ls []) by
    rw [hHe, hlo] at hw; exact hw
  clear hHe hlo
  have iX6 : ∀ w ∈ u_ws RX6 TX6 18, w ∈ tsX6_at := fun w h => List.mem_cons_of_mem _ (inTB6 w h)
  have iX2 : ∀ w ∈ u_ws RX2 TX2 3, w ∈ tsX6_at := fun w h => List.mem_cons_of_mem _ (inTB2 w h)
  have iX0 : ∀ w ∈ u_ws RX0 TX0 15, w ∈ tsX6_at := fun w h => List.mem_cons_of_mem _ (inTB0 w h)
  have k38 : Cond.fieldLink RX6 38 (TX6 5).1 (TX6 5).2.1 (TX6 5).2.2.1 ∈ tsX6_at := List.mem_cons_of_mem _ (TBm (tk1 (List.mem_of_getElem? (i := 235) rfl)) rfl)
  have k23 : Cond.fieldLink RX6 23 (TX6 3).1 (TX6 3).2.1 (TX6 3).2.2.1 ∈ tsX6_at := List.mem_cons_of_mem _ (TBm (tk1 (List.mem_of_getElem? (i := 233) rfl)) rfl)
  have k113 : Cond.fieldLink RX6 113 (TX2 0).1 (TX2 0).2.1 (TX2 0).2.2.1 ∈ tsX6_at := List.mem_cons_of_mem _ (TBm (tk1 (List.mem_of_getElem? (i := 156) rfl)) rfl)
  have k125 : Cond.fieldLink RX6 125 (TX0 2).1 (TX0 2).2.1 (TX0 2).2.2.1 ∈ tsX6_at := List.mem_cons_of_mem _ (TBm (tk1 (List.mem_of_getElem? (i := 86) rfl)) rfl)
  refine lv_aload_n F.1 F.2.1 dX6_at_0 rfl (lv_at hl 0 rfl) ?_
  refine lv_iload_n F.1 F.2.1 dX6_at_1 rfl (lv_at hl 1 rfl) ?_
  have b_1 := gI_x hv hx.1
  refine g_calli (g_runV (As := [.int (iI rel)]) (rest := []) (ci := 6) F hl.1 hH hS hz (c_X6_isRelationf l g gh pA bA nA I R J AI AJ AR x rel zrel hv hx) (cwV 1 F.2.2.2.2.1 (good_up gTB_X6_at_X6_isRelation) rfl rfl rfl hdX6_isRelation ⟨Nat.le_of_ble_eq_true rfl, Nat.le_of_ble_eq_true rfl⟩) hx.1 (by decide) rfl rfl rfl (Nat.le_of_ble_eq_true rfl) dX6_at_2 ⟨Nat.zero_le _, Nat.zero_le _⟩) hS (fun v_8 I_2 R_3 J_4 AI_5 AJ_6 AR_7 H locs zv_8 hp_9 hH hS => ?_)
  dsimp only at hp_9
  obtain ⟨rfl, rfl, rfl, rfl, rfl, rfl, q_10, qir⟩ := hp_9
  refine z_if_ne (tgt := 18) F dX6_at_5 (by decide) zv_8 (fun c_11 => ?_) (fun c_11 => ?_)
  · refine lv_aload_n F.1 F.2.1 dX6_at_18 rfl (lv_at hl 0 rfl) ?_
    refine g_getR (ci := 6) (k := 5) F hH rfl (by decide) iX6 hx.1 (by decide) rfl (b := bA) hx.2.2.2.1 k38 dX6_at_19 ?_
    refine lv_iload_n F.1 F.2.1 dX6_at_22 rfl (lv_at hl 1 rfl) ?_
    have hx23 : 0 ≤ rel ∧ rel < ((16 : Nat) : Int) ∧ rel ≤ 2147483647 := ⟨by omega, by omega, by omega⟩
    obtain ⟨y_12, y_12a, y_12b, y_12c, y_12d, y_12e⟩ := hx.2.2.2.2.1.2 (rel).toNat (by omega)
    refine g_aldR F hH hx.2.2.2.2.1.1 hx23.1 hx23.2.1 hx23.2.2 (b := y_12) y_12a dX6_at_23 ?_
    have hsz : (I y_12 3).toInt = ((((rfC gh AR I AI bA rel.toNat)).1 : Nat) : Int) := by unfold rfC; rw [rob_e y_12a]; have q9 := (gI_rows hv y_12b).2.2.1; omega
    have h49 : gh 2 y_12 = 4 := y_12d
    have e2 : ((rfC gh AR I AI bA rel.toNat)).2 = AI (gh 0 y_12) := by unfold rfC; rw [rob_e y_12a]
    refine lv_aload_n F.1 F.2.1 dX6_at_24 rfl (lv_at hl 0 rfl) ?_
    refine g_getR (ci := 6) (k := 3) F hH rfl (by decide) iX6 hx.1 (by decide) rfl (b := pA) hx.2.1 k23 dX6_at_25 ?_
    obtain ⟨r_13a, r_13b⟩ := gR_lines hv hx.2.2.1
    refine g_getR (ci := 2) (k := 0) F hH rfl (by decide) iX2 hx.2.2.1 (by decide) rfl (b := gh 6 pA) r_13a k113 dX6_at_28 ?_
    refine lv_iload_n F.1 F.2.1 dX6_at_31 rfl (lv_at hl 1 rfl) ?_
    have hx32 : 0 ≤ rel ∧ rel < ((16 : Nat) : Int) ∧ rel ≤ 2147483647 := ⟨by omega, by omega, by omega⟩
    obtain ⟨y_14, y_14a, y_14b, y_14c, y_14d⟩ := gA_lines hv hx.2.2.1 (z := rel) (by omega) (by omega)
    refine g_aldL F hH r_13b hx32.1 hx32.2.1 hx32.2.2 (b := y_14) y_14a dX6_at_32 ?_
    have hl9 := (hln rel.toNat (by omega)).1
    rw [rob_e y_14a] at hl9
    refine g_getI (ci := 0) (k := 2) F hH rfl (by decide) iX0 y_14b (by decide) rfl k125 dX6_at_33 ?_
    have b_15 := gI_line hv y_14b
    unfold vLineI at b_15
    have hc4 : (I y_14 2).toInt ≤ 4 := by have q := (hv.2.2.1 y_14 y_14b).2.2.2; rw [y_14c] at q; exact q (by omega)
    refine lv_iload_n F.1 F.2.1 dX6_at_36 rfl (lv_at hl 2 rfl) ?_
    refine lv_iload_n F.1 F.2.1 dX6_at_37 rfl (lv_at hl 3 rfl) ?_
    refine g_calliX (g_runSX (As := [.ref y_12, .int (iI ((I y_14 2).toInt)), .int (iI row), .int (iI place)]) (rest := []) F hTh hl.1 hH hS hz (c_X6_tupleCellf l g gh ((rfC gh AR I AI bA rel.toNat).1) I R J AI AJ AR y_12 ((I y_14 2).toInt) row place (zr_t _) zrow zplace hv y_12b (by omega) hsz h49 hst) (va_cwS 4 F.2.2.2.2.1 (good_up gTB_X6_at_X6_tupleCell) rfl rfl rfl hdX6_tupleCell.2 ⟨Nat.le_of_ble_eq_true rfl, Nat.le_of_ble_eq_true rfl⟩) rfl rfl (Nat.le_of_ble_eq_true rfl) dX6_at_38 ⟨Nat.le_refl _, Nat.le_refl _⟩) hS (fun ce9 q9 I2 R2 J2 AI2 AJ2 AR2 H locs hp hH hS h1 h2 h3 => ?_) (fun z I2 R2 J2 AI2 AJ2 AR2 H locs zz hp hH hS => ?_)
    · dsimp only at hp
      obtain ⟨rfl, rfl, rfl, rfl, rfl, rfl, qtx⟩ := hp
      exact g_outX F hH hS hz hxt hlk h1 h2 h3 ⟨rfl, rfl, rfl, rfl, rfl, rfl, (fun h9 => qtx ⟨h9.2.2, by have h8 := h9.2.1; omega⟩)⟩ (by decide) (by decide)
    dsimp only at hp
    obtain ⟨rfl, rfl, rfl, rfl, rfl, rfl, qtc⟩ := hp
    exact g_iretX F hr hlk hH hS hz zz ⟨rfl, rfl, rfl, rfl, rfl, rfl, ⟨⟨by omega, by have h9 := qtc.1.2; omega, qtc.1.1⟩, by (try dsimp only); rw [e2]; exact qtc.2⟩⟩ (by decide) (by decide) dX6_at_41
  · exact g_throw F hTh hst hH hS hz hxt hlk hl.1 (i := 4) rfl (fun w h => List.mem_cons_of_mem _ h) dX6_at_8 dX6_at_11 dX6_at_12 dX6_at_14 dX6_at_17 (Nat.le_of_ble_eq_true rfl) (Nat.le_of_ble_eq_true rfl) (Nat.le_refl _) (Nat.le_refl _) ⟨rfl, rfl, rfl, rfl, rfl, rfl, (fun h9 => by have h8 := h9.1; have h7 := qir (by omega); omega)⟩

def rmX6_movedAtf : Room := { frames := 7, cells := 1, slots := 6, locals := 105 }
set_option maxHeartbeats 4000000 in
set_option maxRecDepth 100000 in
/-- movedAt -/
theorem c_X6_movedAtf (l : Launch) (g : gG) (gh : gGh) (pA bA nA : Nat) (nr : Nat) (cc : Nat → LC) (I : gI) (R : gR) (J : gJ) (AI : gI) (AJ : gJ) (AR : gR) (x : Nat) (rel : Int) (row : Int) (place : Int) (zrel : zr rel) (zrow : zr row) (zplace : zr place) (hv : gInv g gh R AR I AI) (hx : xS g gh R AR x pA bA nA) (hlen : (I pA 1).toInt = (nr : Int)) (hln : ∀ r, r < nr → lnC (I (rob AR (gh 6 pA) r)) (AI (gh 3 (rob AR (gh 6 pA) r))) (cc r)) (hst : l.stackTraces = false) : gMetX l g yX6_movedAt tsX6_movedAt rmX6_movedAtf [.ref x, .int (iI rel), .int (iI row), .int (iI place)] (I, R, J, AI, AJ, AR) (gQi g (fun (z : Int) (w : gS) => I = w.1 ∧ R = w.2.1 ∧ J = w.2.2.1 ∧ AI = w.2.2.2.1 ∧ AJ = w.2.2.2.2.1 ∧ AR = w.2.2.2.2.2 ∧ (((0 ≤ rel ∧ rel < (nr : Int)) ∧ (place = 4 ∨ (0 ≤ place ∧ place < (cc rel.toNat).1 1)) ∧ 0 ≤ row ∧ row < (((rfC gh AR I AI (gh 35 0) rel.toNat).1 : Nat) : Int)) ∧ z = (((rfC gh AR I AI (gh 35 0) rel.toNat)).2 (6 * row.toNat + place.toNat)).toInt))) (fun w : gS => I = w.1 ∧ R = w.2.1 ∧ J = w.2.2.1 ∧ AI = w.2.2.2.1 ∧ AJ = w.2.2.2.2.1 ∧ AR = w.2.2.2.2.2 ∧ (¬ ((0 ≤ rel ∧ rel < (nr : Int)) ∧ (place = 4 ∨ (0 ≤ place ∧ place < (cc rel.toNat).1 1)) ∧ 0 ≤ row ∧ row < (((rfC gh AR I AI (gh 35 0) rel.toNat).1 : Nat) : Int)))) := by
  refine gStartX (cc := cX6_movedAt) (maxL := 4) (ret := (some (.int))) (by decide) rfl (Nat.le_of_ble_eq_true rfl) ?_
  intro p e s m below meth c ls F hr hlk hH hz hS hxt hTh hl
  have hl : lv_has ls 4 [(0, .ref x), (1, .int (iI rel)), (2, .int (iI row)), (3, .int (iI place))] := hl
  have hS : va_S (gA g) s.heap s.heap [] := hS
  obtain ⟨H, hHe⟩ : ∃ H : Heap, H = s.heap := ⟨_, rfl⟩
  obtain ⟨locs, hlo⟩ : ∃ k : List Loc, k = [] := ⟨_, rfl⟩
  have hH : gH g I R J AI AJ AR H := by rw [hHe]; exact hH
  have hS : va_S (gA g) s.heap H locs := by rw [hHe, hlo]; exact hS
  suffices hw : W p l e rmX6_movedAtf s m ([.ref x, .int (iI rel), .int (iI row), .int (iI place)] : List Value).toArray below meth c H locs 0 0 (vx_MQ below (gQi g (fun (z : Int) (w : gS) => I = w.1 ∧ R = w.2.1 ∧ J = w.2.2.1 ∧ AI = w.2.2.2.1 ∧ AJ = w.2.2.2.2.1 ∧ AR = w.2.2.2.2.2 ∧ (((0 ≤ rel ∧ rel < (nr : Int)) ∧ (place = 4 ∨ (0 ≤ place ∧ place < (cc rel.toNat).1 1)) ∧ 0 ≤ row ∧ row < (((rfC gh AR I AI (gh 35 0) rel.toNat).1 : Nat) : Int)) ∧ z = (((rfC gh AR I AI (gh 35 0) rel.toNat)).2 (6 * row.toNat + place.toNat)).toInt))) (vx_X (fun w : gS => I = w.1 ∧ R = w.2.1 ∧ J = w.2.2.1 ∧ AI = w.2.2.2.1 ∧ AJ = w.2.2.2.2.1 ∧ AR = w.2.2.2.2.2 ∧ (¬ ((0 ≤ rel ∧ rel < (nr : Int)) ∧ (place = 4 ∨ (0 ≤ place ∧ place < (cc rel.toNat).1 1)) ∧ 0 ≤ row ∧ row < (((rfC gh AR I AI (gh 35 0) rel.toNat).1 : Nat) : Int)))) (gBX g) (gA g)) ([.ref x, .int (iI rel), .int (iI row), .int (iI place)] : List Value).toArray s 1 6 (gA g)) (F0 m 0 ls []) by
    rw [hHe, hlo] at hw; exact hw
  clear hHe hlo
  have iX6 : ∀ w ∈ u_ws RX6 TX6 18, w ∈ tsX6_movedAt := fun w h => List.mem_cons_of_mem _ (inTB6 w h)
  have iX2 : ∀ w ∈ u_ws RX2 TX2 3, w ∈ tsX6_movedAt := fun w h => List.mem_cons_of_mem _ (inTB2 w h)
  have iX0 : ∀ w ∈ u_ws RX0 TX0 15, w ∈ tsX6_movedAt := fun w h => List.mem_cons_of_mem _ (inTB0 w h)
  have k45 : Cond.fieldLink RX6 45 (TX6 7).1 (TX6 7).2.1 (TX6 7).2.2.1 ∈ tsX6_movedAt := List.mem_cons_of_mem _ (TBm (tk1 (List.mem_of_getElem? (i := 237) rfl)) rfl)
  have k23 : Cond.fieldLink RX6 23 (TX6 3).1 (TX6 3).2.1 (TX6 3).2.2.1 ∈ tsX6_movedAt := List.mem_cons_of_mem _ (TBm (tk1 (List.mem_of_getElem? (i := 233) rfl)) rfl)
  have k113 : Cond.fieldLink RX6 113 (TX2 0).1 (TX2 0).2.1 (TX2 0).2.2.1 ∈ tsX6_movedAt := List.mem_cons_of_mem _ (TBm (tk1 (List.mem_of_getElem? (i := 156) rfl)) rfl)
  have k125 : Cond.fieldLink RX6 125 (TX0 2).1 (TX0 2).2.1 (TX0 2).2.2.1 ∈ tsX6_movedAt := List.mem_cons_of_mem _ (TBm (tk1 (List.mem_of_getElem? (i := 86) rfl)) rfl)
  refine lv_aload_n F.1 F.2.1 dX6_movedAt_0 rfl (lv_at hl 0 rfl) ?_
  refine lv_iload_n F.1 F.2.1 dX6_movedAt_1 rfl (lv_at hl 1 rfl) ?_
  have b_1 := gI_x hv hx.1
  refine g_calli (g_runV (As := [.int (iI rel)]) (rest := []) (ci := 6) F hl.1 hH hS hz (c_X6_isRelationf l g gh pA bA nA I R J AI AJ AR x rel zrel hv hx) (cwV 1 F.2.2.2.2.1 (good_up gTB_X6_movedAt_X6_isRelation) rfl rfl rfl hdX6_isRelation ⟨Nat.le_of_ble_eq_true rfl, Nat.le_of_ble_eq_true rfl⟩) hx.1 (by decide) rfl rfl rfl (Nat.le_of_ble_eq_true rfl) dX6_movedAt_2 ⟨Nat.zero_le _, Nat.zero_le _⟩) hS (fun v_8 I_2 R_3 J_4 AI_5 AJ_6 AR_7 H locs zv_8 hp_9 hH hS => ?_)
  dsimp only at hp_9
  obtain ⟨rfl, rfl, rfl, rfl, rfl, rfl, q_10, qir⟩ := hp_9
  refine z_if_ne (tgt := 18) F dX6_movedAt_5 (by decide) zv_8 (fun c_11 => ?_) (fun c_11 => ?_)
  · refine lv_aload_n F.1 F.2.1 dX6_movedAt_18 rfl (lv_at hl 0 rfl) ?_
    obtain ⟨r_12a, r_12b⟩ := gR_x7 hv hx.1
    refine g_getR (ci := 6) (k := 7) F hH rfl (by decide) iX6 hx.1 (by decide) rfl (b := gh 35 0) r_12a k45 dX6_movedAt_19 ?_
    refine lv_iload_n F.1 F.2.1 dX6_movedAt_22 rfl (lv_at hl 1 rfl) ?_
    have hx23 : 0 ≤ rel ∧ rel < ((16 : Nat) : Int) ∧ rel ≤ 2147483647 := ⟨by omega, by omega, by omega⟩
    obtain ⟨y_13, y_13a, y_13b, y_13c, y_13d, y_13e⟩ := r_12b.2 (rel).toNat (by omega)
    refine g_aldR F hH r_12b.1 hx23.1 hx23.2.1 hx23.2.2 (b := y_13) y_13a dX6_movedAt_23 ?_
    have hsz : (I y_13 3).toInt = ((((rfC gh AR I AI (gh 35 0) rel.toNat)).1 : Nat) : Int) := by unfold rfC; rw [rob_e y_13a]; have q9 := (gI_rows hv y_13b).2.2.1; omega
    have h49 : gh 2 y_13 = 4 := y_13d
    have e2 : ((rfC gh AR I AI (gh 35 0) rel.toNat)).2 = AI (gh 0 y_13) := by unfold rfC; rw [rob_e y_13a]
    refine lv_aload_n F.1 F.2.1 dX6_movedAt_24 rfl (lv_at hl 0 rfl) ?_
    refine g_getR (ci := 6) (k := 3) F hH rfl (by decide) iX6 hx.1 (by decide) rfl (b := pA) hx.2.1 k23 dX6_movedAt_25 ?_
    obtain ⟨r_14a, r_14b⟩ := gR_lines hv hx.2.2.1
    refine g_getR (ci := 2) (k := 0) F hH rfl (by decide) iX2 hx.2.2.1 (by decide) rfl (b := gh 6 pA) r_14a k113 dX6_movedAt_28 ?_
    refine lv_iload_n F.1 F.2.1 dX6_movedAt_31 rfl (lv_at hl 1 rfl) ?_
    have hx32 : 0 ≤ rel ∧ rel < ((16 : Nat) : Int) ∧ rel ≤ 2147483647 := ⟨by omega, by omega, by omega⟩
    obtain ⟨y_15, y_15a, y_15b, y_15c, y_15d⟩ := gA_lines hv hx.2.2.1 (z := rel) (by omega) (by omega)
    refine g_aldL F hH r_14b hx32.1 hx32.2.1 hx32.2.2 (b := y_15) y_15a dX6_movedAt_32 ?_
    have hl9 := (hln rel.toNat (by omega)).1
    rw [rob_e y_15a] at hl9
    refine g_getI (ci := 0) (k := 2) F hH rfl (by decide) iX0 y_15b (by decide) rfl k125 dX6_movedAt_33 ?_
    have b_16 := gI_line hv y_15b
    unfold vLineI at b_16
    have hc4 : (I y_15 2).toInt ≤ 4 := by have q := (hv.2.2.1 y_15 y_15b).2.2.2; rw [y_15c] at q; exact q (by omega)
    refine lv_iload_n F.1 F.2.1 dX6_movedAt_36 rfl (lv_at hl 2 rfl) ?_
    refine lv_iload_n F.1 F.2.1 dX6_movedAt_37 rfl (lv_at hl 3 rfl) ?_
    refine g_calliX (g_runSX (As := [.ref y_13, .int (iI ((I y_15 2).toInt)), .int (iI row), .int (iI place)]) (rest := []) F hTh hl.1 hH hS hz (c_X6_tupleCellf l g gh ((rfC gh AR I AI (gh 35 0) rel.toNat).1) I R J AI AJ AR y_13 ((I y_15 2).toInt) row place (zr_t _) zrow zplace hv y_13b (by omega) hsz h49 hst) (va_cwS 4 F.2.2.2.2.1 (good_up gTB_X6_movedAt_X6_tupleCell) rfl rfl rfl hdX6_tupleCell.2 ⟨Nat.le_of_ble_eq_true rfl, Nat.le_of_ble_eq_true rfl⟩) rfl rfl (Nat.le_of_ble_eq_true rfl) dX6_movedAt_38 ⟨Nat.le_refl _, Nat.le_refl _⟩) hS (fun ce9 q9 I2 R2 J2 AI2 AJ2 AR2 H locs hp hH hS h1 h2 h3 => ?_) (fun z I2 R2 J2 AI2 AJ2 AR2 H locs zz hp hH hS => ?_)
    · dsimp only at hp
      obtain ⟨rfl, rfl, rfl, rfl, rfl, rfl, qtx⟩ := hp
      exact g_outX F hH hS hz hxt hlk h1 h2 h3 ⟨rfl, rfl, rfl, rfl, rfl, rfl, (fun h9 => qtx ⟨h9.2.2, by have h8 := h9.2.1; omega⟩)⟩ (by decide) (by decide)
    dsimp only at hp
    obtain ⟨rfl, rfl, rfl, rfl, rfl, rfl, qtc⟩ := hp
    exact g_iretX F hr hlk hH hS hz zz ⟨rfl, rfl, rfl, rfl, rfl, rfl, ⟨⟨by omega, by have h9 := qtc.1.2; omega, qtc.1.1⟩, by (try dsimp only); rw [e2]; exact qtc.2⟩⟩ (by decide) (by decide) dX6_movedAt_41
  · exact g_throw F hTh hst hH hS hz hxt hlk hl.1 (i := 4) rfl (fun w h => List.mem_cons_of_mem _ h) dX6_movedAt_8 dX6_movedAt_11 dX6_movedAt_12 dX6_movedAt_14 dX6_movedAt_17 (Nat.le_of_ble_eq_true rfl) (Nat.le_of_ble_eq_true rfl) (Nat.le_refl _) (Nat.le_refl _) ⟨rfl, rfl, rfl, rfl, rfl, rfl, (fun h9 => by have h8 := h9.1; have h7 := qir (by omega); omega)⟩
end
section
def rmX6_totalf : Room := { frames := 6, cells := 1, slots := 6, locals := 82 }
set_option maxHeartbeats 4000000 in
set_option maxRecDepth 100000 in
/-- total -/
theorem c_X6_totalf (l : Launch) (g : gG) (gh : gGh) (pA bA nA : Nat) (nr : Nat) (I : gI) (R : gR) (J : gJ) (AI : gI) (AJ : gJ) (AR : gR) (x : Nat) (rel : Int) (zrel : zr rel) (hv : gInv g gh R AR I AI) (hx : xS g gh R AR x pA bA nA) (hlen : (I pA 1).toInt = (nr : Int)) (hst : l.stackTraces = false) : gMetX l g yX6_total tsX6_total rmX6_totalf [.ref x, .int (iI rel)] (I, R, J, AI, AJ, AR) (gQi g (fun (z : Int) (w : gS) => I = w.1 ∧ R = w.2.1 ∧ J = w.2.2.1 ∧ AI = w.2.2.2.1 ∧ AJ = w.2.2.2.2.1 ∧ AR = w.2.2.2.2.2 ∧ ((0 ≤ rel ∧ rel < (nr : Int)) ∧ iI z = smA ((rfC gh AR I AI bA rel.toNat)).2 ((rfC gh AR I AI bA rel.toNat)).1))) (fun w : gS => I = w.1 ∧ R = w.2.1 ∧ J = w.2.2.1 ∧ AI = w.2.2.2.1 ∧ AJ = w.2.2.2.2.1 ∧ AR = w.2.2.2.2.2 ∧ (rel < 0 ∨ (nr : Int) ≤ rel)) := by
  refine gStartX (cc := cX6_total) (maxL := 5) (ret := (some (.int))) (by decide) rfl (Nat.le_of_ble_eq_true rfl) ?_
  intro p e s m below meth c ls F hr hlk hH hz hS hxt hTh hl
  have hl : lv_has ls 5 [(0, .ref x), (1, .int (iI rel))] := hl
  have hS : va_S (gA g) s.heap s.heap [] := hS
  obtain ⟨H, hHe⟩ : ∃ H : Heap, H = s.heap := ⟨_, rfl⟩
  obtain ⟨locs, hlo⟩ : ∃ k : List Loc, k = [] := ⟨_, rfl⟩
  have hH : gH g I R J AI AJ AR H := by rw [hHe]; exact hH
  have hS : va_S (gA g) s.heap H locs := by rw [hHe, hlo]; exact hS
  suffices hw : W p l e rmX6_totalf s m ([.ref x, .int (iI rel)] : List Value).toArray below meth c H locs 0 0 (vx_MQ below (gQi g (fun (z : Int) (w : gS) => I = w.1 ∧ R = w.2.1 ∧ J = w.2.2.1 ∧ AI = w.2.2.2.1 ∧ AJ = w.2.2.2.2.1 ∧ AR = w.2.2.2.2.2 ∧ ((0 ≤ rel ∧ rel < (nr : Int)) ∧ iI z = smA ((rfC gh AR I AI bA rel.toNat)).2 ((rfC gh AR I AI bA rel.toNat)).1))) (vx_X (fun w : gS => I = w.1 ∧ R = w.2.1 ∧ J = w.2.2.1 ∧ AI = w.2.2.2.1 ∧ AJ = w.2.2.2.2.1 ∧ AR = w.2.2.2.2.2 ∧ (rel < 0 ∨ (nr : Int) ≤ rel)) (gBX g) (gA g)) ([.ref x, .int (iI rel)] : List Value).toArray s 1 6 (gA g)) (F0 m 0 ls []) by
    rw [hHe, hlo] at hw; exact hw
  clear hHe hlo
  have iX6 : ∀ w ∈ u_ws RX6 TX6 18, w ∈ tsX6_total := fun w h => List.mem_cons_of_mem _ (inTB6 w h)
  have iX4 : ∀ w ∈ u_ws RX4 TX4 4, w ∈ tsX6_total := fun w h => List.mem_cons_of_mem _ (inTB4 w h)
  have k38 : Cond.fieldLink RX6 38 (TX6 5).1 (TX6 5).2.1 (TX6 5).2.2.1 ∈ tsX6_total := List.mem_cons_of_mem _ (TBm (tk1 (List.mem_of_getElem? (i := 235) rfl)) rfl)
  have k99 : Cond.fieldLink RX6 99 (TX4 3).1 (TX4 3).2.1 (TX4 3).2.2.1 ∈ tsX6_total := List.mem_cons_of_mem _ (TBm (tk1 (List.mem_of_getElem? (i := 217) rfl)) rfl)
  refine lv_aload_n F.1 F.2.1 dX6_total_0 rfl (lv_at hl 0 rfl) ?_
  refine lv_iload_n F.1 F.2.1 dX6_total_1 rfl (lv_at hl 1 rfl) ?_
  have b_1 := gI_x hv hx.1
  refine g_calli (g_runV (As := [.int (iI rel)]) (rest := []) (ci := 6) F hl.1 hH hS hz (c_X6_isRelationf l g gh pA bA nA I R J AI AJ AR x rel zrel hv hx) (cwV 1 F.2.2.2.2.1 (good_up gTB_X6_total_X6_isRelation) rfl rfl rfl hdX6_isRelation ⟨Nat.le_of_ble_eq_true rfl, Nat.le_of_ble_eq_true rfl⟩) hx.1 (by decide) rfl rfl rfl (Nat.le_of_ble_eq_true rfl) dX6_total_2 ⟨Nat.zero_le _, Nat.zero_le _⟩) hS (fun v_8 I_2 R_3 J_4 AI_5 AJ_6 AR_7 H locs zv_8 hp_9 hH hS => ?_)
  dsimp only at hp_9
  obtain ⟨rfl, rfl, rfl, rfl, rfl, rfl, q_10, qir⟩ := hp_9
  refine z_if_ne (tgt := 18) F dX6_total_5 (by decide) zv_8 (fun c_11 => ?_) (fun c_11 => ?_)
  · refine lv_aload_n F.1 F.2.1 dX6_total_18 rfl (lv_at hl 0 rfl) ?_
    refine g_getR (ci := 6) (k := 5) F hH rfl (by decide) iX6 hx.1 (by decide) rfl (b := bA) hx.2.2.2.1 k38 dX6_total_19 ?_
    refine lv_iload_n F.1 F.2.1 dX6_total_22 rfl (lv_at hl 1 rfl) ?_
    have hx23 : 0 ≤ rel ∧ rel < ((16 : Nat) : Int) ∧ rel ≤ 2147483647 := ⟨by omega, by omega, by omega⟩
    obtain ⟨y_12, y_12a, y_12b, y_12c, y_12d, y_12e⟩ := hx.2.2.2.2.1.2 (rel).toNat (by omega)
    refine g_aldR F hH hx.2.2.2.2.1.1 hx23.1 hx23.2.1 hx23.2.2 (b := y_12) y_12a dX6_total_23 ?_
    have hsz : (I y_12 3).toInt = ((((rfC gh AR I AI bA rel.toNat)).1 : Nat) : Int) := by unfold rfC; rw [rob_e y_12a]; have q9 := (gI_rows hv y_12b).2.2.1; omega
    have h49 : gh 2 y_12 = 4 := y_12d
    have e2 : ((rfC gh AR I AI bA rel.toNat)).2 = AI (gh 0 y_12) := by unfold rfC; rw [rob_e y_12a]
    have hrl := gI_rows hv y_12b
    refine lv_astore_n (lv' := [(2, .ref y_12), (0, .ref x), (1, .int (iI rel))]) F.1 F.2.1 dX6_total_24 rfl hl (by decide) rfl (fun ls hl => ?_)
    refine z_iconst F dX6_total_25 ?_
    refine lv_istore_n (lv' := [(3, .int (iI 0)), (2, .ref y_12), (0, .ref x), (1, .int (iI rel))]) F.1 F.2.1 dX6_total_26 rfl hl (by decide) rfl (fun ls hl => ?_)
    refine z_iconst F dX6_total_27 ?_
    refine lv_istore (lv' := [(4, .int (iI 0)), (3, .int (iI 0)), (2, .ref y_12), (0, .ref x), (1, .int (iI rel))]) F.1 F.2.1 dX6_total_28 hl (by decide) rfl (fun ls hl => ?_)
    have cut_30_12 : ∀ (NN : Nat) (sm i : Int) (H : Heap) (locs : List Loc) (ls : Array Slot), zr sm → zr i → (0 ≤ i ∧ i ≤ 240) → (iI sm = smA ((rfC gh AR I AI bA rel.toNat)).2 i.toNat) → (i ≤ ((((rfC gh AR I AI bA rel.toNat)).1 : Nat) : Int)) → (240 - i) < ((NN : Nat) : Int) → gH g I R J AI AJ AR H → va_S (gA g) s.heap H locs → lv_has ls 5 [(4, .int (iI i)), (3, .int (iI sm)), (2, .ref y_12), (0, .ref x), (1, .int (iI rel))] → W p l e rmX6_totalf s m ([.ref x, .int (iI rel)] : List Value).toArray below meth c H locs 0 0 (vx_MQ below (gQi g (fun (z : Int) (w : gS) => I = w.1 ∧ R = w.2.1 ∧ J = w.2.2.1 ∧ AI = w.2.2.2.1 ∧ AJ = w.2.2.2.2.1 ∧ AR = w.2.2.2.2.2 ∧ ((0 ≤ rel ∧ rel < (nr : Int)) ∧ iI z = smA ((rfC gh AR I AI bA rel.toNat)).2 ((rfC gh AR I AI bA rel.toNat)).1))) (vx_X (fun w : gS => I = w.1 ∧ R = w.2.1 ∧ J = w.2.2.1 ∧ AI = w.2.2.2.1 ∧ AJ = w.2.2.2.2.1 ∧ AR = w.2.2.2.2.2 ∧ (rel < 0 ∨ (nr : Int) ≤ rel)) (gBX g) (gA g)) ([.ref x, .int (iI rel)] : List Value).toArray s 1 6 (gA g)) (F0 m 30 ls []) := by
      intro NN30
      induction NN30 with
      | zero =>
        intro sm i H locs ls zsm zi hi hsm hin hm30 hH hS hl
        exact absurd hm30 (by omega)
      | succ NN30 ih30 =>
        intro sm i H locs ls zsm zi hi hsm hin hm30 hH hS hl
        refine lv_iload F.1 F.2.1 dX6_total_30 (lv_at hl 0 rfl) ?_
        refine lv_aload_n F.1 F.2.1 dX6_total_32 rfl (lv_at hl 2 rfl) ?_
        refine g_getI (ci := 4) (k := 3) F hH rfl (by decide) iX4 y_12b (by decide) rfl k99 dX6_total_33 ?_
        obtain ⟨b_14a, b_14b, b_14c, b_14d, b_14e, b_14f, b_14g, b_14h⟩ := gI_rows hv y_12b
        refine z_icmp_ge (tgt := 54) F dX6_total_36 (by decide) zi (zr_t _) (fun c_15 => ?_) (fun c_15 => ?_)
        · refine lv_iload_n F.1 F.2.1 dX6_total_54 rfl (lv_at hl 1 rfl) ?_
          exact g_iretX F hr hlk hH hS hz zsm ⟨rfl, rfl, rfl, rfl, rfl, rfl, ⟨by omega, by rw [← show i.toNat = ((rfC gh AR I AI bA rel.toNat)).1 by omega]; exact hsm⟩⟩ (by decide) (by decide) dX6_total_55
        · refine lv_iload_n F.1 F.2.1 dX6_total_39 rfl (lv_at hl 1 rfl) ?_
          refine lv_aload_n F.1 F.2.1 dX6_total_40 rfl (lv_at hl 2 rfl) ?_
          refine lv_iload F.1 F.2.1 dX6_total_41 (lv_at hl 0 rfl) ?_
          refine g_calli (g_runV (As := [.int (iI i)]) (rest := [.int (iI sm)]) (ci := 4) F hl.1 hH hS hz (c_X4_amount l g gh I R J AI AJ AR y_12 i zi hv y_12b (by omega) (by omega)) (cwV 1 F.2.2.2.2.1 (good_up gTB_X6_total_X4_amount) rfl rfl rfl hdX4_amount ⟨Nat.le_of_ble_eq_true rfl, Nat.le_of_ble_eq_true rfl⟩) y_12b (by decide) rfl rfl rfl (Nat.le_of_ble_eq_true rfl) dX6_total_43 ⟨Nat.zero_le _, Nat.zero_le _⟩) hS (fun v_22 I_16 R_17 J_18 AI_19 AJ_20 AR_21 H locs zv_22 hp_23 hH hS => ?_)
          dsimp only at hp_23
          obtain ⟨rfl, rfl, rfl, rfl, rfl, rfl, qam⟩ := hp_23
          refine z_iadd F dX6_total_46 ?_
          refine z_norm (fun v_24 zv_24 ev_24 => ?_)
          have hsm9 : iI v_24 = smA ((rfC gh AR I AI bA rel.toNat)).2 (i + 1).toNat := by rw [show (i + 1).toNat = i.toNat + 1 by omega, smA, ← hsm, e2, ev_24, ← iI_add, qam, iI_self]; congr 2; omega
          refine lv_istore_n (lv' := [(3, .int (iI v_24)), (4, .int (iI i)), (2, .ref y_12), (0, .ref x), (1, .int (iI rel))]) F.1 F.2.1 dX6_total_47 rfl hl (by decide) rfl (fun ls hl => ?_)
          refine z_iinc (lv' := [(4, .int (iI (i + 1))), (3, .int (iI v_24)), (2, .ref y_12), (0, .ref x), (1, .int (iI rel))]) F dX6_total_48 hl (k := 1) rfl (by decide) rfl (fun ls hl => ?_)
          refine z_goto (tgt := 30) F dX6_total_51 (by decide) ?_
          exact ih30 v_24 (i + 1) H locs ls zv_24 ⟨by omega, by omega⟩ (by omega) hsm9 (by omega) (by omega) hH hS (lv_sub hl [0, 1, 2, 3, 4] rfl)
    exact cut_30_12 (((240 - 0) + 1 : Int).toNat) 0 0 H locs ls ⟨by decide, by decide⟩ ⟨by decide, by decide⟩ (by omega) rfl (by omega) (by omega) hH hS (lv_sub hl [0, 1, 2, 3, 4] rfl)
  · exact g_throw F hTh hst hH hS hz hxt hlk hl.1 (i := 4) rfl (fun w h => List.mem_cons_of_mem _ h) dX6_total_8 dX6_total_11 dX6_total_12 dX6_total_14 dX6_total_17 (Nat.le_of_ble_eq_true rfl) (Nat.le_of_ble_eq_true rfl) (Nat.le_refl _) (Nat.le_refl _) ⟨rfl, rfl, rfl, rfl, rfl, rfl, (by have h9 := qir (by omega); omega)⟩
end
section
def rmL_atf : Room := { frames := 8, cells := 1, slots := 6, locals := 128 }
set_option maxHeartbeats 4000000 in
set_option maxRecDepth 100000 in
/-- at, caught -/
theorem c_L_atf (l : Launch) (g : gG) (gh : gGh) (pA bA nA : Nat) (nr : Nat) (cc : Nat → LC) (I : gI) (R : gR) (J : gJ) (AI : gI) (AJ : gJ) (AR : gR) (x : Nat) (rel : Int) (row : Int) (place : Int) (ou : Nat) (zrel : zr rel) (zrow : zr row) (zplace : zr place) (hv : gInv g gh R AR I AI) (hx : xS g gh R AR x pA bA nA) (hou : gAr g ou 10 1) (hlen : (I pA 1).toInt = (nr : Int)) (hln : ∀ r, r < nr → lnC (I (rob AR (gh 6 pA) r)) (AI (gh 3 (rob AR (gh 6 pA) r))) (cc r)) (hst : l.stackTraces = false) : gMetX l g yL_at tsL_at rmL_atf [.ref x, .int (iI rel), .int (iI row), .int (iI place), .ref ou] (I, R, J, AI, AJ, AR) (gQi g (fun (z : Int) (w : gS) => I = w.1 ∧ R = w.2.1 ∧ J = w.2.2.1 ∧ AI = w.2.2.2.1 ∧ AR = w.2.2.2.2.2 ∧ (gInv g gh R AR I AI) ∧ (z = 0 ∨ z = 1) ∧ ((z = 0 ∧ ∃ v9 : Int, (((0 ≤ rel ∧ rel < (nr : Int)) ∧ (place = 4 ∨ (0 ≤ place ∧ place < (cc rel.toNat).1 1)) ∧ 0 ≤ row ∧ row < (((rfC gh AR I AI bA rel.toNat).1 : Nat) : Int)) ∧ v9 = (((rfC gh AR I AI bA rel.toNat)).2 (6 * row.toNat + place.toNat)).toInt) ∧ zr v9 ∧ (w.2.2.2.2.1) ou 0 = (iI v9).toInt64) ∨ (z = 1 ∧ (¬ ((0 ≤ rel ∧ rel < (nr : Int)) ∧ (place = 4 ∨ (0 ≤ place ∧ place < (cc rel.toNat).1 1)) ∧ 0 ≤ row ∧ row < (((rfC gh AR I AI bA rel.toNat).1 : Nat) : Int))))) ∧ (∀ b, b ≠ ou → (w.2.2.2.2.1) b = AJ b))) (fun _ : gS => False) := by
  refine gStartW (cc := cL_at) (maxL := 6) (ret := (some (.int))) (by decide) rfl (Nat.le_of_ble_eq_true rfl) ?_
  intro p e s m below meth c ls F hr hlk hH hz hS hxt hTh hl
  have hl : lv_has ls 6 [(0, .ref x), (1, .int (iI rel)), (2, .int (iI row)), (3, .int (iI place)), (4, .ref ou)] := hl
  have hS : va_S (gA g) s.heap s.heap [] := hS
  obtain ⟨H, hHe⟩ : ∃ H : Heap, H = s.heap := ⟨_, rfl⟩
  obtain ⟨locs, hlo⟩ : ∃ k : List Loc, k = [] := ⟨_, rfl⟩
  have hH : gH g I R J AI AJ AR H := by rw [hHe]; exact hH
  have hS : va_S (gA g) s.heap H locs := by rw [hHe, hlo]; exact hS
  suffices hw : W p l e rmL_atf s m ([.ref x, .int (iI rel), .int (iI row), .int (iI place), .ref ou] : List Value).toArray below meth c H locs 0 0 (vx_MQ below (gQi g (fun (z : Int) (w : gS) => I = w.1 ∧ R = w.2.1 ∧ J = w.2.2.1 ∧ AI = w.2.2.2.1 ∧ AR = w.2.2.2.2.2 ∧ (gInv g gh R AR I AI) ∧ (z = 0 ∨ z = 1) ∧ ((z = 0 ∧ ∃ v9 : Int, (((0 ≤ rel ∧ rel < (nr : Int)) ∧ (place = 4 ∨ (0 ≤ place ∧ place < (cc rel.toNat).1 1)) ∧ 0 ≤ row ∧ row < (((rfC gh AR I AI bA rel.toNat).1 : Nat) : Int)) ∧ v9 = (((rfC gh AR I AI bA rel.toNat)).2 (6 * row.toNat + place.toNat)).toInt) ∧ zr v9 ∧ (w.2.2.2.2.1) ou 0 = (iI v9).toInt64) ∨ (z = 1 ∧ (¬ ((0 ≤ rel ∧ rel < (nr : Int)) ∧ (place = 4 ∨ (0 ≤ place ∧ place < (cc rel.toNat).1 1)) ∧ 0 ≤ row ∧ row < (((rfC gh AR I AI bA rel.toNat).1 : Nat) : Int))))) ∧ (∀ b, b ≠ ou → (w.2.2.2.2.1) b = AJ b))) (vx_X (fun _ : gS => False) (gBX g) (gA g)) ([.ref x, .int (iI rel), .int (iI row), .int (iI place), .ref ou] : List Value).toArray s 1 6 (gA g)) (F0 m 0 ls []) by
    rw [hHe, hlo] at hw; exact hw
  clear hHe hlo
  refine lv_aload F.1 F.2.1 dL_at_0 (lv_at hl 4 rfl) ?_
  refine z_iconst F dL_at_2 ?_
  refine lv_aload_n F.1 F.2.1 dL_at_3 rfl (lv_at hl 0 rfl) ?_
  refine lv_iload_n F.1 F.2.1 dL_at_4 rfl (lv_at hl 1 rfl) ?_
  refine lv_iload_n F.1 F.2.1 dL_at_5 rfl (lv_at hl 2 rfl) ?_
  refine lv_iload_n F.1 F.2.1 dL_at_6 rfl (lv_at hl 3 rfl) ?_
  refine g_calliX (g_runVX (As := [.int (iI rel), .int (iI row), .int (iI place)]) (rest := [.int (iI 0), .ref ou]) (ci := 6) F hTh hl.1 hH hS hz (c_X6_atf l g gh pA bA nA nr cc I R J AI AJ AR x rel row place zrel zrow zplace hv hx hlen hln hst) (cwV 3 F.2.2.2.2.1 (good_up gTB_L_at_X6_at) rfl rfl rfl hdX6_at ⟨Nat.le_of_ble_eq_true rfl, Nat.le_of_ble_eq_true rfl⟩) hx.1 (by decide) rfl rfl rfl (Nat.le_of_ble_eq_true rfl) dL_at_7 ⟨Nat.le_refl _, Nat.le_refl _⟩) hS (fun ce9 q9 I_1 R_2 J_3 AI_4 AJ_5 AR_6 H locs hp hH hS h1 h2 h3 => ?_) (fun z I_1 R_2 J_3 AI_4 AJ_5 AR_6 H locs zz hp hH hS => ?_)
  · dsimp only at hp
    obtain ⟨rfl, rfl, rfl, rfl, rfl, rfl, qtx⟩ := hp
    refine g_catch F hTh hxt (by decide) (by decide) (List.mem_cons_of_mem _ (TBm (tk4 (List.mem_of_getElem? (i := 151) rfl)) rfl)) h1 h2 h3 ?_
    refine lv_astore (lv' := [(5, .ref q9), (0, .ref x), (1, .int (iI rel)), (2, .int (iI row)), (3, .int (iI place)), (4, .ref ou)]) F.1 F.2.1 dL_at_15 hl (by decide) rfl (fun ls hl => ?_)
    refine z_iconst F dL_at_17 ?_
    exact g_iretX F hr hlk hH hS hz ⟨by decide, by decide⟩ ⟨rfl, rfl, rfl, rfl, rfl, hv, by first | omega | rfl | (dsimp only; omega), Or.inr ⟨rfl, qtx⟩, (fun _ _ => rfl)⟩ (by decide) (by decide) dL_at_18
  dsimp only at hp
  obtain ⟨rfl, rfl, rfl, rfl, rfl, rfl, qtv⟩ := hp
  refine lv_i2l F.1 F.2.1 dL_at_10 rfl ?_
  refine lv_topl (fun j_7 ej_7 => ?_)
  have hx11 : 0 ≤ (0 : Int) ∧ (0 : Int) < ((1 : Nat) : Int) ∧ (0 : Int) ≤ 2147483647 := ⟨by omega, by omega, by omega⟩
  refine g_last F hH hS hou hx11.1 hx11.2.1 hx11.2.2 dL_at_11 (fun H locs hH hS => ?_)
  obtain ⟨AJ_8, eAJ_8⟩ : ∃ qQ, qQ = gup2 AJ ou ((0 : Int)).toNat (j_7) := ⟨_, rfl⟩
  rw [← eAJ_8] at hH
  have kAJ_8 : ∀ b, b ≠ ou → AJ_8 b = AJ b := fun b hb => by rw [eAJ_8]; exact funext fun j => gup2_a _ _ hb
  refine z_goto (tgt := 19) F dL_at_12 (by decide) ?_
  refine z_iconst F dL_at_19 ?_
  exact g_iretX F hr hlk hH hS hz ⟨by decide, by decide⟩ ⟨rfl, rfl, rfl, rfl, rfl, hv, by first | omega | rfl | (dsimp only; omega), Or.inl ⟨rfl, _, qtv, zz, by (try dsimp only); rw [eAJ_8, gup2_e _ _ (by decide), ej_7]⟩, kAJ_8⟩ (by decide) (by decide) dL_at_20

def rmL_totalf : Room := { frames := 7, cells := 1, slots := 6, locals := 106 }
set_option maxHeartbeats 4000000 in
set_option maxRecDepth 100000 in
/-- total, caught -/
theorem c_L_totalf (l : Launch) (g : gG) (gh : gGh) (pA bA nA : Nat) (nr : Nat) (I : gI) (R : gR) (J : gJ) (AI : gI) (AJ : gJ) (AR : gR) (x : Nat) (rel : Int) (ou : Nat) (zrel : zr rel) (hv : gInv g gh R AR I AI) (hx : xS g gh R AR x pA bA nA) (hou : gAr g ou 10 1) (hlen : (I pA 1).toInt = (nr : Int)) (hst : l.stackTraces = false) : gMetX l g yL_total tsL_total rmL_totalf [.ref x, .int (iI rel), .ref ou] (I, R, J, AI, AJ, AR) (gQi g (fun (z : Int) (w : gS) => I = w.1 ∧ R = w.2.1 ∧ J = w.2.2.1 ∧ AI = w.2.2.2.1 ∧ AR = w.2.2.2.2.2 ∧ (gInv g gh R AR I AI) ∧ (z = 0 ∨ z = 1) ∧ ((z = 0 ∧ ∃ v9 : Int, ((0 ≤ rel ∧ rel < (nr : Int)) ∧ iI v9 = smA ((rfC gh AR I AI bA rel.toNat)).2 ((rfC gh AR I AI bA rel.toNat)).1) ∧ zr v9 ∧ (w.2.2.2.2.1) ou 0 = (iI v9).toInt64) ∨ (z = 1 ∧ (rel < 0 ∨ (nr : Int) ≤ rel))) ∧ (∀ b, b ≠ ou → (w.2.2.2.2.1) b = AJ b))) (fun _ : gS => False) := by
  refine gStartW (cc := cL_total) (maxL := 4) (ret := (some (.int))) (by decide) rfl (Nat.le_of_ble_eq_true rfl) ?_
  intro p e s m below meth c ls F hr hlk hH hz hS hxt hTh hl
  have hl : lv_has ls 4 [(0, .ref x), (1, .int (iI rel)), (2, .ref ou)] := hl
  have hS : va_S (gA g) s.heap s.heap [] := hS
  obtain ⟨H, hHe⟩ : ∃ H : Heap, H = s.heap := ⟨_, rfl⟩
  obtain ⟨locs, hlo⟩ : ∃ k : List Loc, k = [] := ⟨_, rfl⟩
  have hH : gH g I R J AI AJ AR H := by rw [hHe]; exact hH
  have hS : va_S (gA g) s.heap H locs := by rw [hHe, hlo]; exact hS
  suffices hw : W p l e rmL_totalf s m ([.ref x, .int (iI rel), .ref ou] : List Value).toArray below meth c H locs 0 0 (vx_MQ below (gQi g (fun (z : Int) (w : gS) => I = w.1 ∧ R = w.2.1 ∧ J = w.2.2.1 ∧ AI = w.2.2.2.1 ∧ AR = w.2.2.2.2.2 ∧ (gInv g gh R AR I AI) ∧ (z = 0 ∨ z = 1) ∧ ((z = 0 ∧ ∃ v9 : Int, ((0 ≤ rel ∧ rel < (nr : Int)) ∧ iI v9 = smA ((rfC gh AR I AI bA rel.toNat)).2 ((rfC gh AR I AI bA rel.toNat)).1) ∧ zr v9 ∧ (w.2.2.2.2.1) ou 0 = (iI v9).toInt64) ∨ (z = 1 ∧ (rel < 0 ∨ (nr : Int) ≤ rel))) ∧ (∀ b, b ≠ ou → (w.2.2.2.2.1) b = AJ b))) (vx_X (fun _ : gS => False) (gBX g) (gA g)) ([.ref x, .int (iI rel), .ref ou] : List Value).toArray s 1 6 (gA g)) (F0 m 0 ls []) by
    rw [hHe, hlo] at hw; exact hw
  clear hHe hlo
  refine lv_aload_n F.1 F.2.1 dL_total_0 rfl (lv_at hl 2 rfl) ?_
  refine z_iconst F dL_total_1 ?_
  refine lv_aload_n F.1 F.2.1 dL_total_2 rfl (lv_at hl 0 rfl) ?_
  refine lv_iload_n F.1 F.2.1 dL_total_3 rfl (lv_at hl 1 rfl) ?_
  refine g_calliX (g_runVX (As := [.int (iI rel)]) (rest := [.int (iI 0), .ref ou]) (ci := 6) F hTh hl.1 hH hS hz (c_X6_totalf l g gh pA bA nA nr I R J AI AJ AR x rel zrel hv hx hlen hst) (cwV 1 F.2.2.2.2.1 (good_up gTB_L_total_X6_total) rfl rfl rfl hdX6_total ⟨Nat.le_of_ble_eq_true rfl, Nat.le_of_ble_eq_true rfl⟩) hx.1 (by decide) rfl rfl rfl (Nat.le_of_ble_eq_true rfl) dL_total_4 ⟨Nat.le_refl _, Nat.le_refl _⟩) hS (fun ce9 q9 I_1 R_2 J_3 AI_4 AJ_5 AR_6 H locs hp hH hS h1 h2 h3 => ?_) (fun z I_1 R_2 J_3 AI_4 AJ_5 AR_6 H locs zz hp hH hS => ?_)
  · dsimp only at hp
    obtain ⟨rfl, rfl, rfl, rfl, rfl, rfl, qtx⟩ := hp
    refine g_catch F hTh hxt (by decide) (by decide) (List.mem_cons_of_mem _ (TBm (tk4 (List.mem_of_getElem? (i := 151) rfl)) rfl)) h1 h2 h3 ?_
    refine lv_astore_n (lv' := [(3, .ref q9), (0, .ref x), (1, .int (iI rel)), (2, .ref ou)]) F.1 F.2.1 dL_total_12 rfl hl (by decide) rfl (fun ls hl => ?_)
    refine z_iconst F dL_total_13 ?_
    exact g_iretX F hr hlk hH hS hz ⟨by decide, by decide⟩ ⟨rfl, rfl, rfl, rfl, rfl, hv, by first | omega | rfl | (dsimp only; omega), Or.inr ⟨rfl, qtx⟩, (fun _ _ => rfl)⟩ (by decide) (by decide) dL_total_14
  dsimp only at hp
  obtain ⟨rfl, rfl, rfl, rfl, rfl, rfl, qtv⟩ := hp
  refine lv_i2l F.1 F.2.1 dL_total_7 rfl ?_
  refine lv_topl (fun j_7 ej_7 => ?_)
  have hx8 : 0 ≤ (0 : Int) ∧ (0 : Int) < ((1 : Nat) : Int) ∧ (0 : Int) ≤ 2147483647 := ⟨by omega, by omega, by omega⟩
  refine g_last F hH hS hou hx8.1 hx8.2.1 hx8.2.2 dL_total_8 (fun H locs hH hS => ?_)
  obtain ⟨AJ_8, eAJ_8⟩ : ∃ qQ, qQ = gup2 AJ ou ((0 : Int)).toNat (j_7) := ⟨_, rfl⟩
  rw [← eAJ_8] at hH
  have kAJ_8 : ∀ b, b ≠ ou → AJ_8 b = AJ b := fun b hb => by rw [eAJ_8]; exact funext fun j => gup2_a _ _ hb
  refine z_goto (tgt := 15) F dL_total_9 (by decide) ?_
  refine z_iconst F dL_total_15 ?_
  exact g_iretX F hr hlk hH hS hz ⟨by decide, by decide⟩ ⟨rfl, rfl, rfl, rfl, rfl, hv, by first | omega | rfl | (dsimp only; omega), Or.inl ⟨rfl, _, qtv, zz, by (try dsimp only); rw [eAJ_8, gup2_e _ _ (by decide), ej_7]⟩, kAJ_8⟩ (by decide) (by decide) dL_total_16

def rmL_movedAtf : Room := { frames := 8, cells := 1, slots := 6, locals := 128 }
set_option maxHeartbeats 4000000 in
set_option maxRecDepth 100000 in
/-- movedAt, caught -/
theorem c_L_movedAtf (l : Launch) (g : gG) (gh : gGh) (pA bA nA : Nat) (nr : Nat) (cc : Nat → LC) (I : gI) (R : gR) (J : gJ) (AI : gI) (AJ : gJ) (AR : gR) (x : Nat) (rel : Int) (row : Int) (place : Int) (ou : Nat) (zrel : zr rel) (zrow : zr row) (zplace : zr place) (hv : gInv g gh R AR I AI) (hx : xS g gh R AR x pA bA nA) (hou : gAr g ou 10 1) (hlen : (I pA 1).toInt = (nr : Int)) (hln : ∀ r, r < nr → lnC (I (rob AR (gh 6 pA) r)) (AI (gh 3 (rob AR (gh 6 pA) r))) (cc r)) (hst : l.stackTraces = false) : gMetX l g yL_movedAt tsL_movedAt rmL_movedAtf [.ref x, .int (iI rel), .int (iI row), .int (iI place), .ref ou] (I, R, J, AI, AJ, AR) (gQi g (fun (z : Int) (w : gS) => I = w.1 ∧ R = w.2.1 ∧ J = w.2.2.1 ∧ AI = w.2.2.2.1 ∧ AR = w.2.2.2.2.2 ∧ (gInv g gh R AR I AI) ∧ (z = 0 ∨ z = 1) ∧ ((z = 0 ∧ ∃ v9 : Int, (((0 ≤ rel ∧ rel < (nr : Int)) ∧ (place = 4 ∨ (0 ≤ place ∧ place < (cc rel.toNat).1 1)) ∧ 0 ≤ row ∧ row < (((rfC gh AR I AI (gh 35 0) rel.toNat).1 : Nat) : Int)) ∧ v9 = (((rfC gh AR I AI (gh 35 0) rel.toNat)).2 (6 * row.toNat + place.toNat)).toInt) ∧ zr v9 ∧ (w.2.2.2.2.1) ou 0 = (iI v9).toInt64) ∨ (z = 1 ∧ (¬ ((0 ≤ rel ∧ rel < (nr : Int)) ∧ (place = 4 ∨ (0 ≤ place ∧ place < (cc rel.toNat).1 1)) ∧ 0 ≤ row ∧ row < (((rfC gh AR I AI (gh 35 0) rel.toNat).1 : Nat) : Int))))) ∧ (∀ b, b ≠ ou → (w.2.2.2.2.1) b = AJ b))) (fun _ : gS => False) := by
  refine gStartW (cc := cL_movedAt) (maxL := 6) (ret := (some (.int))) (by decide) rfl (Nat.le_of_ble_eq_true rfl) ?_
  intro p e s m below meth c ls F hr hlk hH hz hS hxt hTh hl
  have hl : lv_has ls 6 [(0, .ref x), (1, .int (iI rel)), (2, .int (iI row)), (3, .int (iI place)), (4, .ref ou)] := hl
  have hS : va_S (gA g) s.heap s.heap [] := hS
  obtain ⟨H, hHe⟩ : ∃ H : Heap, H = s.heap := ⟨_, rfl⟩
  obtain ⟨locs, hlo⟩ : ∃ k : List Loc, k = [] := ⟨_, rfl⟩
  have hH : gH g I R J AI AJ AR H := by rw [hHe]; exact hH
  have hS : va_S (gA g) s.heap H locs := by rw [hHe, hlo]; exact hS
  suffices hw : W p l e rmL_movedAtf s m ([.ref x, .int (iI rel), .int (iI row), .int (iI place), .ref ou] : List Value).toArray below meth c H locs 0 0 (vx_MQ below (gQi g (fun (z : Int) (w : gS) => I = w.1 ∧ R = w.2.1 ∧ J = w.2.2.1 ∧ AI = w.2.2.2.1 ∧ AR = w.2.2.2.2.2 ∧ (gInv g gh R AR I AI) ∧ (z = 0 ∨ z = 1) ∧ ((z = 0 ∧ ∃ v9 : Int, (((0 ≤ rel ∧ rel < (nr : Int)) ∧ (place = 4 ∨ (0 ≤ place ∧ place < (cc rel.toNat).1 1)) ∧ 0 ≤ row ∧ row < (((rfC gh AR I AI (gh 35 0) rel.toNat).1 : Nat) : Int)) ∧ v9 = (((rfC gh AR I AI (gh 35 0) rel.toNat)).2 (6 * row.toNat + place.toNat)).toInt) ∧ zr v9 ∧ (w.2.2.2.2.1) ou 0 = (iI v9).toInt64) ∨ (z = 1 ∧ (¬ ((0 ≤ rel ∧ rel < (nr : Int)) ∧ (place = 4 ∨ (0 ≤ place ∧ place < (cc rel.toNat).1 1)) ∧ 0 ≤ row ∧ row < (((rfC gh AR I AI (gh 35 0) rel.toNat).1 : Nat) : Int))))) ∧ (∀ b, b ≠ ou → (w.2.2.2.2.1) b = AJ b))) (vx_X (fun _ : gS => False) (gBX g) (gA g)) ([.ref x, .int (iI rel), .int (iI row), .int (iI place), .ref ou] : List Value).toArray s 1 6 (gA g)) (F0 m 0 ls []) by
    rw [hHe, hlo] at hw; exact hw
  clear hHe hlo
  refine lv_aload F.1 F.2.1 dL_movedAt_0 (lv_at hl 4 rfl) ?_
  refine z_iconst F dL_movedAt_2 ?_
  refine lv_aload_n F.1 F.2.1 dL_movedAt_3 rfl (lv_at hl 0 rfl) ?_
  refine lv_iload_n F.1 F.2.1 dL_movedAt_4 rfl (lv_at hl 1 rfl) ?_
  refine lv_iload_n F.1 F.2.1 dL_movedAt_5 rfl (lv_at hl 2 rfl) ?_
  refine lv_iload_n F.1 F.2.1 dL_movedAt_6 rfl (lv_at hl 3 rfl) ?_
  refine g_calliX (g_runVX (As := [.int (iI rel), .int (iI row), .int (iI place)]) (rest := [.int (iI 0), .ref ou]) (ci := 6) F hTh hl.1 hH hS hz (c_X6_movedAtf l g gh pA bA nA nr cc I R J AI AJ AR x rel row place zrel zrow zplace hv hx hlen hln hst) (cwV 3 F.2.2.2.2.1 (good_up gTB_L_movedAt_X6_movedAt) rfl rfl rfl hdX6_movedAt ⟨Nat.le_of_ble_eq_true rfl, Nat.le_of_ble_eq_true rfl⟩) hx.1 (by decide) rfl rfl rfl (Nat.le_of_ble_eq_true rfl) dL_movedAt_7 ⟨Nat.le_refl _, Nat.le_refl _⟩) hS (fun ce9 q9 I_1 R_2 J_3 AI_4 AJ_5 AR_6 H locs hp hH hS h1 h2 h3 => ?_) (fun z I_1 R_2 J_3 AI_4 AJ_5 AR_6 H locs zz hp hH hS => ?_)
  · dsimp only at hp
    obtain ⟨rfl, rfl, rfl, rfl, rfl, rfl, qtx⟩ := hp
    refine g_catch F hTh hxt (by decide) (by decide) (List.mem_cons_of_mem _ (TBm (tk4 (List.mem_of_getElem? (i := 151) rfl)) rfl)) h1 h2 h3 ?_
    refine lv_astore (lv' := [(5, .ref q9), (0, .ref x), (1, .int (iI rel)), (2, .int (iI row)), (3, .int (iI place)), (4, .ref ou)]) F.1 F.2.1 dL_movedAt_15 hl (by decide) rfl (fun ls hl => ?_)
    refine z_iconst F dL_movedAt_17 ?_
    exact g_iretX F hr hlk hH hS hz ⟨by decide, by decide⟩ ⟨rfl, rfl, rfl, rfl, rfl, hv, by first | omega | rfl | (dsimp only; omega), Or.inr ⟨rfl, qtx⟩, (fun _ _ => rfl)⟩ (by decide) (by decide) dL_movedAt_18
  dsimp only at hp
  obtain ⟨rfl, rfl, rfl, rfl, rfl, rfl, qtv⟩ := hp
  refine lv_i2l F.1 F.2.1 dL_movedAt_10 rfl ?_
  refine lv_topl (fun j_7 ej_7 => ?_)
  have hx11 : 0 ≤ (0 : Int) ∧ (0 : Int) < ((1 : Nat) : Int) ∧ (0 : Int) ≤ 2147483647 := ⟨by omega, by omega, by omega⟩
  refine g_last F hH hS hou hx11.1 hx11.2.1 hx11.2.2 dL_movedAt_11 (fun H locs hH hS => ?_)
  obtain ⟨AJ_8, eAJ_8⟩ : ∃ qQ, qQ = gup2 AJ ou ((0 : Int)).toNat (j_7) := ⟨_, rfl⟩
  rw [← eAJ_8] at hH
  have kAJ_8 : ∀ b, b ≠ ou → AJ_8 b = AJ b := fun b hb => by rw [eAJ_8]; exact funext fun j => gup2_a _ _ hb
  refine z_goto (tgt := 19) F dL_movedAt_12 (by decide) ?_
  refine z_iconst F dL_movedAt_19 ?_
  exact g_iretX F hr hlk hH hS hz ⟨by decide, by decide⟩ ⟨rfl, rfl, rfl, rfl, rfl, hv, by first | omega | rfl | (dsimp only; omega), Or.inl ⟨rfl, _, qtv, zz, by (try dsimp only); rw [eAJ_8, gup2_e _ _ (by decide), ej_7]⟩, kAJ_8⟩ (by decide) (by decide) dL_movedAt_20
end
section
/-! the last round, read off the marks -/
def rdX (f : Nat → Int32) (i : Nat) (v : Int) : Prop := 0 ≤ v ∧ (∀ q, q < i → (f (6 * q + 5)).toInt ≤ v) ∧ (v = 0 ∨ ∃ q, q < i ∧ v = (f (6 * q + 5)).toInt)
theorem rdX_0 {f : Nat → Int32} : rdX f 0 0 := ⟨Int.le_refl _, fun q h => absurd h (Nat.not_lt_zero q), Or.inl rfl⟩
theorem rdX_s {f : Nat → Int32} {i : Nat} {v w : Int} (h : rdX f i v) (hw : (w = v ∧ (f (6 * i + 5)).toInt ≤ v) ∨ (w = (f (6 * i + 5)).toInt ∧ v ≤ (f (6 * i + 5)).toInt)) : rdX f (i + 1) w := by
  obtain ⟨h1, h2, h3⟩ := h
  refine ⟨by omega, fun q hq => ?_, ?_⟩
  · by_cases e : q = i
    · rw [e]; omega
    · have := h2 q (by omega); omega
  · rcases hw with ⟨e, _⟩ | ⟨e, _⟩
    · rw [e]; exact h3.imp id (fun ⟨q, a, b⟩ => ⟨q, by omega, b⟩)
    · exact Or.inr ⟨i, by omega, e⟩
theorem rg_R {c : LC} {x y f : Nat → Int32} {n m R k : Nat} {z : Int} (h : rgY c x n y m R f k) (hz : rdX f k z) : z = (R : Int) := by
  obtain ⟨h1, _, h3, _, M, h5, h6⟩ := h
  obtain ⟨z1, z2, z3⟩ := hz
  have mk : ∀ q, q < k → ∃ w : Nat, w ≤ R ∧ (f (6 * q + 5)).toInt = (w : Int) := fun q hq => by
    have r := h5.2.1 q hq
    obtain ⟨w, w1, w2⟩ := rS_at R _ r.1
    refine ⟨w, w1, ?_⟩
    rw [r.2.2, h6 w _ w1 w2, iI_val ⟨by omega, by omega⟩]
  have le : z ≤ (R : Int) := by
    rcases z3 with e | ⟨q, a, e⟩
    · omega
    · obtain ⟨w, w1, w2⟩ := mk q a
      omega
  have ge : (R : Int) ≤ z := by
    rcases h3 with e | ⟨t, ht⟩
    · omega
    · obtain ⟨q, a, e⟩ := h5.2.2 t (rS_new R t ht)
      have r := (h5.2.1 q a).2.2
      rw [e, h6 R t (Nat.le_refl _) ht] at r
      have s := z2 q a
      rw [r, iI_val ⟨by omega, by omega⟩] at s
      exact s
  omega
end
section
def rmX6_roundsf : Room := { frames := 2, cells := 0, slots := 0, locals := 42 }
set_option maxHeartbeats 4000000 in
set_option maxRecDepth 100000 in
/-- rounds -/
theorem c_X6_roundsf (l : Launch) (g : gG) (gh : gGh) (pA bA nA : Nat) (nr : Nat) (cc : Nat → LC) (I : gI) (R : gR) (J : gJ) (AI : gI) (AJ : gJ) (AR : gR) (x : Nat) (rel : Int) (zrel : zr rel) (hv : gInv g gh R AR I AI) (hx : xS g gh R AR x pA bA nA) (hlen : (I pA 1).toInt = (nr : Int)) (hln : ∀ r, r < nr → lnC (I (rob AR (gh 6 pA) r)) (AI (gh 3 (rob AR (gh 6 pA) r))) (cc r)) : gMet l g yX6_rounds wsX6_rounds rmX6_roundsf [.ref x, .int (iI rel)] (I, R, J, AI, AJ, AR) (gQi g (fun (z : Int) (w : gS) => I = w.1 ∧ R = w.2.1 ∧ J = w.2.2.1 ∧ AI = w.2.2.2.1 ∧ AJ = w.2.2.2.2.1 ∧ AR = w.2.2.2.2.2 ∧ ((¬ ((0 ≤ rel ∧ rel < (nr : Int)) ∧ (cc rel.toNat).1 0 = 8) ∧ z = -1) ∨ (((0 ≤ rel ∧ rel < (nr : Int)) ∧ (cc rel.toNat).1 0 = 8) ∧ rdX ((rfC gh AR I AI bA rel.toNat)).2 ((rfC gh AR I AI bA rel.toNat)).1 z)))) := by
  refine gStart (cc := cX6_rounds) (maxL := 5) (ret := (some (.int))) (by decide) rfl (Nat.le_of_ble_eq_true rfl) ?_
  intro p e s m below meth c ls F hr hlk hH hz hS hl
  have hl : lv_has ls 5 [(0, .ref x), (1, .int (iI rel))] := hl
  have hS : va_S (gA g) s.heap s.heap [] := hS
  obtain ⟨H, hHe⟩ : ∃ H : Heap, H = s.heap := ⟨_, rfl⟩
  obtain ⟨locs, hlo⟩ : ∃ k : List Loc, k = [] := ⟨_, rfl⟩
  have hH : gH g I R J AI AJ AR H := by rw [hHe]; exact hH
  have hS : va_S (gA g) s.heap H locs := by rw [hHe, hlo]; exact hS
  suffices hw : W p l e rmX6_roundsf s m ([.ref x, .int (iI rel)] : List Value).toArray below meth c H locs 0 0 (MQ below (gQi g (fun (z : Int) (w : gS) => I = w.1 ∧ R = w.2.1 ∧ J = w.2.2.1 ∧ AI = w.2.2.2.1 ∧ AJ = w.2.2.2.2.1 ∧ AR = w.2.2.2.2.2 ∧ ((¬ ((0 ≤ rel ∧ rel < (nr : Int)) ∧ (cc rel.toNat).1 0 = 8) ∧ z = -1) ∨ (((0 ≤ rel ∧ rel < (nr : Int)) ∧ (cc rel.toNat).1 0 = 8) ∧ rdX ((rfC gh AR I AI bA rel.toNat)).2 ((rfC gh AR I AI bA rel.toNat)).1 z)))) ([.ref x, .int (iI rel)] : List Value).toArray s 0 0 (gA g)) (F0 m 0 ls []) by
    rw [hHe, hlo] at hw; exact hw
  clear hHe hlo
  have iX6 : ∀ w ∈ u_ws RX6 TX6 18, w ∈ wsX6_rounds := (by decide +kernel)
  have iX4 : ∀ w ∈ u_ws RX4 TX4 4, w ∈ wsX6_rounds := (by decide +kernel)
  have k38 : Cond.fieldLink RX6 38 (TX6 5).1 (TX6 5).2.1 (TX6 5).2.2.1 ∈ wsX6_rounds := List.mem_of_getElem? (i := 1) rfl
  have k99 : Cond.fieldLink RX6 99 (TX4 3).1 (TX4 3).2.1 (TX4 3).2.2.1 ∈ wsX6_rounds := List.mem_of_getElem? (i := 2) rfl
  refine lv_aload_n F.1 F.2.1 dX6_rounds_0 rfl (lv_at hl 0 rfl) ?_
  refine lv_iload_n F.1 F.2.1 dX6_rounds_1 rfl (lv_at hl 1 rfl) ?_
  have b_1 := gI_x hv hx.1
  refine g_calli (g_runV (As := [.int (iI rel)]) (rest := []) (ci := 6) F hl.1 hH hS hz (c_X6_isRingf l g gh pA bA nA nr cc I R J AI AJ AR x rel zrel hv hx (by omega) hln) (cwV 1 F.2.2.2.2.1 gX6_rounds_X6_isRing rfl rfl rfl hdX6_isRing ⟨Nat.le_of_ble_eq_true rfl, Nat.le_of_ble_eq_true rfl⟩) hx.1 (by decide) rfl rfl rfl (Nat.le_of_ble_eq_true rfl) dX6_rounds_2 ⟨Nat.zero_le _, Nat.zero_le _⟩) hS (fun v_8 I_2 R_3 J_4 AI_5 AJ_6 AR_7 H locs zv_8 hp_9 hH hS => ?_)
  dsimp only at hp_9
  obtain ⟨rfl, rfl, rfl, rfl, rfl, rfl, q_10, qrg⟩ := hp_9
  refine z_if_ne (tgt := 10) F dX6_rounds_5 (by decide) zv_8 (fun c_11 => ?_) (fun c_11 => ?_)
  · refine lv_aload_n F.1 F.2.1 dX6_rounds_10 rfl (lv_at hl 0 rfl) ?_
    refine g_getR (ci := 6) (k := 5) F hH rfl (by decide) iX6 hx.1 (by decide) rfl (b := bA) hx.2.2.2.1 k38 dX6_rounds_11 ?_
    refine lv_iload_n F.1 F.2.1 dX6_rounds_14 rfl (lv_at hl 1 rfl) ?_
    have hx15 : 0 ≤ rel ∧ rel < ((16 : Nat) : Int) ∧ rel ≤ 2147483647 := ⟨by omega, by omega, by omega⟩
    obtain ⟨y_12, y_12a, y_12b, y_12c, y_12d, y_12e⟩ := hx.2.2.2.2.1.2 (rel).toNat (by omega)
    refine g_aldR F hH hx.2.2.2.2.1.1 hx15.1 hx15.2.1 hx15.2.2 (b := y_12) y_12a dX6_rounds_15 ?_
    have hsz : (I y_12 3).toInt = ((((rfC gh AR I AI bA rel.toNat)).1 : Nat) : Int) := by unfold rfC; rw [rob_e y_12a]; have q9 := (gI_rows hv y_12b).2.2.1; omega
    have e2 : ((rfC gh AR I AI bA rel.toNat)).2 = AI (gh 0 y_12) := by unfold rfC; rw [rob_e y_12a]
    have hrl := gI_rows hv y_12b
    refine lv_astore_n (lv' := [(2, .ref y_12), (0, .ref x), (1, .int (iI rel))]) F.1 F.2.1 dX6_rounds_16 rfl hl (by decide) rfl (fun ls hl => ?_)
    refine z_iconst F dX6_rounds_17 ?_
    refine lv_istore_n (lv' := [(3, .int (iI 0)), (2, .ref y_12), (0, .ref x), (1, .int (iI rel))]) F.1 F.2.1 dX6_rounds_18 rfl hl (by decide) rfl (fun ls hl => ?_)
    refine z_iconst F dX6_rounds_19 ?_
    refine lv_istore (lv' := [(4, .int (iI 0)), (3, .int (iI 0)), (2, .ref y_12), (0, .ref x), (1, .int (iI rel))]) F.1 F.2.1 dX6_rounds_20 hl (by decide) rfl (fun ls hl => ?_)
    have cut_22_12 : ∀ (NN : Nat) (la i : Int) (H : Heap) (locs : List Loc) (ls : Array Slot), zr la → zr i → (0 ≤ i ∧ i ≤ 240) → (rdX ((rfC gh AR I AI bA rel.toNat)).2 i.toNat la) → (i ≤ ((((rfC gh AR I AI bA rel.toNat)).1 : Nat) : Int)) → (240 - i) < ((NN : Nat) : Int) → gH g I R J AI AJ AR H → va_S (gA g) s.heap H locs → lv_has ls 5 [(4, .int (iI i)), (3, .int (iI la)), (2, .ref y_12), (0, .ref x), (1, .int (iI rel))] → W p l e rmX6_roundsf s m ([.ref x, .int (iI rel)] : List Value).toArray below meth c H locs 0 0 (MQ below (gQi g (fun (z : Int) (w : gS) => I = w.1 ∧ R = w.2.1 ∧ J = w.2.2.1 ∧ AI = w.2.2.2.1 ∧ AJ = w.2.2.2.2.1 ∧ AR = w.2.2.2.2.2 ∧ ((¬ ((0 ≤ rel ∧ rel < (nr : Int)) ∧ (cc rel.toNat).1 0 = 8) ∧ z = -1) ∨ (((0 ≤ rel ∧ rel < (nr : Int)) ∧ (cc rel.toNat).1 0 = 8) ∧ rdX ((rfC gh AR I AI bA rel.toNat)).2 ((rfC gh AR I AI bA rel.toNat)).1 z)))) ([.ref x, .int (iI rel)] : List Value).toArray s 0 0 (gA g)) (F0 m 22 ls []) := by
      intro NN22
      induction NN22 with
      | zero =>
        intro la i H locs ls zla zi hi hmx hin hm22 hH hS hl
        exact absurd hm22 (by omega)
      | succ NN22 ih22 =>
        intro la i H locs ls zla zi hi hmx hin hm22 hH hS hl
        refine lv_iload F.1 F.2.1 dX6_rounds_22 (lv_at hl 0 rfl) ?_
        refine lv_aload_n F.1 F.2.1 dX6_rounds_24 rfl (lv_at hl 2 rfl) ?_
        refine g_getI (ci := 4) (k := 3) F hH rfl (by decide) iX4 y_12b (by decide) rfl k99 dX6_rounds_25 ?_
        obtain ⟨b_14a, b_14b, b_14c, b_14d, b_14e, b_14f, b_14g, b_14h⟩ := gI_rows hv y_12b
        refine z_icmp_ge (tgt := 49) F dX6_rounds_28 (by decide) zi (zr_t _) (fun c_15 => ?_) (fun c_15 => ?_)
        · refine lv_iload_n F.1 F.2.1 dX6_rounds_49 rfl (lv_at hl 1 rfl) ?_
          exact g_iret F hr hlk hH hS hz zla ⟨rfl, rfl, rfl, rfl, rfl, rfl, Or.inr ⟨tIz_1 qrg (by omega), by rw [← show i.toNat = ((rfC gh AR I AI bA rel.toNat)).1 by omega]; exact hmx⟩⟩ dX6_rounds_50
        · refine lv_iload_n F.1 F.2.1 dX6_rounds_31 rfl (lv_at hl 1 rfl) ?_
          refine lv_aload_n F.1 F.2.1 dX6_rounds_32 rfl (lv_at hl 2 rfl) ?_
          refine lv_iload F.1 F.2.1 dX6_rounds_33 (lv_at hl 0 rfl) ?_
          refine z_iconst F dX6_rounds_35 ?_
          refine g_calli (g_runV (As := [.int (iI i), .int (iI 5)]) (rest := [.int (iI la)]) (ci := 4) F hl.1 hH hS hz (c_X4_cell l g gh I R J AI AJ AR y_12 i 5 zi ⟨by decide, by decide⟩ hv y_12b (by omega) (by omega) (by omega) (by omega)) (cwV 2 F.2.2.2.2.1 gX6_rounds_X4_cell rfl rfl rfl hdX4_cell ⟨Nat.le_of_ble_eq_true rfl, Nat.le_of_ble_eq_true rfl⟩) y_12b (by decide) rfl rfl rfl (Nat.le_of_ble_eq_true rfl) dX6_rounds_36 ⟨Nat.zero_le _, Nat.zero_le _⟩) hS (fun v_22 I_16 R_17 J_18 AI_19 AJ_20 AR_21 H locs zv_22 hp_23 hH hS => ?_)
          dsimp only at hp_23
          obtain ⟨rfl, rfl, rfl, rfl, rfl, rfl, qce⟩ := hp_23
          have c36 : v_22 = (((rfC gh AR I AI bA rel.toNat)).2 (6 * i.toNat + 5)).toInt := by rw [e2, qce]; congr 2; omega
          refine z_mmax (rest := []) F hl.1 (List.mem_of_getElem? (i := 3) rfl) (List.mem_of_getElem? (i := 4) rfl) (List.mem_of_getElem? (i := 5) rfl) (List.mem_of_getElem? (i := 6) rfl) (Nat.le_of_ble_eq_true rfl) (Nat.le_of_ble_eq_true rfl) (Nat.zero_le _) (Nat.zero_le _) zla zv_22 dX6_rounds_39 (fun v_24 zv_24 qv_24 => ?_)
          have hmx9 : rdX ((rfC gh AR I AI bA rel.toNat)).2 (i + 1).toNat v_24 := by rw [show (i + 1).toNat = i.toNat + 1 by omega]; exact rdX_s hmx (by rw [← c36]; omega)
          refine lv_istore_n (lv' := [(3, .int (iI v_24)), (4, .int (iI i)), (2, .ref y_12), (0, .ref x), (1, .int (iI rel))]) F.1 F.2.1 dX6_rounds_42 rfl hl (by decide) rfl (fun ls hl => ?_)
          refine z_iinc (lv' := [(4, .int (iI (i + 1))), (3, .int (iI v_24)), (2, .ref y_12), (0, .ref x), (1, .int (iI rel))]) F dX6_rounds_43 hl (k := 1) rfl (by decide) rfl (fun ls hl => ?_)
          refine z_goto (tgt := 22) F dX6_rounds_46 (by decide) ?_
          exact ih22 v_24 (i + 1) H locs ls zv_24 ⟨by omega, by omega⟩ (by omega) hmx9 (by omega) (by omega) hH hS (lv_sub hl [0, 1, 2, 3, 4] rfl)
    exact cut_22_12 (((240 - 0) + 1 : Int).toNat) 0 0 H locs ls ⟨by decide, by decide⟩ ⟨by decide, by decide⟩ (by omega) rdX_0 (by omega) (by omega) hH hS (lv_sub hl [0, 1, 2, 3, 4] rfl)
  · refine z_iconst F dX6_rounds_8 ?_
    exact g_iret F hr hlk hH hS hz ⟨by decide, by decide⟩ ⟨rfl, rfl, rfl, rfl, rfl, rfl, Or.inl ⟨tIz_0 qrg (by omega), rfl⟩⟩ dX6_rounds_9
end
section
def rmX0_lastLetterl : Room := { frames := 0, cells := 0, slots := 0, locals := 0 }
set_option maxHeartbeats 4000000 in
set_option maxRecDepth 100000 in
/-- a letter -/
theorem c_X0_lastLetterl (l : Launch) (g : gG) (gh : gGh) (I : gI) (R : gR) (J : gJ) (AI : gI) (AJ : gJ) (AR : gR) (a : Nat) (hv : gInv g gh R AR I AI) (ha : gO g a 0) : gMet l g yX0_lastLetter wsX0_lastLetter rmX0_lastLetterl [.ref a] (I, R, J, AI, AJ, AR) (gQi g (fun (z : Int) (w : gS) => I = w.1 ∧ R = w.2.1 ∧ J = w.2.2.1 ∧ AI = w.2.2.2.1 ∧ AJ = w.2.2.2.2.1 ∧ AR = w.2.2.2.2.2 ∧ (iI z = kLc (J a 1)))) := by
  refine gStart (cc := cX0_lastLetter) (maxL := 1) (ret := (some (.int))) (by decide) rfl (Nat.le_of_ble_eq_true rfl) ?_
  intro p e s m below meth c ls F hr hlk hH hz hS hl
  have hl : lv_has ls 1 [(0, .ref a)] := hl
  have hS : va_S (gA g) s.heap s.heap [] := hS
  obtain ⟨H, hHe⟩ : ∃ H : Heap, H = s.heap := ⟨_, rfl⟩
  obtain ⟨locs, hlo⟩ : ∃ k : List Loc, k = [] := ⟨_, rfl⟩
  have hH : gH g I R J AI AJ AR H := by rw [hHe]; exact hH
  have hS : va_S (gA g) s.heap H locs := by rw [hHe, hlo]; exact hS
  suffices hw : W p l e rmX0_lastLetterl s m ([.ref a] : List Value).toArray below meth c H locs 0 0 (MQ below (gQi g (fun (z : Int) (w : gS) => I = w.1 ∧ R = w.2.1 ∧ J = w.2.2.1 ∧ AI = w.2.2.2.1 ∧ AJ = w.2.2.2.2.1 ∧ AR = w.2.2.2.2.2 ∧ (iI z = kLc (J a 1)))) ([.ref a] : List Value).toArray s 0 0 (gA g)) (F0 m 0 ls []) by
    rw [hHe, hlo] at hw; exact hw
  clear hHe hlo
  have iX0 : ∀ w ∈ u_ws RX0 TX0 15, w ∈ wsX0_lastLetter := (by decide +kernel)
  have k43 : Cond.fieldLink RX0 43 (TX0 1).1 (TX0 1).2.1 (TX0 1).2.2.1 ∈ wsX0_lastLetter := List.mem_of_getElem? (i := 1) rfl
  refine lv_aload_n F.1 F.2.1 dX0_lastLetter_0 rfl (lv_at hl 0 rfl) ?_
  refine g_getJ (ci := 0) (k := 1) F hH rfl (by decide) iX0 ha (by decide) rfl k43 dX0_lastLetter_1 ?_
  refine lv_topl (fun j_1 ej_1 => ?_)
  refine lv_ldc2 (v := 31) F.1 F.2.1 F.2.2.2.1 (F.2.2.2.2.1 _ (List.mem_of_getElem? (i := 2) rfl)) dX0_lastLetter_4 ?_
  refine lv_land F.1 F.2.1 dX0_lastLetter_7 ?_
  refine lv_topl (fun j_2 ej_2 => ?_)
  refine lv_l2i F.1 F.2.1 dX0_lastLetter_8 rfl ?_
  refine z_top (fun v_3 zv_3 ev_3 => ?_)
  have hpo : iI v_3 = kLc (J a 1) := by rw [ev_3, iI_self, ej_2, ej_1]; rfl
  exact g_iret F hr hlk hH hS hz zv_3 ⟨rfl, rfl, rfl, rfl, rfl, rfl, hpo⟩ dX0_lastLetter_9

def rmX0_firstLetterl : Room := { frames := 0, cells := 0, slots := 0, locals := 0 }
set_option maxHeartbeats 4000000 in
set_option maxRecDepth 100000 in
/-- a letter -/
theorem c_X0_firstLetterl (l : Launch) (g : gG) (gh : gGh) (I : gI) (R : gR) (J : gJ) (AI : gI) (AJ : gJ) (AR : gR) (a : Nat) (hv : gInv g gh R AR I AI) (ha : gO g a 0) : gMet l g yX0_firstLetter wsX0_firstLetter rmX0_firstLetterl [.ref a] (I, R, J, AI, AJ, AR) (gQi g (fun (z : Int) (w : gS) => I = w.1 ∧ R = w.2.1 ∧ J = w.2.2.1 ∧ AI = w.2.2.2.1 ∧ AJ = w.2.2.2.2.1 ∧ AR = w.2.2.2.2.2 ∧ (kLa (J a 1) z))) := by
  refine gStart (cc := cX0_firstLetter) (maxL := 4) (ret := (some (.int))) (by decide) rfl (Nat.le_of_ble_eq_true rfl) ?_
  intro p e s m below meth c ls F hr hlk hH hz hS hl
  have hl : lv_has ls 4 [(0, .ref a)] := hl
  have hS : va_S (gA g) s.heap s.heap [] := hS
  obtain ⟨H, hHe⟩ : ∃ H : Heap, H = s.heap := ⟨_, rfl⟩
  obtain ⟨locs, hlo⟩ : ∃ k : List Loc, k = [] := ⟨_, rfl⟩
  have hH : gH g I R J AI AJ AR H := by rw [hHe]; exact hH
  have hS : va_S (gA g) s.heap H locs := by rw [hHe, hlo]; exact hS
  suffices hw : W p l e rmX0_firstLetterl s m ([.ref a] : List Value).toArray below meth c H locs 0 0 (MQ below (gQi g (fun (z : Int) (w : gS) => I = w.1 ∧ R = w.2.1 ∧ J = w.2.2.1 ∧ AI = w.2.2.2.1 ∧ AJ = w.2.2.2.2.1 ∧ AR = w.2.2.2.2.2 ∧ (kLa (J a 1) z))) ([.ref a] : List Value).toArray s 0 0 (gA g)) (F0 m 0 ls []) by
    rw [hHe, hlo] at hw; exact hw
  clear hHe hlo
  have iX0 : ∀ w ∈ u_ws RX0 TX0 15, w ∈ wsX0_firstLetter := (by decide +kernel)
  have k43 : Cond.fieldLink RX0 43 (TX0 1).1 (TX0 1).2.1 (TX0 1).2.2.1 ∈ wsX0_firstLetter := List.mem_of_getElem? (i := 1) rfl
  refine lv_aload_n F.1 F.2.1 dX0_firstLetter_0 rfl (lv_at hl 0 rfl) ?_
  refine g_getJ (ci := 0) (k := 1) F hH rfl (by decide) iX0 ha (by decide) rfl k43 dX0_firstLetter_1 ?_
  refine lv_topl (fun j_1 ej_1 => ?_)
  refine lv_lstore_n (lv' := [(1, .long j_1), (0, .ref a)]) F.1 F.2.1 dX0_firstLetter_4 rfl hl (by decide) rfl (fun ls hl => ?_)
  refine z_iconst F dX0_firstLetter_5 ?_
  refine lv_istore_n (lv' := [(3, .int (iI 0)), (1, .long j_1), (0, .ref a)]) F.1 F.2.1 dX0_firstLetter_6 rfl hl (by decide) rfl (fun ls hl => ?_)
  have cut_7_1 : ∀ (NN : Nat) (k : Int) (nm : Int64) (H : Heap) (locs : List Loc) (ls : Array Slot), zr k → (0 ≤ k ∧ k ≤ 8) → (∃ jj : Nat, (jj : Int) = k ∧ nm = kFa (J a 1) jj ∧ ∀ i, i < jj → 31 < (kFa (J a 1) i).toInt) → (8 - k) < ((NN : Nat) : Int) → gH g I R J AI AJ AR H → va_S (gA g) s.heap H locs → lv_has ls 4 [(3, .int (iI k)), (1, .long nm), (0, .ref a)] → W p l e rmX0_firstLetterl s m ([.ref a] : List Value).toArray below meth c H locs 0 0 (MQ below (gQi g (fun (z : Int) (w : gS) => I = w.1 ∧ R = w.2.1 ∧ J = w.2.2.1 ∧ AI = w.2.2.2.1 ∧ AJ = w.2.2.2.2.1 ∧ AR = w.2.2.2.2.2 ∧ (kLa (J a 1) z))) ([.ref a] : List Value).toArray s 0 0 (gA g)) (F0 m 7 ls []) := by
    intro NN7
    induction NN7 with
    | zero =>
      intro k nm H locs ls zk hk hit hm7 hH hS hl
      exact absurd hm7 (by omega)
    | succ NN7 ih7 =>
      intro k nm H locs ls zk hk hit hm7 hH hS hl
      obtain ⟨jj, ejj, hjn, hjl⟩ := hit
      refine lv_iload_n F.1 F.2.1 dX0_firstLetter_7 rfl (lv_at hl 0 rfl) ?_
      refine z_bipush F dX0_firstLetter_8 (by decide) ?_
      refine z_icmp_ge (tgt := 31) F dX0_firstLetter_10 (by decide) zk ⟨by decide, by decide⟩ (fun c_3 => ?_) (fun c_3 => ?_)
      · refine lv_lload_n F.1 F.2.1 dX0_firstLetter_31 rfl (lv_at hl 1 rfl) ?_
        refine lv_l2i F.1 F.2.1 dX0_firstLetter_32 rfl ?_
        refine z_top (fun v_4 zv_4 ev_4 => ?_)
        have hpo : kLa (J a 1) v_4 := ⟨jj, by omega, hjl, fun h9 => by rw [← hjn]; omega, by rw [ev_4, iI_self, hjn]⟩
        exact g_iret F hr hlk hH hS hz zv_4 ⟨rfl, rfl, rfl, rfl, rfl, rfl, hpo⟩ dX0_firstLetter_33
      · refine lv_lload_n F.1 F.2.1 dX0_firstLetter_13 rfl (lv_at hl 1 rfl) ?_
        refine lv_ldc2 (v := 31) F.1 F.2.1 F.2.2.2.1 (F.2.2.2.2.1 _ (List.mem_of_getElem? (i := 2) rfl)) dX0_firstLetter_14 ?_
        refine W.lcmp F.1 F.2.1 dX0_firstLetter_17 ?_
        refine z_top (fun v_5 zv_5 ev_5 => ?_)
        have lv_5 : v_5 = 0 ↔ nm = (31) := by rw [ev_5]; exact z_lcmp
        have hc9 : v_5 < 0 ↔ nm.toInt < (31 : Int64).toInt := by rw [ev_5]; exact z_lcmp_lt
        have hc8 : (31 : Int64).toInt = 31 := by decide
        have hc7 : v_5 = 0 → nm.toInt = 31 := fun h => by rw [lv_5.mp h]; exact hc8
        have hc6 : v_5 ≠ 0 → nm.toInt ≠ 31 := fun h q => h (lv_5.mpr (Int64.toInt_inj.mp (q.trans hc8.symm)))
        refine z_if_le (tgt := 31) F dX0_firstLetter_18 (by decide) zv_5 (fun c_6 => ?_) (fun c_6 => ?_)
        · refine lv_lload_n F.1 F.2.1 dX0_firstLetter_31 rfl (lv_at hl 1 rfl) ?_
          refine lv_l2i F.1 F.2.1 dX0_firstLetter_32 rfl ?_
          refine z_top (fun v_7 zv_7 ev_7 => ?_)
          have hpo : kLa (J a 1) v_7 := ⟨jj, by omega, hjl, fun h9 => by rw [← hjn]; omega, by rw [ev_7, iI_self, hjn]⟩
          exact g_iret F hr hlk hH hS hz zv_7 ⟨rfl, rfl, rfl, rfl, rfl, rfl, hpo⟩ dX0_firstLetter_33
        · refine lv_lload_n F.1 F.2.1 dX0_firstLetter_21 rfl (lv_at hl 1 rfl) ?_
          refine z_iconst F dX0_firstLetter_22 ?_
          refine lv_lushr F.1 F.2.1 dX0_firstLetter_23 rfl ?_
          refine lv_topl (fun j_8 ej_8 => ?_)
          refine lv_lstore_n (lv' := [(1, .long j_8), (3, .int (iI k)), (0, .ref a)]) F.1 F.2.1 dX0_firstLetter_24 rfl hl (by decide) rfl (fun ls hl => ?_)
          refine z_iinc (lv' := [(3, .int (iI (k + 1))), (1, .long j_8), (0, .ref a)]) F dX0_firstLetter_25 hl (k := 1) rfl (by decide) rfl (fun ls hl => ?_)
          refine z_goto (tgt := 7) F dX0_firstLetter_28 (by decide) ?_
          exact ih7 (k + 1) j_8 H locs ls ⟨by omega, by omega⟩ (by omega) (⟨jj + 1, by omega, by rw [ej_8, hjn]; rfl, fun i hi => by by_cases q9 : i = jj; (· rw [q9, ← hjn]; omega); (· exact hjl i (by omega))⟩) (by omega) hH hS (lv_sub hl [0, 1, 2] rfl)
  exact cut_7_1 (((8 - 0) + 1 : Int).toNat) 0 j_1 H locs ls ⟨by decide, by decide⟩ (by omega) (⟨0, rfl, ej_1, fun i hi => absurd hi (Nat.not_lt_zero i)⟩) (by omega) hH hS (lv_sub hl [0, 1, 2] rfl)

def rmX2_hangingOnl : Room := { frames := 0, cells := 0, slots := 0, locals := 0 }
set_option maxHeartbeats 4000000 in
set_option maxRecDepth 100000 in
/-- what hangs on a relation -/
theorem c_X2_hangingOnl (l : Launch) (g : gG) (gh : gGh) (I : gI) (R : gR) (J : gJ) (AI : gI) (AJ : gJ) (AR : gR) (a : Nat) (rel : Int) (zrel : zr rel) (hv : gInv g gh R AR I AI) (ha : gO g a 2) : gMet l g yX2_hangingOn wsX2_hangingOn rmX2_hangingOnl [.ref a, .int (iI rel)] (I, R, J, AI, AJ, AR) (gQi g (fun (z : Int) (w : gS) => I = w.1 ∧ R = w.2.1 ∧ J = w.2.2.1 ∧ AI = w.2.2.2.1 ∧ AJ = w.2.2.2.2.1 ∧ AR = w.2.2.2.2.2 ∧ (iI z = kHc (fun u => I (rob AR (gh 6 a) u) 13) rel (I a 1).toInt.toNat))) := by
  refine gStart (cc := cX2_hangingOn) (maxL := 4) (ret := (some (.int))) (by decide) rfl (Nat.le_of_ble_eq_true rfl) ?_
  intro p e s m below meth c ls F hr hlk hH hz hS hl
  have hl : lv_has ls 4 [(0, .ref a), (1, .int (iI rel))] := hl
  have hS : va_S (gA g) s.heap s.heap [] := hS
  obtain ⟨H, hHe⟩ : ∃ H : Heap, H = s.heap := ⟨_, rfl⟩
  obtain ⟨locs, hlo⟩ : ∃ k : List Loc, k = [] := ⟨_, rfl⟩
  have hH : gH g I R J AI AJ AR H := by rw [hHe]; exact hH
  have hS : va_S (gA g) s.heap H locs := by rw [hHe, hlo]; exact hS
  suffices hw : W p l e rmX2_hangingOnl s m ([.ref a, .int (iI rel)] : List Value).toArray below meth c H locs 0 0 (MQ below (gQi g (fun (z : Int) (w : gS) => I = w.1 ∧ R = w.2.1 ∧ J = w.2.2.1 ∧ AI = w.2.2.2.1 ∧ AJ = w.2.2.2.2.1 ∧ AR = w.2.2.2.2.2 ∧ (iI z = kHc (fun u => I (rob AR (gh 6 a) u) 13) rel (I a 1).toInt.toNat))) ([.ref a, .int (iI rel)] : List Value).toArray s 0 0 (gA g)) (F0 m 0 ls []) by
    rw [hHe, hlo] at hw; exact hw
  clear hHe hlo
  have bq := gI_plan hv ha
  have iX2 : ∀ w ∈ u_ws RX2 TX2 3, w ∈ wsX2_hangingOn := (by decide +kernel)
  have iX0 : ∀ w ∈ u_ws RX0 TX0 15, w ∈ wsX2_hangingOn := (by decide +kernel)
  have k18 : Cond.fieldLink RX2 18 (TX2 1).1 (TX2 1).2.1 (TX2 1).2.2.1 ∈ wsX2_hangingOn := List.mem_of_getElem? (i := 1) rfl
  have k11 : Cond.fieldLink RX2 11 (TX2 0).1 (TX2 0).2.1 (TX2 0).2.2.1 ∈ wsX2_hangingOn := List.mem_of_getElem? (i := 2) rfl
  have k26 : Cond.fieldLink RX2 26 (TX0 13).1 (TX0 13).2.1 (TX0 13).2.2.1 ∈ wsX2_hangingOn := List.mem_of_getElem? (i := 3) rfl
  refine z_iconst F dX2_hangingOn_0 ?_
  refine lv_istore_n (lv' := [(2, .int (iI 0)), (0, .ref a), (1, .int (iI rel))]) F.1 F.2.1 dX2_hangingOn_1 rfl hl (by decide) rfl (fun ls hl => ?_)
  refine z_iconst F dX2_hangingOn_2 ?_
  refine lv_istore_n (lv' := [(3, .int (iI 0)), (2, .int (iI 0)), (0, .ref a), (1, .int (iI rel))]) F.1 F.2.1 dX2_hangingOn_3 rfl hl (by decide) rfl (fun ls hl => ?_)
  have cut_4_0 : ∀ (NN : Nat) (bits i : Int) (H : Heap) (locs : List Loc) (ls : Array Slot), zr bits → zr i → (0 ≤ i ∧ i ≤ 16) → (iI bits = kHc (fun u => I (rob AR (gh 6 a) u) 13) rel i.toNat) → (i ≤ (I a 1).toInt) → (16 - i) < ((NN : Nat) : Int) → gH g I R J AI AJ AR H → va_S (gA g) s.heap H locs → lv_has ls 4 [(3, .int (iI i)), (2, .int (iI bits)), (0, .ref a), (1, .int (iI rel))] → W p l e rmX2_hangingOnl s m ([.ref a, .int (iI rel)] : List Value).toArray below meth c H locs 0 0 (MQ below (gQi g (fun (z : Int) (w : gS) => I = w.1 ∧ R = w.2.1 ∧ J = w.2.2.1 ∧ AI = w.2.2.2.1 ∧ AJ = w.2.2.2.2.1 ∧ AR = w.2.2.2.2.2 ∧ (iI z = kHc (fun u => I (rob AR (gh 6 a) u) 13) rel (I a 1).toInt.toNat))) ([.ref a, .int (iI rel)] : List Value).toArray s 0 0 (gA g)) (F0 m 4 ls []) := by
    intro NN4
    induction NN4 with
    | zero =>
      intro bits i H locs ls zbits zi hi hbt hi6 hm4 hH hS hl
      exact absurd hm4 (by omega)
    | succ NN4 ih4 =>
      intro bits i H locs ls zbits zi hi hbt hi6 hm4 hH hS hl
      refine lv_iload_n F.1 F.2.1 dX2_hangingOn_4 rfl (lv_at hl 0 rfl) ?_
      refine lv_aload_n F.1 F.2.1 dX2_hangingOn_5 rfl (lv_at hl 2 rfl) ?_
      refine g_getI (ci := 2) (k := 1) F hH rfl (by decide) iX2 ha (by decide) rfl k18 dX2_hangingOn_6 ?_
      have b_2 := gI_plan hv ha
      refine z_icmp_ge (tgt := 36) F dX2_hangingOn_9 (by decide) zi (zr_t _) (fun c_3 => ?_) (fun c_3 => ?_)
      · refine lv_iload_n F.1 F.2.1 dX2_hangingOn_36 rfl (lv_at hl 1 rfl) ?_
        exact g_iret F hr hlk hH hS hz zbits ⟨rfl, rfl, rfl, rfl, rfl, rfl, by (try dsimp only); rw [hbt, show i = (I a 1).toInt by omega]⟩ dX2_hangingOn_37
      · refine lv_iload_n F.1 F.2.1 dX2_hangingOn_12 rfl (lv_at hl 1 rfl) ?_
        refine lv_aload_n F.1 F.2.1 dX2_hangingOn_13 rfl (lv_at hl 2 rfl) ?_
        obtain ⟨r_4a, r_4b⟩ := gR_lines hv ha
        refine g_getR (ci := 2) (k := 0) F hH rfl (by decide) iX2 ha (by decide) rfl (b := gh 6 a) r_4a k11 dX2_hangingOn_14 ?_
        refine lv_iload_n F.1 F.2.1 dX2_hangingOn_17 rfl (lv_at hl 0 rfl) ?_
        have hx18 : 0 ≤ i ∧ i < ((16 : Nat) : Int) ∧ i ≤ 2147483647 := ⟨by omega, by omega, by omega⟩
        obtain ⟨y_5, y_5a, y_5b, y_5c, y_5d⟩ := gA_lines hv ha (z := i) (by omega) (by omega)
        refine g_aldL F hH r_4b hx18.1 hx18.2.1 hx18.2.2 (b := y_5) y_5a dX2_hangingOn_18 ?_
        refine g_getI (ci := 0) (k := 13) F hH rfl (by decide) iX0 y_5b (by decide) rfl k26 dX2_hangingOn_19 ?_
        refine lv_iload_n F.1 F.2.1 dX2_hangingOn_22 rfl (lv_at hl 3 rfl) ?_
        refine lv_iushr F.1 F.2.1 dX2_hangingOn_23 rfl ?_
        refine z_top (fun v_6 zv_6 ev_6 => ?_)
        refine z_iconst F dX2_hangingOn_24 ?_
        refine lv_iand F.1 F.2.1 dX2_hangingOn_25 ?_
        refine z_top (fun v_7 zv_7 ev_7 => ?_)
        refine lv_iload_n F.1 F.2.1 dX2_hangingOn_26 rfl (lv_at hl 0 rfl) ?_
        refine lv_ishl F.1 F.2.1 dX2_hangingOn_27 ?_
        refine z_top (fun v_8 zv_8 ev_8 => ?_)
        refine lv_ior F.1 F.2.1 dX2_hangingOn_28 ?_
        refine z_top (fun v_9 zv_9 ev_9 => ?_)
        have hb2 : iI v_9 = kHc (fun u => I (rob AR (gh 6 a) u) 13) rel (i + 1).toNat := by
          have w9 : kHc (fun u => I (rob AR (gh 6 a) u) 13) rel (i.toNat + 1) = kHc (fun u => I (rob AR (gh 6 a) u) 13) rel i.toNat ||| (kUt (I y_5 13) rel <<< (iI i &&& 31)) := by
            show kHc (fun u => I (rob AR (gh 6 a) u) 13) rel i.toNat ||| (kUt (I (rob AR (gh 6 a) i.toNat) 13) rel <<< (iI ((i.toNat : Nat) : Int) &&& 31)) = _
            rw [rob_e y_5a, show ((i.toNat : Nat) : Int) = i by omega]
          rw [show (i + 1).toNat = i.toNat + 1 by omega, w9, ev_9, iI_self, hbt, ev_8, iI_self, ev_7, iI_self, ev_6]
          simp only [iI_self]
          rfl
        refine lv_istore_n (lv' := [(2, .int (iI v_9)), (3, .int (iI i)), (0, .ref a), (1, .int (iI rel))]) F.1 F.2.1 dX2_hangingOn_29 rfl hl (by decide) rfl (fun ls hl => ?_)
        refine z_iinc (lv' := [(3, .int (iI (i + 1))), (2, .int (iI v_9)), (0, .ref a), (1, .int (iI rel))]) F dX2_hangingOn_30 hl (k := 1) rfl (by decide) rfl (fun ls hl => ?_)
        refine z_goto (tgt := 4) F dX2_hangingOn_33 (by decide) ?_
        exact ih4 v_9 (i + 1) H locs ls zv_9 ⟨by omega, by omega⟩ (by omega) hb2 (by omega) (by omega) hH hS (lv_sub hl [0, 1, 2, 3] rfl)
  exact cut_4_0 (((16 - 0) + 1 : Int).toNat) 0 0 H locs ls ⟨by decide, by decide⟩ ⟨by decide, by decide⟩ (by omega) rfl (by omega) (by omega) hH hS (lv_sub hl [0, 1, 2, 3] rfl)

def rmX6_ofl : Room := { frames := 1, cells := 0, slots := 0, locals := 23 }
set_option maxHeartbeats 4000000 in
set_option maxRecDepth 100000 in
/-- of -/
theorem c_X6_ofl (l : Launch) (g : gG) (gh : gGh) (pA bA nA : Nat) (nr : Nat) (I : gI) (R : gR) (J : gJ) (AI : gI) (AJ : gJ) (AR : gR) (x : Nat) (rel : Int) (wh : Int) (zrel : zr rel) (zwh : zr wh) (hv : gInv g gh R AR I AI) (hx : xS g gh R AR x pA bA nA) (hlen : (I pA 1).toInt = (nr : Int)) : gMet l g yX6_of wsX6_of rmX6_ofl [.ref x, .int (iI rel), .int (iI wh)] (I, R, J, AI, AJ, AR) (gQi g (fun (z : Int) (w : gS) => I = w.1 ∧ R = w.2.1 ∧ J = w.2.2.1 ∧ AI = w.2.2.2.1 ∧ AJ = w.2.2.2.2.1 ∧ AR = w.2.2.2.2.2 ∧ (((rel < 0 ∨ (nr : Int) ≤ rel) ∧ z = -1) ∨ ((0 ≤ rel ∧ rel < (nr : Int)) ∧ kOf (I (rob AR (gh 6 pA) rel.toNat) 0).toInt (I (rob AR (gh 6 pA) rel.toNat) 2).toInt (I (rob AR (gh 6 pA) rel.toNat) 3).toInt (I (rob AR (gh 6 pA) rel.toNat) 4).toInt (I (rob AR (gh 6 pA) rel.toNat) 13) (kHc (fun u => I (rob AR (gh 6 pA) u) 13) rel (I pA 1).toInt.toNat) (I (rob AR (gh 6 pA) rel.toNat) 14).toInt (kLa (J (rob AR (gh 6 pA) rel.toNat) 1)) (kLc (J (rob AR (gh 6 pA) rel.toNat) 1)) wh z)))) := by
  refine gStart (cc := cX6_of) (maxL := 4) (ret := (some (.int))) (by decide) rfl (Nat.le_of_ble_eq_true rfl) ?_
  intro p e s m below meth c ls F hr hlk hH hz hS hl
  have hl : lv_has ls 4 [(0, .ref x), (1, .int (iI rel)), (2, .int (iI wh))] := hl
  have hS : va_S (gA g) s.heap s.heap [] := hS
  obtain ⟨H, hHe⟩ : ∃ H : Heap, H = s.heap := ⟨_, rfl⟩
  obtain ⟨locs, hlo⟩ : ∃ k : List Loc, k = [] := ⟨_, rfl⟩
  have hH : gH g I R J AI AJ AR H := by rw [hHe]; exact hH
  have hS : va_S (gA g) s.heap H locs := by rw [hHe, hlo]; exact hS
  suffices hw : W p l e rmX6_ofl s m ([.ref x, .int (iI rel), .int (iI wh)] : List Value).toArray below meth c H locs 0 0 (MQ below (gQi g (fun (z : Int) (w : gS) => I = w.1 ∧ R = w.2.1 ∧ J = w.2.2.1 ∧ AI = w.2.2.2.1 ∧ AJ = w.2.2.2.2.1 ∧ AR = w.2.2.2.2.2 ∧ (((rel < 0 ∨ (nr : Int) ≤ rel) ∧ z = -1) ∨ ((0 ≤ rel ∧ rel < (nr : Int)) ∧ kOf (I (rob AR (gh 6 pA) rel.toNat) 0).toInt (I (rob AR (gh 6 pA) rel.toNat) 2).toInt (I (rob AR (gh 6 pA) rel.toNat) 3).toInt (I (rob AR (gh 6 pA) rel.toNat) 4).toInt (I (rob AR (gh 6 pA) rel.toNat) 13) (kHc (fun u => I (rob AR (gh 6 pA) u) 13) rel (I pA 1).toInt.toNat) (I (rob AR (gh 6 pA) rel.toNat) 14).toInt (kLa (J (rob AR (gh 6 pA) rel.toNat) 1)) (kLc (J (rob AR (gh 6 pA) rel.toNat) 1)) wh z)))) ([.ref x, .int (iI rel), .int (iI wh)] : List Value).toArray s 0 0 (gA g)) (F0 m 0 ls []) by
    rw [hHe, hlo] at hw; exact hw
  clear hHe hlo
  have iX6 : ∀ w ∈ u_ws RX6 TX6 18, w ∈ wsX6_of := (by decide +kernel)
  have iX2 : ∀ w ∈ u_ws RX2 TX2 3, w ∈ wsX6_of := (by decide +kernel)
  have iX0 : ∀ w ∈ u_ws RX0 TX0 15, w ∈ wsX6_of := (by decide +kernel)
  have k23 : Cond.fieldLink RX6 23 (TX6 3).1 (TX6 3).2.1 (TX6 3).2.2.1 ∈ wsX6_of := List.mem_of_getElem? (i := 1) rfl
  have k113 : Cond.fieldLink RX6 113 (TX2 0).1 (TX2 0).2.1 (TX2 0).2.2.1 ∈ wsX6_of := List.mem_of_getElem? (i := 2) rfl
  have k117 : Cond.fieldLink RX6 117 (TX0 0).1 (TX0 0).2.1 (TX0 0).2.2.1 ∈ wsX6_of := List.mem_of_getElem? (i := 3) rfl
  have k125 : Cond.fieldLink RX6 125 (TX0 2).1 (TX0 2).2.1 (TX0 2).2.2.1 ∈ wsX6_of := List.mem_of_getElem? (i := 4) rfl
  have k224 : Cond.fieldLink RX6 224 (TX0 3).1 (TX0 3).2.1 (TX0 3).2.2.1 ∈ wsX6_of := List.mem_of_getElem? (i := 5) rfl
  have k227 : Cond.fieldLink RX6 227 (TX0 4).1 (TX0 4).2.1 (TX0 4).2.2.1 ∈ wsX6_of := List.mem_of_getElem? (i := 6) rfl
  have k239 : Cond.fieldLink RX6 239 (TX0 13).1 (TX0 13).2.1 (TX0 13).2.2.1 ∈ wsX6_of := List.mem_of_getElem? (i := 7) rfl
  have k245 : Cond.fieldLink RX6 245 (TX0 14).1 (TX0 14).2.1 (TX0 14).2.2.1 ∈ wsX6_of := List.mem_of_getElem? (i := 8) rfl
  refine lv_aload_n F.1 F.2.1 dX6_of_0 rfl (lv_at hl 0 rfl) ?_
  refine lv_iload_n F.1 F.2.1 dX6_of_1 rfl (lv_at hl 1 rfl) ?_
  have b_1 := gI_x hv hx.1
  refine g_calli (g_runV (As := [.int (iI rel)]) (rest := []) (ci := 6) F hl.1 hH hS hz (c_X6_isRelationf l g gh pA bA nA I R J AI AJ AR x rel zrel hv hx) (cwV 1 F.2.2.2.2.1 gX6_of_X6_isRelation rfl rfl rfl hdX6_isRelation ⟨Nat.le_of_ble_eq_true rfl, Nat.le_of_ble_eq_true rfl⟩) hx.1 (by decide) rfl rfl rfl (Nat.le_of_ble_eq_true rfl) dX6_of_2 ⟨Nat.zero_le _, Nat.zero_le _⟩) hS (fun v_8 I_2 R_3 J_4 AI_5 AJ_6 AR_7 H locs zv_8 hp_9 hH hS => ?_)
  dsimp only at hp_9
  obtain ⟨rfl, rfl, rfl, rfl, rfl, rfl, q_10, qir⟩ := hp_9
  refine z_if_ne (tgt := 10) F dX6_of_5 (by decide) zv_8 (fun c_11 => ?_) (fun c_11 => ?_)
  · refine lv_aload_n F.1 F.2.1 dX6_of_10 rfl (lv_at hl 0 rfl) ?_
    refine g_getR (ci := 6) (k := 3) F hH rfl (by decide) iX6 hx.1 (by decide) rfl (b := pA) hx.2.1 k23 dX6_of_11 ?_
    obtain ⟨r_12a, r_12b⟩ := gR_lines hv hx.2.2.1
    refine g_getR (ci := 2) (k := 0) F hH rfl (by decide) iX2 hx.2.2.1 (by decide) rfl (b := gh 6 pA) r_12a k113 dX6_of_14 ?_
    refine lv_iload_n F.1 F.2.1 dX6_of_17 rfl (lv_at hl 1 rfl) ?_
    have hx18 : 0 ≤ rel ∧ rel < ((16 : Nat) : Int) ∧ rel ≤ 2147483647 := ⟨by omega, by omega, by omega⟩
    obtain ⟨y_13, y_13a, y_13b, y_13c, y_13d⟩ := gA_lines hv hx.2.2.1 (z := rel) (by omega) (by omega)
    refine g_aldL F hH r_12b hx18.1 hx18.2.1 hx18.2.2 (b := y_13) y_13a dX6_of_18 ?_
    have ery : rob AR (gh 6 pA) rel.toNat = y_13 := rob_e y_13a
    refine lv_astore_n (lv' := [(3, .ref y_13), (0, .ref x), (1, .int (iI rel)), (2, .int (iI wh))]) F.1 F.2.1 dX6_of_19 rfl hl (by decide) rfl (fun ls hl => ?_)
    refine lv_iload_n F.1 F.2.1 dX6_of_20 rfl (lv_at hl 3 rfl) ?_
    have ec_14 : (iI wh).toInt = wh := iI_val zwh
    by_cases c_14 : wh < 0 ∨ 8 < wh
    · refine lv_tableOut (tgt := 121) F.1 F.2.1 dX6_of_21 (by rw [ec_14]; exact c_14) (by decide) ?_
      refine z_iconst F dX6_of_121 ?_
      exact g_iret F hr hlk hH hS hz ⟨by decide, by decide⟩ ⟨rfl, rfl, rfl, rfl, rfl, rfl, Or.inr ⟨by omega, Or.inr (Or.inr (Or.inr (Or.inr (Or.inr (Or.inr (Or.inr (Or.inr (Or.inr (⟨by omega, rfl⟩)))))))))⟩⟩ dX6_of_122
    by_cases c_14_0 : wh = 0
    · refine lv_tableIn (tgt := 72) (off := 51) F.1 F.2.1 dX6_of_21 (by rw [ec_14]; omega) (by rw [ec_14]; omega) (by rw [ec_14, c_14_0]; rfl) (by decide) ?_
      refine lv_aload_n F.1 F.2.1 dX6_of_72 rfl (lv_at hl 0 rfl) ?_
      refine g_getI (ci := 0) (k := 0) F hH rfl (by decide) iX0 y_13b (by decide) rfl k117 dX6_of_73 ?_
      have b_15 := gI_line hv y_13b
      unfold vLineI at b_15
      exact g_iret F hr hlk hH hS hz (zr_t _) ⟨rfl, rfl, rfl, rfl, rfl, rfl, Or.inr ⟨by omega, Or.inl ⟨by omega, by (try dsimp only); rw [ery]⟩⟩⟩ dX6_of_76
    by_cases c_14_1 : wh = 1
    · refine lv_tableIn (tgt := 77) (off := 56) F.1 F.2.1 dX6_of_21 (by rw [ec_14]; omega) (by rw [ec_14]; omega) (by rw [ec_14, c_14_1]; rfl) (by decide) ?_
      refine lv_aload_n F.1 F.2.1 dX6_of_77 rfl (lv_at hl 0 rfl) ?_
      refine g_getI (ci := 0) (k := 2) F hH rfl (by decide) iX0 y_13b (by decide) rfl k125 dX6_of_78 ?_
      have b_16 := gI_line hv y_13b
      unfold vLineI at b_16
      exact g_iret F hr hlk hH hS hz (zr_t _) ⟨rfl, rfl, rfl, rfl, rfl, rfl, Or.inr ⟨by omega, Or.inr (Or.inl ⟨by omega, by (try dsimp only); rw [ery]⟩)⟩⟩ dX6_of_81
    by_cases c_14_2 : wh = 2
    · refine lv_tableIn (tgt := 82) (off := 61) F.1 F.2.1 dX6_of_21 (by rw [ec_14]; omega) (by rw [ec_14]; omega) (by rw [ec_14, c_14_2]; rfl) (by decide) ?_
      refine lv_aload_n F.1 F.2.1 dX6_of_82 rfl (lv_at hl 0 rfl) ?_
      refine g_getI (ci := 0) (k := 3) F hH rfl (by decide) iX0 y_13b (by decide) rfl k224 dX6_of_83 ?_
      have b_17 := gI_line hv y_13b
      unfold vLineI at b_17
      exact g_iret F hr hlk hH hS hz (zr_t _) ⟨rfl, rfl, rfl, rfl, rfl, rfl, Or.inr ⟨by omega, Or.inr (Or.inr (Or.inl ⟨by omega, by (try dsimp only); rw [ery]⟩))⟩⟩ dX6_of_86
    by_cases c_14_3 : wh = 3
    · refine lv_tableIn (tgt := 87) (off := 66) F.1 F.2.1 dX6_of_21 (by rw [ec_14]; omega) (by rw [ec_14]; omega) (by rw [ec_14, c_14_3]; rfl) (by decide) ?_
      refine lv_aload_n F.1 F.2.1 dX6_of_87 rfl (lv_at hl 0 rfl) ?_
      refine g_getI (ci := 0) (k := 4) F hH rfl (by decide) iX0 y_13b (by decide) rfl k227 dX6_of_88 ?_
      have b_18 := gI_line hv y_13b
      unfold vLineI at b_18
      exact g_iret F hr hlk hH hS hz (zr_t _) ⟨rfl, rfl, rfl, rfl, rfl, rfl, Or.inr ⟨by omega, Or.inr (Or.inr (Or.inr (Or.inl ⟨by omega, by (try dsimp only); rw [ery]⟩)))⟩⟩ dX6_of_91
    by_cases c_14_4 : wh = 4
    · refine lv_tableIn (tgt := 92) (off := 71) F.1 F.2.1 dX6_of_21 (by rw [ec_14]; omega) (by rw [ec_14]; omega) (by rw [ec_14, c_14_4]; rfl) (by decide) ?_
      refine lv_aload_n F.1 F.2.1 dX6_of_92 rfl (lv_at hl 0 rfl) ?_
      refine g_getI (ci := 0) (k := 13) F hH rfl (by decide) iX0 y_13b (by decide) rfl k239 dX6_of_93 ?_
      refine z_norm (fun v_19 zv_19 ev_19 => ?_)
      exact g_iret F hr hlk hH hS hz zv_19 ⟨rfl, rfl, rfl, rfl, rfl, rfl, Or.inr ⟨by omega, Or.inr (Or.inr (Or.inr (Or.inr (Or.inl ⟨by omega, by (try dsimp only); rw [ev_19, iI_self, ery]⟩))))⟩⟩ dX6_of_96
    by_cases c_14_5 : wh = 5
    · refine lv_tableIn (tgt := 97) (off := 76) F.1 F.2.1 dX6_of_21 (by rw [ec_14]; omega) (by rw [ec_14]; omega) (by rw [ec_14, c_14_5]; rfl) (by decide) ?_
      refine lv_aload_n F.1 F.2.1 dX6_of_97 rfl (lv_at hl 1 rfl) ?_
      refine g_getR (ci := 6) (k := 3) F hH rfl (by decide) iX6 hx.1 (by decide) rfl (b := pA) hx.2.1 k23 dX6_of_98 ?_
      refine lv_iload_n F.1 F.2.1 dX6_of_101 rfl (lv_at hl 2 rfl) ?_
      have b_20 := gI_plan hv hx.2.2.1
      refine g_calli (g_runV (As := [.int (iI rel)]) (rest := []) (ci := 2) F hl.1 hH hS hz (c_X2_hangingOnl l g gh I R J AI AJ AR pA rel zrel hv hx.2.2.1) (cwV 1 F.2.2.2.2.1 gX6_of_X2_hangingOn rfl rfl rfl hdX2_hangingOn ⟨Nat.le_of_ble_eq_true rfl, Nat.le_of_ble_eq_true rfl⟩) hx.2.2.1 (by decide) rfl rfl rfl (Nat.le_of_ble_eq_true rfl) dX6_of_102 ⟨Nat.zero_le _, Nat.zero_le _⟩) hS (fun v_27 I_21 R_22 J_23 AI_24 AJ_25 AR_26 H locs zv_27 hp_28 hH hS => ?_)
      dsimp only at hp_28
      obtain ⟨rfl, rfl, rfl, rfl, rfl, rfl, qho⟩ := hp_28
      exact g_iret F hr hlk hH hS hz zv_27 ⟨rfl, rfl, rfl, rfl, rfl, rfl, Or.inr ⟨by omega, Or.inr (Or.inr (Or.inr (Or.inr (Or.inr (Or.inl ⟨by omega, qho⟩)))))⟩⟩ dX6_of_105
    by_cases c_14_6 : wh = 6
    · refine lv_tableIn (tgt := 106) (off := 85) F.1 F.2.1 dX6_of_21 (by rw [ec_14]; omega) (by rw [ec_14]; omega) (by rw [ec_14, c_14_6]; rfl) (by decide) ?_
      refine lv_aload_n F.1 F.2.1 dX6_of_106 rfl (lv_at hl 0 rfl) ?_
      refine g_getI (ci := 0) (k := 14) F hH rfl (by decide) iX0 y_13b (by decide) rfl k245 dX6_of_107 ?_
      refine z_norm (fun v_29 zv_29 ev_29 => ?_)
      exact g_iret F hr hlk hH hS hz zv_29 ⟨rfl, rfl, rfl, rfl, rfl, rfl, Or.inr ⟨by omega, Or.inr (Or.inr (Or.inr (Or.inr (Or.inr (Or.inr (Or.inl ⟨by omega, by (try dsimp only); rw [ery]; exact (iI_eq zv_29 (zr_t _)).mp ev_29⟩))))))⟩⟩ dX6_of_110
    by_cases c_14_7 : wh = 7
    · refine lv_tableIn (tgt := 111) (off := 90) F.1 F.2.1 dX6_of_21 (by rw [ec_14]; omega) (by rw [ec_14]; omega) (by rw [ec_14, c_14_7]; rfl) (by decide) ?_
      refine lv_aload_n F.1 F.2.1 dX6_of_111 rfl (lv_at hl 0 rfl) ?_
      have b_30 := gI_line hv y_13b
      unfold vLineI at b_30
      refine g_calli (g_runV (As := []) (rest := []) (ci := 0) F hl.1 hH hS hz (c_X0_firstLetterl l g gh I R J AI AJ AR y_13 hv y_13b) (cwV 0 F.2.2.2.2.1 gX6_of_X0_firstLetter rfl rfl rfl hdX0_firstLetter ⟨Nat.le_of_ble_eq_true rfl, Nat.le_of_ble_eq_true rfl⟩) y_13b (by decide) rfl rfl rfl (Nat.le_of_ble_eq_true rfl) dX6_of_112 ⟨Nat.zero_le _, Nat.zero_le _⟩) hS (fun v_37 I_31 R_32 J_33 AI_34 AJ_35 AR_36 H locs zv_37 hp_38 hH hS => ?_)
      dsimp only at hp_38
      obtain ⟨rfl, rfl, rfl, rfl, rfl, rfl, qla⟩ := hp_38
      exact g_iret F hr hlk hH hS hz zv_37 ⟨rfl, rfl, rfl, rfl, rfl, rfl, Or.inr ⟨by omega, Or.inr (Or.inr (Or.inr (Or.inr (Or.inr (Or.inr (Or.inr (Or.inl ⟨by omega, by (try dsimp only); rw [ery]; exact qla⟩)))))))⟩⟩ dX6_of_115
    have c_14_8 : wh = 8 := by omega
    refine lv_tableIn (tgt := 116) (off := 95) F.1 F.2.1 dX6_of_21 (by rw [ec_14]; omega) (by rw [ec_14]; omega) (by rw [ec_14, c_14_8]; rfl) (by decide) ?_
    refine lv_aload_n F.1 F.2.1 dX6_of_116 rfl (lv_at hl 0 rfl) ?_
    have b_39 := gI_line hv y_13b
    unfold vLineI at b_39
    refine g_calli (g_runV (As := []) (rest := []) (ci := 0) F hl.1 hH hS hz (c_X0_lastLetterl l g gh I R J AI AJ AR y_13 hv y_13b) (cwV 0 F.2.2.2.2.1 gX6_of_X0_lastLetter rfl rfl rfl hdX0_lastLetter ⟨Nat.le_of_ble_eq_true rfl, Nat.le_of_ble_eq_true rfl⟩) y_13b (by decide) rfl rfl rfl (Nat.le_of_ble_eq_true rfl) dX6_of_117 ⟨Nat.zero_le _, Nat.zero_le _⟩) hS (fun v_46 I_40 R_41 J_42 AI_43 AJ_44 AR_45 H locs zv_46 hp_47 hH hS => ?_)
    dsimp only at hp_47
    obtain ⟨rfl, rfl, rfl, rfl, rfl, rfl, qlc⟩ := hp_47
    exact g_iret F hr hlk hH hS hz zv_46 ⟨rfl, rfl, rfl, rfl, rfl, rfl, Or.inr ⟨by omega, Or.inr (Or.inr (Or.inr (Or.inr (Or.inr (Or.inr (Or.inr (Or.inr (Or.inl ⟨by omega, by (try dsimp only); rw [ery]; exact qlc⟩))))))))⟩⟩ dX6_of_120
  · refine z_iconst F dX6_of_8 ?_
    exact g_iret F hr hlk hH hS hz ⟨by decide, by decide⟩ ⟨rfl, rfl, rfl, rfl, rfl, rfl, Or.inl ⟨by have q9 := qir (by omega); omega, rfl⟩⟩ dX6_of_9
end
