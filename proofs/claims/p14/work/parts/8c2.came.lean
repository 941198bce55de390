section
def rmX6_cameTof : Room := { frames := 0, cells := 0, slots := 0, locals := 0 }
set_option maxHeartbeats 4000000 in
set_option maxRecDepth 100000 in
/-- what came to a line -/
theorem c_X6_cameTof (l : Launch) (g : gG) (gh : gGh) (pA bA nA : Nat) (I : gI) (R : gR) (J : gJ) (AI : gI) (AJ : gJ) (AR : gR) (x : Nat) (ln : Nat) (hv : gInv g gh R AR I AI) (hx : xS g gh R AR x pA bA nA) (hln : gO g ln 0) : gMet l g yX6_cameTo wsX6_cameTo rmX6_cameTof [.ref x, .ref ln] (I, R, J, AI, AJ, AR) (gQi g (fun (z : Int) (w : gS) => I = w.1 ∧ R = w.2.1 ∧ J = w.2.2.1 ∧ AI = w.2.2.2.1 ∧ AJ = w.2.2.2.2.1 ∧ AR = w.2.2.2.2.2 ∧ (0 ≤ z ∧ z ≤ 480) ∧ (z = (if (I ln 3).toInt = -1 then 0 else (((rfC gh AR I AI (gh 35 0) (I ln 3).toInt.toNat).1 : Nat) : Int)) + (if (I ln 4).toInt = -1 then 0 else (((rfC gh AR I AI (gh 35 0) (I ln 4).toInt.toNat).1 : Nat) : Int))))) := by
  refine gStart (cc := cX6_cameTo) (maxL := 3) (ret := (some (.int))) (by decide) rfl (Nat.le_of_ble_eq_true rfl) ?_
  intro p e s m below meth c ls F hr hlk hH hz hS hl
  have hl : lv_has ls 3 [(0, .ref x), (1, .ref ln)] := hl
  have hS : va_S (gA g) s.heap s.heap [] := hS
  obtain ⟨H, hHe⟩ : ∃ H : Heap, H = s.heap := ⟨_, rfl⟩
  obtain ⟨locs, hlo⟩ : ∃ k : List Loc, k = [] := ⟨_, rfl⟩
  have hH : gH g I R J AI AJ AR H := by rw [hHe]; exact hH
  have hS : va_S (gA g) s.heap H locs := by rw [hHe, hlo]; exact hS
  suffices hw : W p l e rmX6_cameTof s m ([.ref x, .ref ln] : List Value).toArray below meth c H locs 0 0 (MQ below (gQi g (fun (z : Int) (w : gS) => I = w.1 ∧ R = w.2.1 ∧ J = w.2.2.1 ∧ AI = w.2.2.2.1 ∧ AJ = w.2.2.2.2.1 ∧ AR = w.2.2.2.2.2 ∧ (0 ≤ z ∧ z ≤ 480) ∧ (z = (if (I ln 3).toInt = -1 then 0 else (((rfC gh AR I AI (gh 35 0) (I ln 3).toInt.toNat).1 : Nat) : Int)) + (if (I ln 4).toInt = -1 then 0 else (((rfC gh AR I AI (gh 35 0) (I ln 4).toInt.toNat).1 : Nat) : Int))))) ([.ref x, .ref ln] : List Value).toArray s 0 0 (gA g)) (F0 m 0 ls []) by
    rw [hHe, hlo] at hw; exact hw
  clear hHe hlo
  have iX6 : ∀ w ∈ u_ws RX6 TX6 18, w ∈ wsX6_cameTo := (by decide +kernel)
  have iX4 : ∀ w ∈ u_ws RX4 TX4 4, w ∈ wsX6_cameTo := (by decide +kernel)
  have iX0 : ∀ w ∈ u_ws RX0 TX0 15, w ∈ wsX6_cameTo := (by decide +kernel)
  have k224 : Cond.fieldLink RX6 224 (TX0 3).1 (TX0 3).2.1 (TX0 3).2.2.1 ∈ wsX6_cameTo := List.mem_of_getElem? (i := 1) rfl
  have k45 : Cond.fieldLink RX6 45 (TX6 7).1 (TX6 7).2.1 (TX6 7).2.2.1 ∈ wsX6_cameTo := List.mem_of_getElem? (i := 2) rfl
  have k99 : Cond.fieldLink RX6 99 (TX4 3).1 (TX4 3).2.1 (TX4 3).2.2.1 ∈ wsX6_cameTo := List.mem_of_getElem? (i := 3) rfl
  have k227 : Cond.fieldLink RX6 227 (TX0 4).1 (TX0 4).2.1 (TX0 4).2.2.1 ∈ wsX6_cameTo := List.mem_of_getElem? (i := 4) rfl
  refine lv_aload_n F.1 F.2.1 dX6_cameTo_0 rfl (lv_at hl 1 rfl) ?_
  refine g_getI (ci := 0) (k := 3) F hH rfl (by decide) iX0 hln (by decide) rfl k224 dX6_cameTo_1 ?_
  have b_1 := gI_line hv hln
  unfold vLineI at b_1
  refine z_iconst F dX6_cameTo_4 ?_
  refine z_icmp_ne (tgt := 12) F dX6_cameTo_5 (by decide) (zr_t _) ⟨by decide, by decide⟩ (fun c_2 => ?_) (fun c_2 => ?_)
  · refine lv_aload_n F.1 F.2.1 dX6_cameTo_12 rfl (lv_at hl 0 rfl) ?_
    obtain ⟨r_3a, r_3b⟩ := gR_x7 hv hx.1
    refine g_getR (ci := 6) (k := 7) F hH rfl (by decide) iX6 hx.1 (by decide) rfl (b := gh 35 0) r_3a k45 dX6_cameTo_13 ?_
    refine lv_aload_n F.1 F.2.1 dX6_cameTo_16 rfl (lv_at hl 1 rfl) ?_
    refine g_getI (ci := 0) (k := 3) F hH rfl (by decide) iX0 hln (by decide) rfl k224 dX6_cameTo_17 ?_
    have hx20 : 0 ≤ ((I ln 3).toInt) ∧ ((I ln 3).toInt) < ((16 : Nat) : Int) ∧ ((I ln 3).toInt) ≤ 2147483647 := ⟨by omega, by omega, by omega⟩
    obtain ⟨y_4, y_4a, y_4b, y_4c, y_4d, y_4e⟩ := r_3b.2 (((I ln 3).toInt)).toNat (by omega)
    refine g_aldR F hH r_3b.1 hx20.1 hx20.2.1 hx20.2.2 (b := y_4) y_4a dX6_cameTo_20 ?_
    have hm3 : (I y_4 3).toInt = (((rfC gh AR I AI (gh 35 0) (I ln 3).toInt.toNat).1 : Nat) : Int) := by unfold rfC; rw [rob_e y_4a]; have q9 := (gI_rows hv y_4b).2.2.1; omega
    refine g_getI (ci := 4) (k := 3) F hH rfl (by decide) iX4 y_4b (by decide) rfl k99 dX6_cameTo_21 ?_
    obtain ⟨b_5a, b_5b, b_5c, b_5d, b_5e, b_5f, b_5g, b_5h⟩ := gI_rows hv y_4b
    refine lv_istore_n (lv' := [(2, .int (iI ((I y_4 3).toInt))), (0, .ref x), (1, .ref ln)]) F.1 F.2.1 dX6_cameTo_24 rfl hl (by decide) rfl (fun ls hl => ?_)
    refine lv_iload_n F.1 F.2.1 dX6_cameTo_25 rfl (lv_at hl 0 rfl) ?_
    refine lv_aload_n F.1 F.2.1 dX6_cameTo_26 rfl (lv_at hl 2 rfl) ?_
    refine g_getI (ci := 0) (k := 4) F hH rfl (by decide) iX0 hln (by decide) rfl k227 dX6_cameTo_27 ?_
    refine z_iconst F dX6_cameTo_30 ?_
    refine z_icmp_ne (tgt := 38) F dX6_cameTo_31 (by decide) (zr_t _) ⟨by decide, by decide⟩ (fun c_6 => ?_) (fun c_6 => ?_)
    · refine lv_aload_n F.1 F.2.1 dX6_cameTo_38 rfl (lv_at hl 1 rfl) ?_
      refine g_getR (ci := 6) (k := 7) F hH rfl (by decide) iX6 hx.1 (by decide) rfl (b := gh 35 0) r_3a k45 dX6_cameTo_39 ?_
      refine lv_aload_n F.1 F.2.1 dX6_cameTo_42 rfl (lv_at hl 2 rfl) ?_
      refine g_getI (ci := 0) (k := 4) F hH rfl (by decide) iX0 hln (by decide) rfl k227 dX6_cameTo_43 ?_
      have hx46 : 0 ≤ ((I ln 4).toInt) ∧ ((I ln 4).toInt) < ((16 : Nat) : Int) ∧ ((I ln 4).toInt) ≤ 2147483647 := ⟨by omega, by omega, by omega⟩
      obtain ⟨y_7, y_7a, y_7b, y_7c, y_7d, y_7e⟩ := r_3b.2 (((I ln 4).toInt)).toNat (by omega)
      refine g_aldR F hH r_3b.1 hx46.1 hx46.2.1 hx46.2.2 (b := y_7) y_7a dX6_cameTo_46 ?_
      have hm4 : (I y_7 3).toInt = (((rfC gh AR I AI (gh 35 0) (I ln 4).toInt.toNat).1 : Nat) : Int) := by unfold rfC; rw [rob_e y_7a]; have q9 := (gI_rows hv y_7b).2.2.1; omega
      refine g_getI (ci := 4) (k := 3) F hH rfl (by decide) iX4 y_7b (by decide) rfl k99 dX6_cameTo_47 ?_
      obtain ⟨b_8a, b_8b, b_8c, b_8d, b_8e, b_8f, b_8g, b_8h⟩ := gI_rows hv y_7b
      refine z_iadd F dX6_cameTo_50 ?_
      exact g_iret F hr hlk hH hS hz ⟨by omega, by omega⟩ ⟨rfl, rfl, rfl, rfl, rfl, rfl, by first | omega | rfl | (dsimp only; omega), by (try dsimp only); rw [show (if (I ln 3).toInt = -1 then (0 : Int) else _) = _ from if_neg (by omega), show (if (I ln 4).toInt = -1 then (0 : Int) else _) = _ from if_neg (by omega)]; (try omega)⟩ dX6_cameTo_51
    · refine z_iconst F dX6_cameTo_34 ?_
      refine z_goto (tgt := 50) F dX6_cameTo_35 (by decide) ?_
      refine z_iadd F dX6_cameTo_50 ?_
      exact g_iret F hr hlk hH hS hz ⟨by omega, by omega⟩ ⟨rfl, rfl, rfl, rfl, rfl, rfl, by first | omega | rfl | (dsimp only; omega), by (try dsimp only); rw [show (if (I ln 3).toInt = -1 then (0 : Int) else _) = _ from if_neg (by omega), show (if (I ln 4).toInt = -1 then (0 : Int) else _) = _ from if_pos (by omega)]; (try omega)⟩ dX6_cameTo_51
  · refine z_iconst F dX6_cameTo_8 ?_
    refine z_goto (tgt := 24) F dX6_cameTo_9 (by decide) ?_
    refine lv_istore_n (lv' := [(2, .int (iI 0)), (0, .ref x), (1, .ref ln)]) F.1 F.2.1 dX6_cameTo_24 rfl hl (by decide) rfl (fun ls hl => ?_)
    refine lv_iload_n F.1 F.2.1 dX6_cameTo_25 rfl (lv_at hl 0 rfl) ?_
    refine lv_aload_n F.1 F.2.1 dX6_cameTo_26 rfl (lv_at hl 2 rfl) ?_
    refine g_getI (ci := 0) (k := 4) F hH rfl (by decide) iX0 hln (by decide) rfl k227 dX6_cameTo_27 ?_
    refine z_iconst F dX6_cameTo_30 ?_
    refine z_icmp_ne (tgt := 38) F dX6_cameTo_31 (by decide) (zr_t _) ⟨by decide, by decide⟩ (fun c_9 => ?_) (fun c_9 => ?_)
    · refine lv_aload_n F.1 F.2.1 dX6_cameTo_38 rfl (lv_at hl 1 rfl) ?_
      obtain ⟨r_10a, r_10b⟩ := gR_x7 hv hx.1
      refine g_getR (ci := 6) (k := 7) F hH rfl (by decide) iX6 hx.1 (by decide) rfl (b := gh 35 0) r_10a k45 dX6_cameTo_39 ?_
      refine lv_aload_n F.1 F.2.1 dX6_cameTo_42 rfl (lv_at hl 2 rfl) ?_
      refine g_getI (ci := 0) (k := 4) F hH rfl (by decide) iX0 hln (by decide) rfl k227 dX6_cameTo_43 ?_
      have hx46 : 0 ≤ ((I ln 4).toInt) ∧ ((I ln 4).toInt) < ((16 : Nat) : Int) ∧ ((I ln 4).toInt) ≤ 2147483647 := ⟨by omega, by omega, by omega⟩
      obtain ⟨y_11, y_11a, y_11b, y_11c, y_11d, y_11e⟩ := r_10b.2 (((I ln 4).toInt)).toNat (by omega)
      refine g_aldR F hH r_10b.1 hx46.1 hx46.2.1 hx46.2.2 (b := y_11) y_11a dX6_cameTo_46 ?_
      have hm4 : (I y_11 3).toInt = (((rfC gh AR I AI (gh 35 0) (I ln 4).toInt.toNat).1 : Nat) : Int) := by unfold rfC; rw [rob_e y_11a]; have q9 := (gI_rows hv y_11b).2.2.1; omega
      refine g_getI (ci := 4) (k := 3) F hH rfl (by decide) iX4 y_11b (by decide) rfl k99 dX6_cameTo_47 ?_
      obtain ⟨b_12a, b_12b, b_12c, b_12d, b_12e, b_12f, b_12g, b_12h⟩ := gI_rows hv y_11b
      refine z_iadd F dX6_cameTo_50 ?_
      exact g_iret F hr hlk hH hS hz ⟨by omega, by omega⟩ ⟨rfl, rfl, rfl, rfl, rfl, rfl, by first | omega | rfl | (dsimp only; omega), by (try dsimp only); rw [show (if (I ln 3).toInt = -1 then (0 : Int) else _) = _ from if_pos (by omega), show (if (I ln 4).toInt = -1 then (0 : Int) else _) = _ from if_neg (by omega)]; (try omega)⟩ dX6_cameTo_51
    · refine z_iconst F dX6_cameTo_34 ?_
      refine z_goto (tgt := 50) F dX6_cameTo_35 (by decide) ?_
      refine z_iadd F dX6_cameTo_50 ?_
      exact g_iret F hr hlk hH hS hz ⟨by omega, by omega⟩ ⟨rfl, rfl, rfl, rfl, rfl, rfl, by first | omega | rfl | (dsimp only; omega), by (try dsimp only); rw [show (if (I ln 3).toInt = -1 then (0 : Int) else _) = _ from if_pos (by omega), show (if (I ln 4).toInt = -1 then (0 : Int) else _) = _ from if_pos (by omega)]; (try omega)⟩ dX6_cameTo_51

def rmX6_camef : Room := { frames := 1, cells := 0, slots := 0, locals := 22 }
set_option maxHeartbeats 4000000 in
set_option maxRecDepth 100000 in
/-- came -/
theorem c_X6_camef (l : Launch) (g : gG) (gh : gGh) (pA bA nA : Nat) (nr : Nat) (cc : Nat → LC) (I : gI) (R : gR) (J : gJ) (AI : gI) (AJ : gJ) (AR : gR) (x : Nat) (rel : Int) (zrel : zr rel) (hv : gInv g gh R AR I AI) (hx : xS g gh R AR x pA bA nA) (hlen : (I pA 1).toInt = (nr : Int)) (htb2 : 0 ≤ (I pA 2).toInt ∧ (I pA 2).toInt ≤ (nr : Int) ∧ nr ≤ 16) (hln : ∀ r, r < nr → lnC (I (rob AR (gh 6 pA) r)) (AI (gh 3 (rob AR (gh 6 pA) r))) (cc r)) : gMet l g yX6_came wsX6_came rmX6_camef [.ref x, .int (iI rel)] (I, R, J, AI, AJ, AR) (gQi g (fun (z : Int) (w : gS) => I = w.1 ∧ R = w.2.1 ∧ J = w.2.2.1 ∧ AI = w.2.2.2.1 ∧ AJ = w.2.2.2.2.1 ∧ AR = w.2.2.2.2.2 ∧ ((((rel < 0 ∨ (nr : Int) ≤ rel) ∨ rel < (I pA 2).toInt) ∧ z = -1) ∨ ((0 ≤ rel ∧ rel < (nr : Int)) ∧ (I pA 2).toInt ≤ rel ∧ z = (if (cc rel.toNat).1 2 = -1 then (0 : Int) else (((rfC gh AR I AI (gh 35 0) ((cc rel.toNat).1 2).toNat).1 : Nat) : Int)) + (if (cc rel.toNat).1 3 = -1 then 0 else (((rfC gh AR I AI (gh 35 0) ((cc rel.toNat).1 3).toNat).1 : Nat) : Int)))))) := by
  refine gStart (cc := cX6_came) (maxL := 2) (ret := (some (.int))) (by decide) rfl (Nat.le_of_ble_eq_true rfl) ?_
  intro p e s m below meth c ls F hr hlk hH hz hS hl
  have hl : lv_has ls 2 [(0, .ref x), (1, .int (iI rel))] := hl
  have hS : va_S (gA g) s.heap s.heap [] := hS
  obtain ⟨H, hHe⟩ : ∃ H : Heap, H = s.heap := ⟨_, rfl⟩
  obtain ⟨locs, hlo⟩ : ∃ k : List Loc, k = [] := ⟨_, rfl⟩
  have hH : gH g I R J AI AJ AR H := by rw [hHe]; exact hH
  have hS : va_S (gA g) s.heap H locs := by rw [hHe, hlo]; exact hS
  suffices hw : W p l e rmX6_camef s m ([.ref x, .int (iI rel)] : List Value).toArray below meth c H locs 0 0 (MQ below (gQi g (fun (z : Int) (w : gS) => I = w.1 ∧ R = w.2.1 ∧ J = w.2.2.1 ∧ AI = w.2.2.2.1 ∧ AJ = w.2.2.2.2.1 ∧ AR = w.2.2.2.2.2 ∧ ((((rel < 0 ∨ (nr : Int) ≤ rel) ∨ rel < (I pA 2).toInt) ∧ z = -1) ∨ ((0 ≤ rel ∧ rel < (nr : Int)) ∧ (I pA 2).toInt ≤ rel ∧ z = (if (cc rel.toNat).1 2 = -1 then (0 : Int) else (((rfC gh AR I AI (gh 35 0) ((cc rel.toNat).1 2).toNat).1 : Nat) : Int)) + (if (cc rel.toNat).1 3 = -1 then 0 else (((rfC gh AR I AI (gh 35 0) ((cc rel.toNat).1 3).toNat).1 : Nat) : Int)))))) ([.ref x, .int (iI rel)] : List Value).toArray s 0 0 (gA g)) (F0 m 0 ls []) by
    rw [hHe, hlo] at hw; exact hw
  clear hHe hlo
  have iX6 : ∀ w ∈ u_ws RX6 TX6 18, w ∈ wsX6_came := (by decide +kernel)
  have iX2 : ∀ w ∈ u_ws RX2 TX2 3, w ∈ wsX6_came := (by decide +kernel)
  have k23 : Cond.fieldLink RX6 23 (TX6 3).1 (TX6 3).2.1 (TX6 3).2.2.1 ∈ wsX6_came := List.mem_of_getElem? (i := 1) rfl
  have k122 : Cond.fieldLink RX6 122 (TX2 2).1 (TX2 2).2.1 (TX2 2).2.2.1 ∈ wsX6_came := List.mem_of_getElem? (i := 2) rfl
  have k113 : Cond.fieldLink RX6 113 (TX2 0).1 (TX2 0).2.1 (TX2 0).2.2.1 ∈ wsX6_came := List.mem_of_getElem? (i := 3) rfl
  refine lv_aload_n F.1 F.2.1 dX6_came_0 rfl (lv_at hl 0 rfl) ?_
  refine lv_iload_n F.1 F.2.1 dX6_came_1 rfl (lv_at hl 1 rfl) ?_
  have b_1 := gI_x hv hx.1
  refine g_calli (g_runV (As := [.int (iI rel)]) (rest := []) (ci := 6) F hl.1 hH hS hz (c_X6_isRelationf l g gh pA bA nA I R J AI AJ AR x rel zrel hv hx) (cwV 1 F.2.2.2.2.1 gX6_came_X6_isRelation rfl rfl rfl hdX6_isRelation ⟨Nat.le_of_ble_eq_true rfl, Nat.le_of_ble_eq_true rfl⟩) hx.1 (by decide) rfl rfl rfl (Nat.le_of_ble_eq_true rfl) dX6_came_2 ⟨Nat.zero_le _, Nat.zero_le _⟩) hS (fun v_8 I_2 R_3 J_4 AI_5 AJ_6 AR_7 H locs zv_8 hp_9 hH hS => ?_)
  dsimp only at hp_9
  obtain ⟨rfl, rfl, rfl, rfl, rfl, rfl, q_10, qir⟩ := hp_9
  refine z_if_eq (tgt := 35) F dX6_came_5 (by decide) zv_8 (fun c_11 => ?_) (fun c_11 => ?_)
  · refine z_iconst F dX6_came_35 ?_
    exact g_iret F hr hlk hH hS hz ⟨by decide, by decide⟩ ⟨rfl, rfl, rfl, rfl, rfl, rfl, Or.inl ⟨Or.inl (by have q9 := qir (by omega); omega), rfl⟩⟩ dX6_came_36
  · refine lv_iload_n F.1 F.2.1 dX6_came_8 rfl (lv_at hl 1 rfl) ?_
    refine lv_aload_n F.1 F.2.1 dX6_came_9 rfl (lv_at hl 0 rfl) ?_
    refine g_getR (ci := 6) (k := 3) F hH rfl (by decide) iX6 hx.1 (by decide) rfl (b := pA) hx.2.1 k23 dX6_came_10 ?_
    refine g_getI (ci := 2) (k := 2) F hH rfl (by decide) iX2 hx.2.2.1 (by decide) rfl k122 dX6_came_13 ?_
    have b_12 := gI_plan hv hx.2.2.1
    refine z_icmp_lt (tgt := 35) F dX6_came_16 (by decide) zrel (zr_t _) (fun c_13 => ?_) (fun c_13 => ?_)
    · refine z_iconst F dX6_came_35 ?_
      exact g_iret F hr hlk hH hS hz ⟨by decide, by decide⟩ ⟨rfl, rfl, rfl, rfl, rfl, rfl, Or.inl ⟨Or.inr (by omega), rfl⟩⟩ dX6_came_36
    · refine lv_aload_n F.1 F.2.1 dX6_came_19 rfl (lv_at hl 0 rfl) ?_
      refine lv_aload_n F.1 F.2.1 dX6_came_20 rfl (lv_at hl 0 rfl) ?_
      refine g_getR (ci := 6) (k := 3) F hH rfl (by decide) iX6 hx.1 (by decide) rfl (b := pA) hx.2.1 k23 dX6_came_21 ?_
      obtain ⟨r_14a, r_14b⟩ := gR_lines hv hx.2.2.1
      refine g_getR (ci := 2) (k := 0) F hH rfl (by decide) iX2 hx.2.2.1 (by decide) rfl (b := gh 6 pA) r_14a k113 dX6_came_24 ?_
      refine lv_iload_n F.1 F.2.1 dX6_came_27 rfl (lv_at hl 1 rfl) ?_
      have hx28 : 0 ≤ rel ∧ rel < ((16 : Nat) : Int) ∧ rel ≤ 2147483647 := ⟨by omega, by omega, by omega⟩
      obtain ⟨y_15, y_15a, y_15b, y_15c, y_15d⟩ := gA_lines hv hx.2.2.1 (z := rel) (by omega) (by omega)
      refine g_aldL F hH r_14b hx28.1 hx28.2.1 hx28.2.2 (b := y_15) y_15a dX6_came_28 ?_
      have hl9 := (hln rel.toNat (by omega)).1
      rw [rob_e y_15a] at hl9
      have b_16 := gI_line hv y_15b
      unfold vLineI at b_16
      refine g_calli (g_runV (As := [.ref y_15]) (rest := []) (ci := 6) F hl.1 hH hS hz (c_X6_cameTof l g gh pA bA nA I R J AI AJ AR x y_15 hv hx y_15b) (cwV 1 F.2.2.2.2.1 gX6_came_X6_cameTo rfl rfl rfl hdX6_cameTo ⟨Nat.le_of_ble_eq_true rfl, Nat.le_of_ble_eq_true rfl⟩) hx.1 (by decide) rfl rfl rfl (Nat.le_of_ble_eq_true rfl) dX6_came_29 ⟨Nat.zero_le _, Nat.zero_le _⟩) hS (fun v_23 I_17 R_18 J_19 AI_20 AJ_21 AR_22 H locs zv_23 hp_24 hH hS => ?_)
      dsimp only at hp_24
      obtain ⟨rfl, rfl, rfl, rfl, rfl, rfl, q_25, qcto⟩ := hp_24
      rw [hl9.2.2.1, hl9.2.2.2] at qcto
      refine z_goto (tgt := 36) F dX6_came_32 (by decide) ?_
      exact g_iret F hr hlk hH hS hz zv_23 ⟨rfl, rfl, rfl, rfl, rfl, rfl, Or.inr ⟨by omega, by omega, qcto⟩⟩ dX6_came_36

def rmX6_tuplesOfViewsf : Room := { frames := 0, cells := 0, slots := 0, locals := 0 }
set_option maxHeartbeats 4000000 in
set_option maxRecDepth 100000 in
/-- the tuples of views -/
theorem c_X6_tuplesOfViewsf (l : Launch) (g : gG) (gh : gGh) (pA bA nA : Nat) (nr : Nat) (I : gI) (R : gR) (J : gJ) (AI : gI) (AJ : gJ) (AR : gR) (x : Nat) (hv : gInv g gh R AR I AI) (hx : xS g gh R AR x pA bA nA) (hlen : (I pA 1).toInt = (nr : Int)) (htb2 : 0 ≤ (I pA 2).toInt ∧ (I pA 2).toInt ≤ (nr : Int) ∧ nr ≤ 16) : gMet l g yX6_tuplesOfViews wsX6_tuplesOfViews rmX6_tuplesOfViewsf [.ref x] (I, R, J, AI, AJ, AR) (gQi g (fun (z : Int) (w : gS) => I = w.1 ∧ R = w.2.1 ∧ J = w.2.2.1 ∧ AI = w.2.2.2.1 ∧ AJ = w.2.2.2.2.1 ∧ AR = w.2.2.2.2.2 ∧ (0 ≤ z ∧ z ≤ 3840) ∧ (z = smL (fun r : Nat => (((rfC gh AR I AI bA r).1 : Nat) : Int)) (I pA 2).toInt.toNat (nr - (I pA 2).toInt.toNat)))) := by
  refine gStart (cc := cX6_tuplesOfViews) (maxL := 3) (ret := (some (.int))) (by decide) rfl (Nat.le_of_ble_eq_true rfl) ?_
  intro p e s m below meth c ls F hr hlk hH hz hS hl
  have hl : lv_has ls 3 [(0, .ref x)] := hl
  have hS : va_S (gA g) s.heap s.heap [] := hS
  obtain ⟨H, hHe⟩ : ∃ H : Heap, H = s.heap := ⟨_, rfl⟩
  obtain ⟨locs, hlo⟩ : ∃ k : List Loc, k = [] := ⟨_, rfl⟩
  have hH : gH g I R J AI AJ AR H := by rw [hHe]; exact hH
  have hS : va_S (gA g) s.heap H locs := by rw [hHe, hlo]; exact hS
  suffices hw : W p l e rmX6_tuplesOfViewsf s m ([.ref x] : List Value).toArray below meth c H locs 0 0 (MQ below (gQi g (fun (z : Int) (w : gS) => I = w.1 ∧ R = w.2.1 ∧ J = w.2.2.1 ∧ AI = w.2.2.2.1 ∧ AJ = w.2.2.2.2.1 ∧ AR = w.2.2.2.2.2 ∧ (0 ≤ z ∧ z ≤ 3840) ∧ (z = smL (fun r : Nat => (((rfC gh AR I AI bA r).1 : Nat) : Int)) (I pA 2).toInt.toNat (nr - (I pA 2).toInt.toNat)))) ([.ref x] : List Value).toArray s 0 0 (gA g)) (F0 m 0 ls []) by
    rw [hHe, hlo] at hw; exact hw
  clear hHe hlo
  have iX6 : ∀ w ∈ u_ws RX6 TX6 18, w ∈ wsX6_tuplesOfViews := (by decide +kernel)
  have iX4 : ∀ w ∈ u_ws RX4 TX4 4, w ∈ wsX6_tuplesOfViews := (by decide +kernel)
  have iX2 : ∀ w ∈ u_ws RX2 TX2 3, w ∈ wsX6_tuplesOfViews := (by decide +kernel)
  have k23 : Cond.fieldLink RX6 23 (TX6 3).1 (TX6 3).2.1 (TX6 3).2.2.1 ∈ wsX6_tuplesOfViews := List.mem_of_getElem? (i := 1) rfl
  have k122 : Cond.fieldLink RX6 122 (TX2 2).1 (TX2 2).2.1 (TX2 2).2.2.1 ∈ wsX6_tuplesOfViews := List.mem_of_getElem? (i := 2) rfl
  have k96 : Cond.fieldLink RX6 96 (TX2 1).1 (TX2 1).2.1 (TX2 1).2.2.1 ∈ wsX6_tuplesOfViews := List.mem_of_getElem? (i := 3) rfl
  have k38 : Cond.fieldLink RX6 38 (TX6 5).1 (TX6 5).2.1 (TX6 5).2.2.1 ∈ wsX6_tuplesOfViews := List.mem_of_getElem? (i := 4) rfl
  have k99 : Cond.fieldLink RX6 99 (TX4 3).1 (TX4 3).2.1 (TX4 3).2.2.1 ∈ wsX6_tuplesOfViews := List.mem_of_getElem? (i := 5) rfl
  refine z_iconst F dX6_tuplesOfViews_0 ?_
  refine lv_istore_n (lv' := [(1, .int (iI 0)), (0, .ref x)]) F.1 F.2.1 dX6_tuplesOfViews_1 rfl hl (by decide) rfl (fun ls hl => ?_)
  refine lv_aload_n F.1 F.2.1 dX6_tuplesOfViews_2 rfl (lv_at hl 1 rfl) ?_
  refine g_getR (ci := 6) (k := 3) F hH rfl (by decide) iX6 hx.1 (by decide) rfl (b := pA) hx.2.1 k23 dX6_tuplesOfViews_3 ?_
  refine g_getI (ci := 2) (k := 2) F hH rfl (by decide) iX2 hx.2.2.1 (by decide) rfl k122 dX6_tuplesOfViews_6 ?_
  have b_1 := gI_plan hv hx.2.2.1
  refine lv_istore_n (lv' := [(2, .int (iI ((I pA 2).toInt))), (1, .int (iI 0)), (0, .ref x)]) F.1 F.2.1 dX6_tuplesOfViews_9 rfl hl (by decide) rfl (fun ls hl => ?_)
  have cut_10_1 : ∀ (NN : Nat) (sm i : Int) (H : Heap) (locs : List Loc) (ls : Array Slot), zr sm → zr i → (0 ≤ i ∧ i ≤ 16 ∧ 0 ≤ sm ∧ sm ≤ 240 * i) → (sm = smL (fun r : Nat => (((rfC gh AR I AI bA r).1 : Nat) : Int)) (I pA 2).toInt.toNat (i - (I pA 2).toInt).toNat ∧ (I pA 2).toInt ≤ i ∧ i ≤ (nr : Int)) → (16 - i) < ((NN : Nat) : Int) → gH g I R J AI AJ AR H → va_S (gA g) s.heap H locs → lv_has ls 3 [(2, .int (iI i)), (1, .int (iI sm)), (0, .ref x)] → W p l e rmX6_tuplesOfViewsf s m ([.ref x] : List Value).toArray below meth c H locs 0 0 (MQ below (gQi g (fun (z : Int) (w : gS) => I = w.1 ∧ R = w.2.1 ∧ J = w.2.2.1 ∧ AI = w.2.2.2.1 ∧ AJ = w.2.2.2.2.1 ∧ AR = w.2.2.2.2.2 ∧ (0 ≤ z ∧ z ≤ 3840) ∧ (z = smL (fun r : Nat => (((rfC gh AR I AI bA r).1 : Nat) : Int)) (I pA 2).toInt.toNat (nr - (I pA 2).toInt.toNat)))) ([.ref x] : List Value).toArray s 0 0 (gA g)) (F0 m 10 ls []) := by
    intro NN10
    induction NN10 with
    | zero =>
      intro sm i H locs ls zsm zi hi hsm hm10 hH hS hl
      exact absurd hm10 (by omega)
    | succ NN10 ih10 =>
      intro sm i H locs ls zsm zi hi hsm hm10 hH hS hl
      refine lv_iload_n F.1 F.2.1 dX6_tuplesOfViews_10 rfl (lv_at hl 0 rfl) ?_
      refine lv_aload_n F.1 F.2.1 dX6_tuplesOfViews_11 rfl (lv_at hl 2 rfl) ?_
      refine g_getR (ci := 6) (k := 3) F hH rfl (by decide) iX6 hx.1 (by decide) rfl (b := pA) hx.2.1 k23 dX6_tuplesOfViews_12 ?_
      refine g_getI (ci := 2) (k := 1) F hH rfl (by decide) iX2 hx.2.2.1 (by decide) rfl k96 dX6_tuplesOfViews_15 ?_
      refine z_icmp_ge (tgt := 39) F dX6_tuplesOfViews_18 (by decide) zi (zr_t _) (fun c_3 => ?_) (fun c_3 => ?_)
      · refine lv_iload_n F.1 F.2.1 dX6_tuplesOfViews_39 rfl (lv_at hl 1 rfl) ?_
        exact g_iret F hr hlk hH hS hz zsm ⟨rfl, rfl, rfl, rfl, rfl, rfl, by first | omega | rfl | (dsimp only; omega), by (try dsimp only); rw [hsm.1]; congr 1; omega⟩ dX6_tuplesOfViews_40
      · refine lv_iload_n F.1 F.2.1 dX6_tuplesOfViews_21 rfl (lv_at hl 1 rfl) ?_
        refine lv_aload_n F.1 F.2.1 dX6_tuplesOfViews_22 rfl (lv_at hl 2 rfl) ?_
        refine g_getR (ci := 6) (k := 5) F hH rfl (by decide) iX6 hx.1 (by decide) rfl (b := bA) hx.2.2.2.1 k38 dX6_tuplesOfViews_23 ?_
        refine lv_iload_n F.1 F.2.1 dX6_tuplesOfViews_26 rfl (lv_at hl 0 rfl) ?_
        have hx27 : 0 ≤ i ∧ i < ((16 : Nat) : Int) ∧ i ≤ 2147483647 := ⟨by omega, by omega, by omega⟩
        obtain ⟨y_4, y_4a, y_4b, y_4c, y_4d, y_4e⟩ := hx.2.2.2.2.1.2 (i).toNat (by omega)
        refine g_aldR F hH hx.2.2.2.2.1.1 hx27.1 hx27.2.1 hx27.2.2 (b := y_4) y_4a dX6_tuplesOfViews_27 ?_
        have rm : (I y_4 3).toInt = (((rfC gh AR I AI bA i.toNat).1 : Nat) : Int) := by unfold rfC; rw [rob_e y_4a]; have q9 := (gI_rows hv y_4b).2.2.1; omega
        refine g_getI (ci := 4) (k := 3) F hH rfl (by decide) iX4 y_4b (by decide) rfl k99 dX6_tuplesOfViews_28 ?_
        obtain ⟨b_5a, b_5b, b_5c, b_5d, b_5e, b_5f, b_5g, b_5h⟩ := gI_rows hv y_4b
        refine z_iadd F dX6_tuplesOfViews_31 ?_
        refine lv_istore_n (lv' := [(1, .int (iI (sm + ((I y_4 3).toInt)))), (2, .int (iI i)), (0, .ref x)]) F.1 F.2.1 dX6_tuplesOfViews_32 rfl hl (by decide) rfl (fun ls hl => ?_)
        refine z_iinc (lv' := [(2, .int (iI (i + 1))), (1, .int (iI (sm + ((I y_4 3).toInt)))), (0, .ref x)]) F dX6_tuplesOfViews_33 hl (k := 1) rfl (by decide) rfl (fun ls hl => ?_)
        refine z_goto (tgt := 10) F dX6_tuplesOfViews_36 (by decide) ?_
        exact ih10 (sm + ((I y_4 3).toInt)) (i + 1) H locs ls ⟨by omega, by omega⟩ ⟨by omega, by omega⟩ (by omega) ⟨by rw [show (i + 1 - (I pA 2).toInt).toNat = (i - (I pA 2).toInt).toNat + 1 by omega, smL, ← hsm.1, show (I pA 2).toInt.toNat + (i - (I pA 2).toInt).toNat = i.toNat by omega]; omega, by omega, by omega⟩ (by omega) hH hS (lv_sub hl [0, 1, 2] rfl)
  exact cut_10_1 (((16 - ((I pA 2).toInt)) + 1 : Int).toNat) 0 ((I pA 2).toInt) H locs ls ⟨by decide, by decide⟩ (zr_t _) (by omega) ⟨by rw [show ((I pA 2).toInt - (I pA 2).toInt).toNat = 0 by omega]; rfl, by omega, by omega⟩ (by omega) hH hS (lv_sub hl [0, 1, 2] rfl)

def rmX6_cameToViewsf : Room := { frames := 1, cells := 0, slots := 0, locals := 22 }
set_option maxHeartbeats 4000000 in
set_option maxRecDepth 100000 in
/-- what came to views -/
theorem c_X6_cameToViewsf (l : Launch) (g : gG) (gh : gGh) (pA bA nA : Nat) (nr : Nat) (cc : Nat → LC) (I : gI) (R : gR) (J : gJ) (AI : gI) (AJ : gJ) (AR : gR) (x : Nat) (hv : gInv g gh R AR I AI) (hx : xS g gh R AR x pA bA nA) (hlen : (I pA 1).toInt = (nr : Int)) (htb2 : 0 ≤ (I pA 2).toInt ∧ (I pA 2).toInt ≤ (nr : Int) ∧ nr ≤ 16) (hln : ∀ r, r < nr → lnC (I (rob AR (gh 6 pA) r)) (AI (gh 3 (rob AR (gh 6 pA) r))) (cc r)) : gMet l g yX6_cameToViews wsX6_cameToViews rmX6_cameToViewsf [.ref x] (I, R, J, AI, AJ, AR) (gQi g (fun (z : Int) (w : gS) => I = w.1 ∧ R = w.2.1 ∧ J = w.2.2.1 ∧ AI = w.2.2.2.1 ∧ AJ = w.2.2.2.2.1 ∧ AR = w.2.2.2.2.2 ∧ (0 ≤ z ∧ z ≤ 7680) ∧ (z = smL (fun r : Nat => (if (cc r).1 2 = -1 then (0 : Int) else (((rfC gh AR I AI (gh 35 0) ((cc r).1 2).toNat).1 : Nat) : Int)) + (if (cc r).1 3 = -1 then 0 else (((rfC gh AR I AI (gh 35 0) ((cc r).1 3).toNat).1 : Nat) : Int))) (I pA 2).toInt.toNat (nr - (I pA 2).toInt.toNat)))) := by
  refine gStart (cc := cX6_cameToViews) (maxL := 3) (ret := (some (.int))) (by decide) rfl (Nat.le_of_ble_eq_true rfl) ?_
  intro p e s m below meth c ls F hr hlk hH hz hS hl
  have hl : lv_has ls 3 [(0, .ref x)] := hl
  have hS : va_S (gA g) s.heap s.heap [] := hS
  obtain ⟨H, hHe⟩ : ∃ H : Heap, H = s.heap := ⟨_, rfl⟩
  obtain ⟨locs, hlo⟩ : ∃ k : List Loc, k = [] := ⟨_, rfl⟩
  have hH : gH g I R J AI AJ AR H := by rw [hHe]; exact hH
  have hS : va_S (gA g) s.heap H locs := by rw [hHe, hlo]; exact hS
  suffices hw : W p l e rmX6_cameToViewsf s m ([.ref x] : List Value).toArray below meth c H locs 0 0 (MQ below (gQi g (fun (z : Int) (w : gS) => I = w.1 ∧ R = w.2.1 ∧ J = w.2.2.1 ∧ AI = w.2.2.2.1 ∧ AJ = w.2.2.2.2.1 ∧ AR = w.2.2.2.2.2 ∧ (0 ≤ z ∧ z ≤ 7680) ∧ (z = smL (fun r : Nat => (if (cc r).1 2 = -1 then (0 : Int) else (((rfC gh AR I AI (gh 35 0) ((cc r).1 2).toNat).1 : Nat) : Int)) + (if (cc r).1 3 = -1 then 0 else (((rfC gh AR I AI (gh 35 0) ((cc r).1 3).toNat).1 : Nat) : Int))) (I pA 2).toInt.toNat (nr - (I pA 2).toInt.toNat)))) ([.ref x] : List Value).toArray s 0 0 (gA g)) (F0 m 0 ls []) by
    rw [hHe, hlo] at hw; exact hw
  clear hHe hlo
  have iX6 : ∀ w ∈ u_ws RX6 TX6 18, w ∈ wsX6_cameToViews := (by decide +kernel)
  have iX2 : ∀ w ∈ u_ws RX2 TX2 3, w ∈ wsX6_cameToViews := (by decide +kernel)
  have k23 : Cond.fieldLink RX6 23 (TX6 3).1 (TX6 3).2.1 (TX6 3).2.2.1 ∈ wsX6_cameToViews := List.mem_of_getElem? (i := 1) rfl
  have k122 : Cond.fieldLink RX6 122 (TX2 2).1 (TX2 2).2.1 (TX2 2).2.2.1 ∈ wsX6_cameToViews := List.mem_of_getElem? (i := 2) rfl
  have k96 : Cond.fieldLink RX6 96 (TX2 1).1 (TX2 1).2.1 (TX2 1).2.2.1 ∈ wsX6_cameToViews := List.mem_of_getElem? (i := 3) rfl
  have k113 : Cond.fieldLink RX6 113 (TX2 0).1 (TX2 0).2.1 (TX2 0).2.2.1 ∈ wsX6_cameToViews := List.mem_of_getElem? (i := 4) rfl
  refine z_iconst F dX6_cameToViews_0 ?_
  refine lv_istore_n (lv' := [(1, .int (iI 0)), (0, .ref x)]) F.1 F.2.1 dX6_cameToViews_1 rfl hl (by decide) rfl (fun ls hl => ?_)
  refine lv_aload_n F.1 F.2.1 dX6_cameToViews_2 rfl (lv_at hl 1 rfl) ?_
  refine g_getR (ci := 6) (k := 3) F hH rfl (by decide) iX6 hx.1 (by decide) rfl (b := pA) hx.2.1 k23 dX6_cameToViews_3 ?_
  refine g_getI (ci := 2) (k := 2) F hH rfl (by decide) iX2 hx.2.2.1 (by decide) rfl k122 dX6_cameToViews_6 ?_
  have b_1 := gI_plan hv hx.2.2.1
  refine lv_istore_n (lv' := [(2, .int (iI ((I pA 2).toInt))), (1, .int (iI 0)), (0, .ref x)]) F.1 F.2.1 dX6_cameToViews_9 rfl hl (by decide) rfl (fun ls hl => ?_)
  have cut_10_1 : ∀ (NN : Nat) (sm i : Int) (H : Heap) (locs : List Loc) (ls : Array Slot), zr sm → zr i → (0 ≤ i ∧ i ≤ 16 ∧ 0 ≤ sm ∧ sm ≤ 480 * i) → (sm = smL (fun r : Nat => (if (cc r).1 2 = -1 then (0 : Int) else (((rfC gh AR I AI (gh 35 0) ((cc r).1 2).toNat).1 : Nat) : Int)) + (if (cc r).1 3 = -1 then 0 else (((rfC gh AR I AI (gh 35 0) ((cc r).1 3).toNat).1 : Nat) : Int))) (I pA 2).toInt.toNat (i - (I pA 2).toInt).toNat ∧ (I pA 2).toInt ≤ i ∧ i ≤ (nr : Int)) → (16 - i) < ((NN : Nat) : Int) → gH g I R J AI AJ AR H → va_S (gA g) s.heap H locs → lv_has ls 3 [(2, .int (iI i)), (1, .int (iI sm)), (0, .ref x)] → W p l e rmX6_cameToViewsf s m ([.ref x] : List Value).toArray below meth c H locs 0 0 (MQ below (gQi g (fun (z : Int) (w : gS) => I = w.1 ∧ R = w.2.1 ∧ J = w.2.2.1 ∧ AI = w.2.2.2.1 ∧ AJ = w.2.2.2.2.1 ∧ AR = w.2.2.2.2.2 ∧ (0 ≤ z ∧ z ≤ 7680) ∧ (z = smL (fun r : Nat => (if (cc r).1 2 = -1 then (0 : Int) else (((rfC gh AR I AI (gh 35 0) ((cc r).1 2).toNat).1 : Nat) : Int)) + (if (cc r).1 3 = -1 then 0 else (((rfC gh AR I AI (gh 35 0) ((cc r).1 3).toNat).1 : Nat) : Int))) (I pA 2).toInt.toNat (nr - (I pA 2).toInt.toNat)))) ([.ref x] : List Value).toArray s 0 0 (gA g)) (F0 m 10 ls []) := by
    intro NN10
    induction NN10 with
    | zero =>
      intro sm i H locs ls zsm zi hi hsm hm10 hH hS hl
      exact absurd hm10 (by omega)
    | succ NN10 ih10 =>
      intro sm i H locs ls zsm zi hi hsm hm10 hH hS hl
      refine lv_iload_n F.1 F.2.1 dX6_cameToViews_10 rfl (lv_at hl 0 rfl) ?_
      refine lv_aload_n F.1 F.2.1 dX6_cameToViews_11 rfl (lv_at hl 2 rfl) ?_
      refine g_getR (ci := 6) (k := 3) F hH rfl (by decide) iX6 hx.1 (by decide) rfl (b := pA) hx.2.1 k23 dX6_cameToViews_12 ?_
      refine g_getI (ci := 2) (k := 1) F hH rfl (by decide) iX2 hx.2.2.1 (by decide) rfl k96 dX6_cameToViews_15 ?_
      refine z_icmp_ge (tgt := 43) F dX6_cameToViews_18 (by decide) zi (zr_t _) (fun c_3 => ?_) (fun c_3 => ?_)
      · refine lv_iload_n F.1 F.2.1 dX6_cameToViews_43 rfl (lv_at hl 1 rfl) ?_
        exact g_iret F hr hlk hH hS hz zsm ⟨rfl, rfl, rfl, rfl, rfl, rfl, by first | omega | rfl | (dsimp only; omega), by (try dsimp only); rw [hsm.1]; congr 1; omega⟩ dX6_cameToViews_44
      · refine lv_iload_n F.1 F.2.1 dX6_cameToViews_21 rfl (lv_at hl 1 rfl) ?_
        refine lv_aload_n F.1 F.2.1 dX6_cameToViews_22 rfl (lv_at hl 2 rfl) ?_
        refine lv_aload_n F.1 F.2.1 dX6_cameToViews_23 rfl (lv_at hl 2 rfl) ?_
        refine g_getR (ci := 6) (k := 3) F hH rfl (by decide) iX6 hx.1 (by decide) rfl (b := pA) hx.2.1 k23 dX6_cameToViews_24 ?_
        obtain ⟨r_4a, r_4b⟩ := gR_lines hv hx.2.2.1
        refine g_getR (ci := 2) (k := 0) F hH rfl (by decide) iX2 hx.2.2.1 (by decide) rfl (b := gh 6 pA) r_4a k113 dX6_cameToViews_27 ?_
        refine lv_iload_n F.1 F.2.1 dX6_cameToViews_30 rfl (lv_at hl 0 rfl) ?_
        have hx31 : 0 ≤ i ∧ i < ((16 : Nat) : Int) ∧ i ≤ 2147483647 := ⟨by omega, by omega, by omega⟩
        obtain ⟨y_5, y_5a, y_5b, y_5c, y_5d⟩ := gA_lines hv hx.2.2.1 (z := i) (by omega) (by omega)
        refine g_aldL F hH r_4b hx31.1 hx31.2.1 hx31.2.2 (b := y_5) y_5a dX6_cameToViews_31 ?_
        have hl9 := (hln i.toNat (by omega)).1
        rw [rob_e y_5a] at hl9
        have b_6 := gI_x hv hx.1
        have b_7 := gI_line hv y_5b
        unfold vLineI at b_7
        refine g_calli (g_runV (As := [.ref y_5]) (rest := [.int (iI sm)]) (ci := 6) F hl.1 hH hS hz (c_X6_cameTof l g gh pA bA nA I R J AI AJ AR x y_5 hv hx y_5b) (cwV 1 F.2.2.2.2.1 gX6_cameToViews_X6_cameTo rfl rfl rfl hdX6_cameTo ⟨Nat.le_of_ble_eq_true rfl, Nat.le_of_ble_eq_true rfl⟩) hx.1 (by decide) rfl rfl rfl (Nat.le_of_ble_eq_true rfl) dX6_cameToViews_32 ⟨Nat.zero_le _, Nat.zero_le _⟩) hS (fun v_14 I_8 R_9 J_10 AI_11 AJ_12 AR_13 H locs zv_14 hp_15 hH hS => ?_)
        dsimp only at hp_15
        obtain ⟨rfl, rfl, rfl, rfl, rfl, rfl, q_16, rm⟩ := hp_15
        rw [hl9.2.2.1, hl9.2.2.2] at rm
        refine z_iadd F dX6_cameToViews_35 ?_
        refine lv_istore_n (lv' := [(1, .int (iI (sm + v_14))), (2, .int (iI i)), (0, .ref x)]) F.1 F.2.1 dX6_cameToViews_36 rfl hl (by decide) rfl (fun ls hl => ?_)
        refine z_iinc (lv' := [(2, .int (iI (i + 1))), (1, .int (iI (sm + v_14))), (0, .ref x)]) F dX6_cameToViews_37 hl (k := 1) rfl (by decide) rfl (fun ls hl => ?_)
        refine z_goto (tgt := 10) F dX6_cameToViews_40 (by decide) ?_
        exact ih10 (sm + v_14) (i + 1) H locs ls ⟨by omega, by omega⟩ ⟨by omega, by omega⟩ (by omega) ⟨by rw [show (i + 1 - (I pA 2).toInt).toNat = (i - (I pA 2).toInt).toNat + 1 by omega, smL, ← hsm.1, show (I pA 2).toInt.toNat + (i - (I pA 2).toInt).toNat = i.toNat by omega]; omega, by omega, by omega⟩ (by omega) hH hS (lv_sub hl [0, 1, 2] rfl)
  exact cut_10_1 (((16 - ((I pA 2).toInt)) + 1 : Int).toNat) 0 ((I pA 2).toInt) H locs ls ⟨by decide, by decide⟩ (zr_t _) (by omega) ⟨by rw [show ((I pA 2).toInt - (I pA 2).toInt).toNat = 0 by omega]; rfl, by omega, by omega⟩ (by omega) hH hS (lv_sub hl [0, 1, 2] rfl)
end
section
def rmX6_toldf : Room := { frames := 2, cells := 0, slots := 0, locals := 44 }
set_option maxHeartbeats 4000000 in
set_option maxRecDepth 100000 in
/-- told -/
theorem c_X6_toldf (l : Launch) (g : gG) (gh : gGh) (pA bA nA : Nat) (nr : Nat) (cc : Nat → LC) (I : gI) (R : gR) (J : gJ) (AI : gI) (AJ : gJ) (AR : gR) (x : Nat) (wh : Int) (zwh : zr wh) (hv : gInv g gh R AR I AI) (hx : xS g gh R AR x pA bA nA) (hlen : (I pA 1).toInt = (nr : Int)) (htb2 : 0 ≤ (I pA 2).toInt ∧ (I pA 2).toInt ≤ (nr : Int) ∧ nr ≤ 16) (hln : ∀ r, r < nr → lnC (I (rob AR (gh 6 pA) r)) (AI (gh 3 (rob AR (gh 6 pA) r))) (cc r)) : gMet l g yX6_told wsX6_told rmX6_toldf [.ref x, .int (iI wh)] (I, R, J, AI, AJ, AR) (gQi g (fun (z : Int) (w : gS) => I = w.1 ∧ R = w.2.1 ∧ J = w.2.2.1 ∧ AI = w.2.2.2.1 ∧ AJ = w.2.2.2.2.1 ∧ AR = w.2.2.2.2.2 ∧ ((wh = 0 ∧ z = (I pA 2).toInt) ∨ (wh = 1 ∧ z = (nr : Int) - (I pA 2).toInt) ∨ (wh = 2 ∧ iI z = I x 16) ∨ (wh = 3 ∧ iI z = I x 17) ∨ (wh = 4 ∧ z = (I x 15).toInt) ∨ (wh = 5 ∧ z = (I (gh 37 0) 3).toInt) ∨ (wh = 6 ∧ z = smL (fun r : Nat => (((rfC gh AR I AI bA r).1 : Nat) : Int)) (I pA 2).toInt.toNat (nr - (I pA 2).toInt.toNat)) ∨ (wh = 7 ∧ z = smL (lnR AR I (gh 35 0)) (I pA 2).toInt.toNat (nr - (I pA 2).toInt.toNat)) ∨ (wh = 8 ∧ z = smL (fun r : Nat => (if (cc r).1 2 = -1 then (0 : Int) else (((rfC gh AR I AI (gh 35 0) ((cc r).1 2).toNat).1 : Nat) : Int)) + (if (cc r).1 3 = -1 then 0 else (((rfC gh AR I AI (gh 35 0) ((cc r).1 3).toNat).1 : Nat) : Int))) (I pA 2).toInt.toNat (nr - (I pA 2).toInt.toNat)) ∨ (wh = 9 ∧ z = (I x 1).toInt) ∨ ((wh < 0 ∨ 9 < wh) ∧ z = -1)))) := by
  refine gStart (cc := cX6_told) (maxL := 2) (ret := (some (.int))) (by decide) rfl (Nat.le_of_ble_eq_true rfl) ?_
  intro p e s m below meth c ls F hr hlk hH hz hS hl
  have hl : lv_has ls 2 [(0, .ref x), (1, .int (iI wh))] := hl
  have hS : va_S (gA g) s.heap s.heap [] := hS
  obtain ⟨H, hHe⟩ : ∃ H : Heap, H = s.heap := ⟨_, rfl⟩
  obtain ⟨locs, hlo⟩ : ∃ k : List Loc, k = [] := ⟨_, rfl⟩
  have hH : gH g I R J AI AJ AR H := by rw [hHe]; exact hH
  have hS : va_S (gA g) s.heap H locs := by rw [hHe, hlo]; exact hS
  suffices hw : W p l e rmX6_toldf s m ([.ref x, .int (iI wh)] : List Value).toArray below meth c H locs 0 0 (MQ below (gQi g (fun (z : Int) (w : gS) => I = w.1 ∧ R = w.2.1 ∧ J = w.2.2.1 ∧ AI = w.2.2.2.1 ∧ AJ = w.2.2.2.2.1 ∧ AR = w.2.2.2.2.2 ∧ ((wh = 0 ∧ z = (I pA 2).toInt) ∨ (wh = 1 ∧ z = (nr : Int) - (I pA 2).toInt) ∨ (wh = 2 ∧ iI z = I x 16) ∨ (wh = 3 ∧ iI z = I x 17) ∨ (wh = 4 ∧ z = (I x 15).toInt) ∨ (wh = 5 ∧ z = (I (gh 37 0) 3).toInt) ∨ (wh = 6 ∧ z = smL (fun r : Nat => (((rfC gh AR I AI bA r).1 : Nat) : Int)) (I pA 2).toInt.toNat (nr - (I pA 2).toInt.toNat)) ∨ (wh = 7 ∧ z = smL (lnR AR I (gh 35 0)) (I pA 2).toInt.toNat (nr - (I pA 2).toInt.toNat)) ∨ (wh = 8 ∧ z = smL (fun r : Nat => (if (cc r).1 2 = -1 then (0 : Int) else (((rfC gh AR I AI (gh 35 0) ((cc r).1 2).toNat).1 : Nat) : Int)) + (if (cc r).1 3 = -1 then 0 else (((rfC gh AR I AI (gh 35 0) ((cc r).1 3).toNat).1 : Nat) : Int))) (I pA 2).toInt.toNat (nr - (I pA 2).toInt.toNat)) ∨ (wh = 9 ∧ z = (I x 1).toInt) ∨ ((wh < 0 ∨ 9 < wh) ∧ z = -1)))) ([.ref x, .int (iI wh)] : List Value).toArray s 0 0 (gA g)) (F0 m 0 ls []) by
    rw [hHe, hlo] at hw; exact hw
  clear hHe hlo
  have iX6 : ∀ w ∈ u_ws RX6 TX6 18, w ∈ wsX6_told := (by decide +kernel)
  have iX4 : ∀ w ∈ u_ws RX4 TX4 4, w ∈ wsX6_told := (by decide +kernel)
  have iX2 : ∀ w ∈ u_ws RX2 TX2 3, w ∈ wsX6_told := (by decide +kernel)
  have k23 : Cond.fieldLink RX6 23 (TX6 3).1 (TX6 3).2.1 (TX6 3).2.2.1 ∈ wsX6_told := List.mem_of_getElem? (i := 1) rfl
  have k122 : Cond.fieldLink RX6 122 (TX2 2).1 (TX2 2).2.1 (TX2 2).2.2.1 ∈ wsX6_told := List.mem_of_getElem? (i := 2) rfl
  have k96 : Cond.fieldLink RX6 96 (TX2 1).1 (TX2 1).2.1 (TX2 1).2.2.1 ∈ wsX6_told := List.mem_of_getElem? (i := 3) rfl
  have k103 : Cond.fieldLink RX6 103 (TX6 16).1 (TX6 16).2.1 (TX6 16).2.2.1 ∈ wsX6_told := List.mem_of_getElem? (i := 4) rfl
  have k106 : Cond.fieldLink RX6 106 (TX6 17).1 (TX6 17).2.1 (TX6 17).2.2.1 ∈ wsX6_told := List.mem_of_getElem? (i := 5) rfl
  have k100 : Cond.fieldLink RX6 100 (TX6 15).1 (TX6 15).2.1 (TX6 15).2.2.1 ∈ wsX6_told := List.mem_of_getElem? (i := 6) rfl
  have k53 : Cond.fieldLink RX6 53 (TX6 8).1 (TX6 8).2.1 (TX6 8).2.2.1 ∈ wsX6_told := List.mem_of_getElem? (i := 7) rfl
  have k99 : Cond.fieldLink RX6 99 (TX4 3).1 (TX4 3).2.1 (TX4 3).2.2.1 ∈ wsX6_told := List.mem_of_getElem? (i := 8) rfl
  have k77 : Cond.fieldLink RX6 77 (TX6 1).1 (TX6 1).2.1 (TX6 1).2.2.1 ∈ wsX6_told := List.mem_of_getElem? (i := 9) rfl
  refine lv_iload_n F.1 F.2.1 dX6_told_0 rfl (lv_at hl 1 rfl) ?_
  have ec_1 : (iI wh).toInt = wh := iI_val zwh
  by_cases c_1 : wh < 0 ∨ 9 < wh
  · refine lv_tableOut (tgt := 123) F.1 F.2.1 dX6_told_1 (by rw [ec_1]; exact c_1) (by decide) ?_
    refine z_iconst F dX6_told_123 ?_
    exact g_iret F hr hlk hH hS hz ⟨by decide, by decide⟩ ⟨rfl, rfl, rfl, rfl, rfl, rfl, Or.inr (Or.inr (Or.inr (Or.inr (Or.inr (Or.inr (Or.inr (Or.inr (Or.inr (Or.inr (⟨by omega, rfl⟩))))))))))⟩ dX6_told_124
  by_cases c_1_0 : wh = 0
  · refine lv_tableIn (tgt := 56) (off := 55) F.1 F.2.1 dX6_told_1 (by rw [ec_1]; omega) (by rw [ec_1]; omega) (by rw [ec_1, c_1_0]; rfl) (by decide) ?_
    refine lv_aload_n F.1 F.2.1 dX6_told_56 rfl (lv_at hl 0 rfl) ?_
    refine g_getR (ci := 6) (k := 3) F hH rfl (by decide) iX6 hx.1 (by decide) rfl (b := pA) hx.2.1 k23 dX6_told_57 ?_
    refine g_getI (ci := 2) (k := 2) F hH rfl (by decide) iX2 hx.2.2.1 (by decide) rfl k122 dX6_told_60 ?_
    have b_2 := gI_plan hv hx.2.2.1
    exact g_iret F hr hlk hH hS hz (zr_t _) ⟨rfl, rfl, rfl, rfl, rfl, rfl, Or.inl ⟨by omega, by omega⟩⟩ dX6_told_63
  by_cases c_1_1 : wh = 1
  · refine lv_tableIn (tgt := 64) (off := 63) F.1 F.2.1 dX6_told_1 (by rw [ec_1]; omega) (by rw [ec_1]; omega) (by rw [ec_1, c_1_1]; rfl) (by decide) ?_
    refine lv_aload_n F.1 F.2.1 dX6_told_64 rfl (lv_at hl 0 rfl) ?_
    refine g_getR (ci := 6) (k := 3) F hH rfl (by decide) iX6 hx.1 (by decide) rfl (b := pA) hx.2.1 k23 dX6_told_65 ?_
    refine g_getI (ci := 2) (k := 1) F hH rfl (by decide) iX2 hx.2.2.1 (by decide) rfl k96 dX6_told_68 ?_
    have b_3 := gI_plan hv hx.2.2.1
    refine lv_aload_n F.1 F.2.1 dX6_told_71 rfl (lv_at hl 0 rfl) ?_
    refine g_getR (ci := 6) (k := 3) F hH rfl (by decide) iX6 hx.1 (by decide) rfl (b := pA) hx.2.1 k23 dX6_told_72 ?_
    refine g_getI (ci := 2) (k := 2) F hH rfl (by decide) iX2 hx.2.2.1 (by decide) rfl k122 dX6_told_75 ?_
    refine z_isub F dX6_told_78 ?_
    exact g_iret F hr hlk hH hS hz ⟨by omega, by omega⟩ ⟨rfl, rfl, rfl, rfl, rfl, rfl, Or.inr (Or.inl ⟨by omega, by omega⟩)⟩ dX6_told_79
  by_cases c_1_2 : wh = 2
  · refine lv_tableIn (tgt := 80) (off := 79) F.1 F.2.1 dX6_told_1 (by rw [ec_1]; omega) (by rw [ec_1]; omega) (by rw [ec_1, c_1_2]; rfl) (by decide) ?_
    refine lv_aload_n F.1 F.2.1 dX6_told_80 rfl (lv_at hl 0 rfl) ?_
    refine g_getI (ci := 6) (k := 16) F hH rfl (by decide) iX6 hx.1 (by decide) rfl k103 dX6_told_81 ?_
    refine z_norm (fun v_4 zv_4 ev_4 => ?_)
    exact g_iret F hr hlk hH hS hz zv_4 ⟨rfl, rfl, rfl, rfl, rfl, rfl, Or.inr (Or.inr (Or.inl ⟨by omega, by rw [ev_4, iI_self]⟩))⟩ dX6_told_84
  by_cases c_1_3 : wh = 3
  · refine lv_tableIn (tgt := 85) (off := 84) F.1 F.2.1 dX6_told_1 (by rw [ec_1]; omega) (by rw [ec_1]; omega) (by rw [ec_1, c_1_3]; rfl) (by decide) ?_
    refine lv_aload_n F.1 F.2.1 dX6_told_85 rfl (lv_at hl 0 rfl) ?_
    refine g_getI (ci := 6) (k := 17) F hH rfl (by decide) iX6 hx.1 (by decide) rfl k106 dX6_told_86 ?_
    refine z_norm (fun v_5 zv_5 ev_5 => ?_)
    exact g_iret F hr hlk hH hS hz zv_5 ⟨rfl, rfl, rfl, rfl, rfl, rfl, Or.inr (Or.inr (Or.inr (Or.inl ⟨by omega, by rw [ev_5, iI_self]⟩)))⟩ dX6_told_89
  by_cases c_1_4 : wh = 4
  · refine lv_tableIn (tgt := 90) (off := 89) F.1 F.2.1 dX6_told_1 (by rw [ec_1]; omega) (by rw [ec_1]; omega) (by rw [ec_1, c_1_4]; rfl) (by decide) ?_
    refine lv_aload_n F.1 F.2.1 dX6_told_90 rfl (lv_at hl 0 rfl) ?_
    refine g_getI (ci := 6) (k := 15) F hH rfl (by decide) iX6 hx.1 (by decide) rfl k100 dX6_told_91 ?_
    have b_6 := gI_x hv hx.1
    exact g_iret F hr hlk hH hS hz (zr_t _) ⟨rfl, rfl, rfl, rfl, rfl, rfl, Or.inr (Or.inr (Or.inr (Or.inr (Or.inl ⟨by omega, by omega⟩))))⟩ dX6_told_94
  by_cases c_1_5 : wh = 5
  · refine lv_tableIn (tgt := 95) (off := 94) F.1 F.2.1 dX6_told_1 (by rw [ec_1]; omega) (by rw [ec_1]; omega) (by rw [ec_1, c_1_5]; rfl) (by decide) ?_
    refine lv_aload_n F.1 F.2.1 dX6_told_95 rfl (lv_at hl 0 rfl) ?_
    obtain ⟨r_7a, r_7b, r_7c, r_7d⟩ := gR_x8 hv hx.1
    refine g_getR (ci := 6) (k := 8) F hH rfl (by decide) iX6 hx.1 (by decide) rfl (b := gh 37 0) r_7a k53 dX6_told_96 ?_
    refine g_getI (ci := 4) (k := 3) F hH rfl (by decide) iX4 r_7b (by decide) rfl k99 dX6_told_99 ?_
    obtain ⟨b_8a, b_8b, b_8c, b_8d, b_8e, b_8f, b_8g, b_8h⟩ := gI_rows hv r_7b
    exact g_iret F hr hlk hH hS hz (zr_t _) ⟨rfl, rfl, rfl, rfl, rfl, rfl, Or.inr (Or.inr (Or.inr (Or.inr (Or.inr (Or.inl ⟨by omega, by omega⟩)))))⟩ dX6_told_102
  by_cases c_1_6 : wh = 6
  · refine lv_tableIn (tgt := 103) (off := 102) F.1 F.2.1 dX6_told_1 (by rw [ec_1]; omega) (by rw [ec_1]; omega) (by rw [ec_1, c_1_6]; rfl) (by decide) ?_
    refine lv_aload_n F.1 F.2.1 dX6_told_103 rfl (lv_at hl 0 rfl) ?_
    have b_9 := gI_x hv hx.1
    refine g_calli (g_runV (As := []) (rest := []) (ci := 6) F hl.1 hH hS hz (c_X6_tuplesOfViewsf l g gh pA bA nA nr I R J AI AJ AR x hv hx (by omega) htb2) (cwV 0 F.2.2.2.2.1 gX6_told_X6_tuplesOfViews rfl rfl rfl hdX6_tuplesOfViews ⟨Nat.le_of_ble_eq_true rfl, Nat.le_of_ble_eq_true rfl⟩) hx.1 (by decide) rfl rfl rfl (Nat.le_of_ble_eq_true rfl) dX6_told_104 ⟨Nat.zero_le _, Nat.zero_le _⟩) hS (fun v_16 I_10 R_11 J_12 AI_13 AJ_14 AR_15 H locs zv_16 hp_17 hH hS => ?_)
    dsimp only at hp_17
    obtain ⟨rfl, rfl, rfl, rfl, rfl, rfl, q_18, qsm⟩ := hp_17
    exact g_iret F hr hlk hH hS hz zv_16 ⟨rfl, rfl, rfl, rfl, rfl, rfl, Or.inr (Or.inr (Or.inr (Or.inr (Or.inr (Or.inr (Or.inl ⟨by omega, qsm⟩))))))⟩ dX6_told_107
  by_cases c_1_7 : wh = 7
  · refine lv_tableIn (tgt := 108) (off := 107) F.1 F.2.1 dX6_told_1 (by rw [ec_1]; omega) (by rw [ec_1]; omega) (by rw [ec_1, c_1_7]; rfl) (by decide) ?_
    refine lv_aload_n F.1 F.2.1 dX6_told_108 rfl (lv_at hl 0 rfl) ?_
    have b_19 := gI_x hv hx.1
    refine g_calli (g_runV (As := []) (rest := []) (ci := 6) F hl.1 hH hS hz (c_X6_movedInViewsf l g gh pA bA nA nr I R J AI AJ AR x hv hx (by omega) htb2) (cwV 0 F.2.2.2.2.1 gX6_told_X6_movedInViews rfl rfl rfl hdX6_movedInViews ⟨Nat.le_of_ble_eq_true rfl, Nat.le_of_ble_eq_true rfl⟩) hx.1 (by decide) rfl rfl rfl (Nat.le_of_ble_eq_true rfl) dX6_told_109 ⟨Nat.zero_le _, Nat.zero_le _⟩) hS (fun v_26 I_20 R_21 J_22 AI_23 AJ_24 AR_25 H locs zv_26 hp_27 hH hS => ?_)
    dsimp only at hp_27
    obtain ⟨rfl, rfl, rfl, rfl, rfl, rfl, q_28, qsm⟩ := hp_27
    exact g_iret F hr hlk hH hS hz zv_26 ⟨rfl, rfl, rfl, rfl, rfl, rfl, Or.inr (Or.inr (Or.inr (Or.inr (Or.inr (Or.inr (Or.inr (Or.inl ⟨by omega, qsm⟩)))))))⟩ dX6_told_112
  by_cases c_1_8 : wh = 8
  · refine lv_tableIn (tgt := 113) (off := 112) F.1 F.2.1 dX6_told_1 (by rw [ec_1]; omega) (by rw [ec_1]; omega) (by rw [ec_1, c_1_8]; rfl) (by decide) ?_
    refine lv_aload_n F.1 F.2.1 dX6_told_113 rfl (lv_at hl 0 rfl) ?_
    have b_29 := gI_x hv hx.1
    refine g_calli (g_runV (As := []) (rest := []) (ci := 6) F hl.1 hH hS hz (c_X6_cameToViewsf l g gh pA bA nA nr cc I R J AI AJ AR x hv hx (by omega) htb2 hln) (cwV 0 F.2.2.2.2.1 gX6_told_X6_cameToViews rfl rfl rfl hdX6_cameToViews ⟨Nat.le_of_ble_eq_true rfl, Nat.le_of_ble_eq_true rfl⟩) hx.1 (by decide) rfl rfl rfl (Nat.le_of_ble_eq_true rfl) dX6_told_114 ⟨Nat.zero_le _, Nat.zero_le _⟩) hS (fun v_36 I_30 R_31 J_32 AI_33 AJ_34 AR_35 H locs zv_36 hp_37 hH hS => ?_)
    dsimp only at hp_37
    obtain ⟨rfl, rfl, rfl, rfl, rfl, rfl, q_38, qsm⟩ := hp_37
    exact g_iret F hr hlk hH hS hz zv_36 ⟨rfl, rfl, rfl, rfl, rfl, rfl, Or.inr (Or.inr (Or.inr (Or.inr (Or.inr (Or.inr (Or.inr (Or.inr (Or.inl ⟨by omega, qsm⟩))))))))⟩ dX6_told_117
  have c_1_9 : wh = 9 := by omega
  refine lv_tableIn (tgt := 118) (off := 117) F.1 F.2.1 dX6_told_1 (by rw [ec_1]; omega) (by rw [ec_1]; omega) (by rw [ec_1, c_1_9]; rfl) (by decide) ?_
  refine lv_aload_n F.1 F.2.1 dX6_told_118 rfl (lv_at hl 0 rfl) ?_
  refine g_getI (ci := 6) (k := 1) F hH rfl (by decide) iX6 hx.1 (by decide) rfl k77 dX6_told_119 ?_
  have b_39 := gI_x hv hx.1
  exact g_iret F hr hlk hH hS hz (zr_t _) ⟨rfl, rfl, rfl, rfl, rfl, rfl, Or.inr (Or.inr (Or.inr (Or.inr (Or.inr (Or.inr (Or.inr (Or.inr (Or.inr (Or.inl ⟨by omega, by omega⟩)))))))))⟩ dX6_told_122
end
section
def rmX6_setKeyf : Room := { frames := 0, cells := 0, slots := 0, locals := 0 }
set_option maxHeartbeats 4000000 in
set_option maxRecDepth 100000 in
/-- a key -/
theorem c_X6_setKeyf (l : Launch) (g : gG) (gh : gGh) (pA bA nA : Nat) (I : gI) (R : gR) (J : gJ) (AI : gI) (AJ : gJ) (AR : gR) (x : Nat) (cols : Int) (ca : Int) (cb : Int) (c3 : Int) (c4 : Int) (zcols : zr cols) (zca : zr ca) (zcb : zr cb) (zc3 : zr c3) (zc4 : zr c4) (hv : gInv g gh R AR I AI) (hx : xS g gh R AR x pA bA nA) : gMet l g yX6_setKey wsX6_setKey rmX6_setKeyf [.ref x, .int (iI cols), .int (iI ca), .int (iI cb), .int (iI c3), .int (iI c4)] (I, R, J, AI, AJ, AR) (gQv g (fun w : gS => I = w.1 ∧ R = w.2.1 ∧ J = w.2.2.1 ∧ AJ = w.2.2.2.2.1 ∧ AR = w.2.2.2.2.2 ∧ (gInv g gh R AR I (w.2.2.2.1)) ∧ (∀ b, b ≠ gh 29 0 → (w.2.2.2.1) b = AI b) ∧ (∀ j, j < 4 → (w.2.2.2.1) (gh 29 0) j = tg (kyT cols ca cb c3 c4) j))) := by
  refine gStart (cc := cX6_setKey) (maxL := 6) (ret := none) (by decide) rfl (Nat.le_of_ble_eq_true rfl) ?_
  intro p e s m below meth c ls F hr hlk hH hz hS hl
  have hl : lv_has ls 6 [(0, .ref x), (1, .int (iI cols)), (2, .int (iI ca)), (3, .int (iI cb)), (4, .int (iI c3)), (5, .int (iI c4))] := hl
  have hS : va_S (gA g) s.heap s.heap [] := hS
  obtain ⟨H, hHe⟩ : ∃ H : Heap, H = s.heap := ⟨_, rfl⟩
  obtain ⟨locs, hlo⟩ : ∃ k : List Loc, k = [] := ⟨_, rfl⟩
  have hH : gH g I R J AI AJ AR H := by rw [hHe]; exact hH
  have hS : va_S (gA g) s.heap H locs := by rw [hHe, hlo]; exact hS
  suffices hw : W p l e rmX6_setKeyf s m ([.ref x, .int (iI cols), .int (iI ca), .int (iI cb), .int (iI c3), .int (iI c4)] : List Value).toArray below meth c H locs 0 0 (MQ below (gQv g (fun w : gS => I = w.1 ∧ R = w.2.1 ∧ J = w.2.2.1 ∧ AJ = w.2.2.2.2.1 ∧ AR = w.2.2.2.2.2 ∧ (gInv g gh R AR I (w.2.2.2.1)) ∧ (∀ b, b ≠ gh 29 0 → (w.2.2.2.1) b = AI b) ∧ (∀ j, j < 4 → (w.2.2.2.1) (gh 29 0) j = tg (kyT cols ca cb c3 c4) j))) ([.ref x, .int (iI cols), .int (iI ca), .int (iI cb), .int (iI c3), .int (iI c4)] : List Value).toArray s 0 0 (gA g)) (F0 m 0 ls []) by
    rw [hHe, hlo] at hw; exact hw
  clear hHe hlo
  have iX6 : ∀ w ∈ u_ws RX6 TX6 18, w ∈ wsX6_setKey := (by decide +kernel)
  have k66 : Cond.fieldLink RX6 66 (TX6 12).1 (TX6 12).2.1 (TX6 12).2.2.1 ∈ wsX6_setKey := List.mem_of_getElem? (i := 1) rfl
  refine lv_aload_n F.1 F.2.1 dX6_setKey_0 rfl (lv_at hl 0 rfl) ?_
  obtain ⟨r_1a, r_1b⟩ := gR_x12 hv hx.1
  refine g_getR (ci := 6) (k := 12) F hH rfl (by decide) iX6 hx.1 (by decide) rfl (b := gh 29 0) r_1a k66 dX6_setKey_1 ?_
  refine z_iconst F dX6_setKey_4 ?_
  refine lv_iload_n F.1 F.2.1 dX6_setKey_5 rfl (lv_at hl 2 rfl) ?_
  have hx6 : 0 ≤ (0 : Int) ∧ (0 : Int) < ((5 : Nat) : Int) ∧ (0 : Int) ≤ 2147483647 := ⟨by omega, by omega, by omega⟩
  refine g_iast F hH hS r_1b hx6.1 hx6.2.1 hx6.2.2 dX6_setKey_6 (fun H locs hH hS => ?_)
  obtain ⟨AI_2, eAI_2⟩ : ∃ qQ, qQ = gup2 AI (gh 29 0) ((0 : Int)).toNat (iI (ca)) := ⟨_, rfl⟩
  rw [← eAI_2] at hH
  have kAI_2 : ∀ b, b ≠ (gh 29 0) → AI_2 b = AI b := fun b hb => by rw [eAI_2]; exact funext fun j => gup2_a _ _ hb
  have hv : gInv g gh R AR I AI_2 := gInv_plain hv (ro29 hv hx.1) kAI_2
  have key0 : AI_2 (gh 29 0) 0 = iI ca := by rw [eAI_2, gup2_e _ _ (by decide)]
  have fW : ∀ b, b ≠ gh 29 0 → AI_2 b = AI b := fun b hb => kAI_2 b hb
  refine lv_aload_n F.1 F.2.1 dX6_setKey_7 rfl (lv_at hl 0 rfl) ?_
  refine g_getR (ci := 6) (k := 12) F hH rfl (by decide) iX6 hx.1 (by decide) rfl (b := gh 29 0) r_1a k66 dX6_setKey_8 ?_
  refine z_iconst F dX6_setKey_11 ?_
  have cut_22_2 : ∀ (k2 : Int) (H : Heap) (locs : List Loc) (ls : Array Slot), zr k2 → (k2 = if 1 < cols then cb else 0) → gH g I R J AI_2 AJ AR H → va_S (gA g) s.heap H locs → lv_has ls 6 [(0, .ref x), (1, .int (iI cols)), (2, .int (iI ca)), (3, .int (iI cb)), (4, .int (iI c3)), (5, .int (iI c4))] → W p l e rmX6_setKeyf s m ([.ref x, .int (iI cols), .int (iI ca), .int (iI cb), .int (iI c3), .int (iI c4)] : List Value).toArray below meth c H locs 0 0 (MQ below (gQv g (fun w : gS => I = w.1 ∧ R = w.2.1 ∧ J = w.2.2.1 ∧ AJ = w.2.2.2.2.1 ∧ AR = w.2.2.2.2.2 ∧ (gInv g gh R AR I (w.2.2.2.1)) ∧ (∀ b, b ≠ gh 29 0 → (w.2.2.2.1) b = AI b) ∧ (∀ j, j < 4 → (w.2.2.2.1) (gh 29 0) j = tg (kyT cols ca cb c3 c4) j))) ([.ref x, .int (iI cols), .int (iI ca), .int (iI cb), .int (iI c3), .int (iI c4)] : List Value).toArray s 0 0 (gA g)) (F0 m 22 ls [.int (iI k2), .int (iI 1), .ref (gh 29 0)]) := by
    intro k2 H locs ls zk2 hk2 hH hS hl
    have hx22 : 0 ≤ (1 : Int) ∧ (1 : Int) < ((5 : Nat) : Int) ∧ (1 : Int) ≤ 2147483647 := ⟨by omega, by omega, by omega⟩
    refine g_iast F hH hS r_1b hx22.1 hx22.2.1 hx22.2.2 dX6_setKey_22 (fun H locs hH hS => ?_)
    obtain ⟨AI_4, eAI_4⟩ : ∃ qQ, qQ = gup2 AI_2 (gh 29 0) ((1 : Int)).toNat (iI (k2)) := ⟨_, rfl⟩
    rw [← eAI_4] at hH
    have kAI_4 : ∀ b, b ≠ (gh 29 0) → AI_4 b = AI_2 b := fun b hb => by rw [eAI_4]; exact funext fun j => gup2_a _ _ hb
    have hv : gInv g gh R AR I AI_4 := gInv_plain hv (ro29 hv hx.1) kAI_4
    have key0 : AI_4 (gh 29 0) 0 = iI ca := by rw [eAI_4, gup2_k _ _ (by decide)]; exact key0
    have key1 : AI_4 (gh 29 0) 1 = iI k2 := by rw [eAI_4, gup2_e _ _ (by decide)]
    have fW : ∀ b, b ≠ gh 29 0 → AI_4 b = AI b := fun b hb => (kAI_4 b hb).trans (fW b hb)
    refine lv_aload_n F.1 F.2.1 dX6_setKey_23 rfl (lv_at hl 0 rfl) ?_
    refine g_getR (ci := 6) (k := 12) F hH rfl (by decide) iX6 hx.1 (by decide) rfl (b := gh 29 0) r_1a k66 dX6_setKey_24 ?_
    refine z_iconst F dX6_setKey_27 ?_
    have cut_39_4 : ∀ (k3 : Int) (H : Heap) (locs : List Loc) (ls : Array Slot), zr k3 → (k3 = if 2 < cols then c3 else 0) → gH g I R J AI_4 AJ AR H → va_S (gA g) s.heap H locs → lv_has ls 6 [(0, .ref x), (1, .int (iI cols)), (2, .int (iI ca)), (3, .int (iI cb)), (4, .int (iI c3)), (5, .int (iI c4))] → W p l e rmX6_setKeyf s m ([.ref x, .int (iI cols), .int (iI ca), .int (iI cb), .int (iI c3), .int (iI c4)] : List Value).toArray below meth c H locs 0 0 (MQ below (gQv g (fun w : gS => I = w.1 ∧ R = w.2.1 ∧ J = w.2.2.1 ∧ AJ = w.2.2.2.2.1 ∧ AR = w.2.2.2.2.2 ∧ (gInv g gh R AR I (w.2.2.2.1)) ∧ (∀ b, b ≠ gh 29 0 → (w.2.2.2.1) b = AI b) ∧ (∀ j, j < 4 → (w.2.2.2.1) (gh 29 0) j = tg (kyT cols ca cb c3 c4) j))) ([.ref x, .int (iI cols), .int (iI ca), .int (iI cb), .int (iI c3), .int (iI c4)] : List Value).toArray s 0 0 (gA g)) (F0 m 39 ls [.int (iI k3), .int (iI 2), .ref (gh 29 0)]) := by
      intro k3 H locs ls zk3 hk3 hH hS hl
      have hx39 : 0 ≤ (2 : Int) ∧ (2 : Int) < ((5 : Nat) : Int) ∧ (2 : Int) ≤ 2147483647 := ⟨by omega, by omega, by omega⟩
      refine g_iast F hH hS r_1b hx39.1 hx39.2.1 hx39.2.2 dX6_setKey_39 (fun H locs hH hS => ?_)
      obtain ⟨AI_6, eAI_6⟩ : ∃ qQ, qQ = gup2 AI_4 (gh 29 0) ((2 : Int)).toNat (iI (k3)) := ⟨_, rfl⟩
      rw [← eAI_6] at hH
      have kAI_6 : ∀ b, b ≠ (gh 29 0) → AI_6 b = AI_4 b := fun b hb => by rw [eAI_6]; exact funext fun j => gup2_a _ _ hb
      have hv : gInv g gh R AR I AI_6 := gInv_plain hv (ro29 hv hx.1) kAI_6
      have key0 : AI_6 (gh 29 0) 0 = iI ca := by rw [eAI_6, gup2_k _ _ (by decide)]; exact key0
      have key1 : AI_6 (gh 29 0) 1 = iI k2 := by rw [eAI_6, gup2_k _ _ (by decide)]; exact key1
      have key2 : AI_6 (gh 29 0) 2 = iI k3 := by rw [eAI_6, gup2_e _ _ (by decide)]
      have fW : ∀ b, b ≠ gh 29 0 → AI_6 b = AI b := fun b hb => (kAI_6 b hb).trans (fW b hb)
      refine lv_aload_n F.1 F.2.1 dX6_setKey_40 rfl (lv_at hl 0 rfl) ?_
      refine g_getR (ci := 6) (k := 12) F hH rfl (by decide) iX6 hx.1 (by decide) rfl (b := gh 29 0) r_1a k66 dX6_setKey_41 ?_
      refine z_iconst F dX6_setKey_44 ?_
      have cut_56_6 : ∀ (k4 : Int) (H : Heap) (locs : List Loc) (ls : Array Slot), zr k4 → (k4 = if 3 < cols then c4 else 0) → gH g I R J AI_6 AJ AR H → va_S (gA g) s.heap H locs → lv_has ls 6 [(0, .ref x), (1, .int (iI cols)), (2, .int (iI ca)), (3, .int (iI cb)), (4, .int (iI c3)), (5, .int (iI c4))] → W p l e rmX6_setKeyf s m ([.ref x, .int (iI cols), .int (iI ca), .int (iI cb), .int (iI c3), .int (iI c4)] : List Value).toArray below meth c H locs 0 0 (MQ below (gQv g (fun w : gS => I = w.1 ∧ R = w.2.1 ∧ J = w.2.2.1 ∧ AJ = w.2.2.2.2.1 ∧ AR = w.2.2.2.2.2 ∧ (gInv g gh R AR I (w.2.2.2.1)) ∧ (∀ b, b ≠ gh 29 0 → (w.2.2.2.1) b = AI b) ∧ (∀ j, j < 4 → (w.2.2.2.1) (gh 29 0) j = tg (kyT cols ca cb c3 c4) j))) ([.ref x, .int (iI cols), .int (iI ca), .int (iI cb), .int (iI c3), .int (iI c4)] : List Value).toArray s 0 0 (gA g)) (F0 m 56 ls [.int (iI k4), .int (iI 3), .ref (gh 29 0)]) := by
        intro k4 H locs ls zk4 hk4 hH hS hl
        have hx56 : 0 ≤ (3 : Int) ∧ (3 : Int) < ((5 : Nat) : Int) ∧ (3 : Int) ≤ 2147483647 := ⟨by omega, by omega, by omega⟩
        refine g_iast F hH hS r_1b hx56.1 hx56.2.1 hx56.2.2 dX6_setKey_56 (fun H locs hH hS => ?_)
        obtain ⟨AI_8, eAI_8⟩ : ∃ qQ, qQ = gup2 AI_6 (gh 29 0) ((3 : Int)).toNat (iI (k4)) := ⟨_, rfl⟩
        rw [← eAI_8] at hH
        have kAI_8 : ∀ b, b ≠ (gh 29 0) → AI_8 b = AI_6 b := fun b hb => by rw [eAI_8]; exact funext fun j => gup2_a _ _ hb
        have hv : gInv g gh R AR I AI_8 := gInv_plain hv (ro29 hv hx.1) kAI_8
        have key0 : AI_8 (gh 29 0) 0 = iI ca := by rw [eAI_8, gup2_k _ _ (by decide)]; exact key0
        have key1 : AI_8 (gh 29 0) 1 = iI k2 := by rw [eAI_8, gup2_k _ _ (by decide)]; exact key1
        have key2 : AI_8 (gh 29 0) 2 = iI k3 := by rw [eAI_8, gup2_k _ _ (by decide)]; exact key2
        have key3 : AI_8 (gh 29 0) 3 = iI k4 := by rw [eAI_8, gup2_e _ _ (by decide)]
        have fW : ∀ b, b ≠ gh 29 0 → AI_8 b = AI b := fun b hb => (kAI_8 b hb).trans (fW b hb)
        exact g_vret F hr hlk hH hS hz ⟨rfl, rfl, rfl, rfl, rfl, hv, fW, kyT_of key0 key1 key2 key3 rfl hk2 hk3 hk4⟩ dX6_setKey_57
      refine lv_iload_n F.1 F.2.1 dX6_setKey_45 rfl (lv_at hl 1 rfl) ?_
      refine z_iconst F dX6_setKey_46 ?_
      refine z_icmp_le (tgt := 55) F dX6_setKey_47 (by decide) zcols ⟨by decide, by decide⟩ (fun c_9 => ?_) (fun c_9 => ?_)
      · refine z_iconst F dX6_setKey_55 ?_
        exact cut_56_6 0 H locs ls ⟨by decide, by decide⟩ (by first | exact (if_neg (by omega)).symm | exact (if_pos (by omega)).symm) hH hS (lv_sub hl [0, 1, 2, 3, 4, 5] rfl)
      · refine lv_iload F.1 F.2.1 dX6_setKey_50 (lv_at hl 5 rfl) ?_
        refine z_goto (tgt := 56) F dX6_setKey_52 (by decide) ?_
        exact cut_56_6 c4 H locs ls zc4 (by first | exact (if_neg (by omega)).symm | exact (if_pos (by omega)).symm) hH hS (lv_sub hl [0, 1, 2, 3, 4, 5] rfl)
    refine lv_iload_n F.1 F.2.1 dX6_setKey_28 rfl (lv_at hl 1 rfl) ?_
    refine z_iconst F dX6_setKey_29 ?_
    refine z_icmp_le (tgt := 38) F dX6_setKey_30 (by decide) zcols ⟨by decide, by decide⟩ (fun c_10 => ?_) (fun c_10 => ?_)
    · refine z_iconst F dX6_setKey_38 ?_
      exact cut_39_4 0 H locs ls ⟨by decide, by decide⟩ (by first | exact (if_neg (by omega)).symm | exact (if_pos (by omega)).symm) hH hS (lv_sub hl [0, 1, 2, 3, 4, 5] rfl)
    · refine lv_iload F.1 F.2.1 dX6_setKey_33 (lv_at hl 4 rfl) ?_
      refine z_goto (tgt := 39) F dX6_setKey_35 (by decide) ?_
      exact cut_39_4 c3 H locs ls zc3 (by first | exact (if_neg (by omega)).symm | exact (if_pos (by omega)).symm) hH hS (lv_sub hl [0, 1, 2, 3, 4, 5] rfl)
  refine lv_iload_n F.1 F.2.1 dX6_setKey_12 rfl (lv_at hl 1 rfl) ?_
  refine z_iconst F dX6_setKey_13 ?_
  refine z_icmp_le (tgt := 21) F dX6_setKey_14 (by decide) zcols ⟨by decide, by decide⟩ (fun c_11 => ?_) (fun c_11 => ?_)
  · refine z_iconst F dX6_setKey_21 ?_
    exact cut_22_2 0 H locs ls ⟨by decide, by decide⟩ (by first | exact (if_neg (by omega)).symm | exact (if_pos (by omega)).symm) hH hS (lv_sub hl [0, 1, 2, 3, 4, 5] rfl)
  · refine lv_iload_n F.1 F.2.1 dX6_setKey_17 rfl (lv_at hl 3 rfl) ?_
    refine z_goto (tgt := 22) F dX6_setKey_18 (by decide) ?_
    exact cut_22_2 cb H locs ls zcb (by first | exact (if_neg (by omega)).symm | exact (if_pos (by omega)).symm) hH hS (lv_sub hl [0, 1, 2, 3, 4, 5] rfl)

def rmX6_isRingf : Room := { frames := 1, cells := 0, slots := 0, locals := 21 }
set_option maxHeartbeats 4000000 in
set_option maxRecDepth 100000 in
/-- a ring -/
theorem c_X6_isRingf (l : Launch) (g : gG) (gh : gGh) (pA bA nA : Nat) (nr : Nat) (cc : Nat → LC) (I : gI) (R : gR) (J : gJ) (AI : gI) (AJ : gJ) (AR : gR) (x : Nat) (rel : Int) (zrel : zr rel) (hv : gInv g gh R AR I AI) (hx : xS g gh R AR x pA bA nA) (hlen : (I pA 1).toInt = (nr : Int)) (hln : ∀ r, r < nr → lnC (I (rob AR (gh 6 pA) r)) (AI (gh 3 (rob AR (gh 6 pA) r))) (cc r)) : gMet l g yX6_isRing wsX6_isRing rmX6_isRingf [.ref x, .int (iI rel)] (I, R, J, AI, AJ, AR) (gQi g (fun (z : Int) (w : gS) => I = w.1 ∧ R = w.2.1 ∧ J = w.2.2.1 ∧ AI = w.2.2.2.1 ∧ AJ = w.2.2.2.2.1 ∧ AR = w.2.2.2.2.2 ∧ ((z = 0 ∨ z = 1) ∧ (z = 1 → 0 ≤ rel ∧ rel < (I pA 1).toInt ∧ rel ≤ 15)) ∧ (tIz z ((0 ≤ rel ∧ rel < (nr : Int)) ∧ (cc rel.toNat).1 0 = 8)))) := by
  refine gStart (cc := cX6_isRing) (maxL := 2) (ret := (some (.boolean))) (by decide) rfl (Nat.le_of_ble_eq_true rfl) ?_
  intro p e s m below meth c ls F hr hlk hH hz hS hl
  have hl : lv_has ls 2 [(0, .ref x), (1, .int (iI rel))] := hl
  have hS : va_S (gA g) s.heap s.heap [] := hS
  obtain ⟨H, hHe⟩ : ∃ H : Heap, H = s.heap := ⟨_, rfl⟩
  obtain ⟨locs, hlo⟩ : ∃ k : List Loc, k = [] := ⟨_, rfl⟩
  have hH : gH g I R J AI AJ AR H := by rw [hHe]; exact hH
  have hS : va_S (gA g) s.heap H locs := by rw [hHe, hlo]; exact hS
  suffices hw : W p l e rmX6_isRingf s m ([.ref x, .int (iI rel)] : List Value).toArray below meth c H locs 0 0 (MQ below (gQi g (fun (z : Int) (w : gS) => I = w.1 ∧ R = w.2.1 ∧ J = w.2.2.1 ∧ AI = w.2.2.2.1 ∧ AJ = w.2.2.2.2.1 ∧ AR = w.2.2.2.2.2 ∧ ((z = 0 ∨ z = 1) ∧ (z = 1 → 0 ≤ rel ∧ rel < (I pA 1).toInt ∧ rel ≤ 15)) ∧ (tIz z ((0 ≤ rel ∧ rel < (nr : Int)) ∧ (cc rel.toNat).1 0 = 8)))) ([.ref x, .int (iI rel)] : List Value).toArray s 0 0 (gA g)) (F0 m 0 ls []) by
    rw [hHe, hlo] at hw; exact hw
  clear hHe hlo
  have iX6 : ∀ w ∈ u_ws RX6 TX6 18, w ∈ wsX6_isRing := (by decide +kernel)
  have iX2 : ∀ w ∈ u_ws RX2 TX2 3, w ∈ wsX6_isRing := (by decide +kernel)
  have iX0 : ∀ w ∈ u_ws RX0 TX0 15, w ∈ wsX6_isRing := (by decide +kernel)
  have k23 : Cond.fieldLink RX6 23 (TX6 3).1 (TX6 3).2.1 (TX6 3).2.2.1 ∈ wsX6_isRing := List.mem_of_getElem? (i := 1) rfl
  have k113 : Cond.fieldLink RX6 113 (TX2 0).1 (TX2 0).2.1 (TX2 0).2.2.1 ∈ wsX6_isRing := List.mem_of_getElem? (i := 2) rfl
  have k117 : Cond.fieldLink RX6 117 (TX0 0).1 (TX0 0).2.1 (TX0 0).2.2.1 ∈ wsX6_isRing := List.mem_of_getElem? (i := 3) rfl
  refine lv_aload_n F.1 F.2.1 dX6_isRing_0 rfl (lv_at hl 0 rfl) ?_
  refine lv_iload_n F.1 F.2.1 dX6_isRing_1 rfl (lv_at hl 1 rfl) ?_
  have b_1 := gI_x hv hx.1
  refine g_calli (g_runV (As := [.int (iI rel)]) (rest := []) (ci := 6) F hl.1 hH hS hz (c_X6_isRelationf l g gh pA bA nA I R J AI AJ AR x rel zrel hv hx) (cwV 1 F.2.2.2.2.1 gX6_isRing_X6_isRelation rfl rfl rfl hdX6_isRelation ⟨Nat.le_of_ble_eq_true rfl, Nat.le_of_ble_eq_true rfl⟩) hx.1 (by decide) rfl rfl rfl (Nat.le_of_ble_eq_true rfl) dX6_isRing_2 ⟨Nat.zero_le _, Nat.zero_le _⟩) hS (fun v_8 I_2 R_3 J_4 AI_5 AJ_6 AR_7 H locs zv_8 hp_9 hH hS => ?_)
  dsimp only at hp_9
  obtain ⟨rfl, rfl, rfl, rfl, rfl, rfl, q_10, qir⟩ := hp_9
  refine z_if_eq (tgt := 29) F dX6_isRing_5 (by decide) zv_8 (fun c_11 => ?_) (fun c_11 => ?_)
  · refine z_iconst F dX6_isRing_29 ?_
    exact g_zret F hr hlk hH hS hz (by omega) ⟨rfl, rfl, rfl, rfl, rfl, rfl, ⟨by omega, fun _ => by omega⟩, tIz_f (fun h9 => by have q9 := qir (by omega); have h8 := h9.1; omega)⟩ dX6_isRing_30
  · refine lv_aload_n F.1 F.2.1 dX6_isRing_8 rfl (lv_at hl 0 rfl) ?_
    refine g_getR (ci := 6) (k := 3) F hH rfl (by decide) iX6 hx.1 (by decide) rfl (b := pA) hx.2.1 k23 dX6_isRing_9 ?_
    obtain ⟨r_12a, r_12b⟩ := gR_lines hv hx.2.2.1
    refine g_getR (ci := 2) (k := 0) F hH rfl (by decide) iX2 hx.2.2.1 (by decide) rfl (b := gh 6 pA) r_12a k113 dX6_isRing_12 ?_
    refine lv_iload_n F.1 F.2.1 dX6_isRing_15 rfl (lv_at hl 1 rfl) ?_
    have hx16 : 0 ≤ rel ∧ rel < ((16 : Nat) : Int) ∧ rel ≤ 2147483647 := ⟨by omega, by omega, by omega⟩
    obtain ⟨y_13, y_13a, y_13b, y_13c, y_13d⟩ := gA_lines hv hx.2.2.1 (z := rel) (by omega) (by omega)
    refine g_aldL F hH r_12b hx16.1 hx16.2.1 hx16.2.2 (b := y_13) y_13a dX6_isRing_16 ?_
    have hl9 := (hln rel.toNat (by omega)).1
    rw [rob_e y_13a] at hl9
    refine g_getI (ci := 0) (k := 0) F hH rfl (by decide) iX0 y_13b (by decide) rfl k117 dX6_isRing_17 ?_
    have b_14 := gI_line hv y_13b
    unfold vLineI at b_14
    refine z_bipush F dX6_isRing_20 (by decide) ?_
    refine z_icmp_ne (tgt := 29) F dX6_isRing_22 (by decide) (zr_t _) ⟨by decide, by decide⟩ (fun c_15 => ?_) (fun c_15 => ?_)
    · refine z_iconst F dX6_isRing_29 ?_
      exact g_zret F hr hlk hH hS hz (by omega) ⟨rfl, rfl, rfl, rfl, rfl, rfl, ⟨by omega, fun _ => by omega⟩, tIz_f (fun h9 => by have h8 := h9.2; have h7 := hl9.1; omega)⟩ dX6_isRing_30
    · refine z_iconst F dX6_isRing_25 ?_
      refine z_goto (tgt := 30) F dX6_isRing_26 (by decide) ?_
      exact g_zret F hr hlk hH hS hz (by omega) ⟨rfl, rfl, rfl, rfl, rfl, rfl, ⟨by omega, fun _ => by omega⟩, tIz_t ⟨by omega, by have h9 := hl9.1; omega⟩⟩ dX6_isRing_30
end
section
/-! what a line holds, by tokens alone: items behind each other (nx: the token behind an item, sp: a separator there) -/
def iCnt (nx : Nat → Nat) (sp : Nat → Bool) : Nat → Nat → Nat
  | 0, _ => 0
  | f + 1, t => if sp (nx t) = true then iCnt nx sp f (nx t + 1) + 1 else 1
def iPos (nx : Nat → Nat) (t : Nat) : Nat → Nat
  | 0 => t
  | k + 1 => nx (iPos nx t k) + 1
/-- i items of F at most are read from h on, the next one is at hc -/
def iL (nx : Nat → Nat) (sp : Nat → Bool) (F h : Nat) (i : Int) (hc : Nat) : Prop :=
  0 ≤ i ∧ ((iCnt nx sp F h : Nat) : Int) = i + ((iCnt nx sp (F - i.toNat) hc : Nat) : Int) ∧ hc = iPos nx h i.toNat
section IL
variable {nx : Nat → Nat} {sp : Nat → Bool} {F h hc t : Nat} {i : Int}
theorem iL_0 : iL nx sp F h 0 h := ⟨Int.le_refl 0, by rw [show ((0 : Int).toNat) = 0 from rfl, Nat.sub_zero]; omega, rfl⟩
theorem iL_p (w : iL nx sp F h i hc) : hc = iPos nx h i.toNat := w.2.2
theorem iL_go (w : iL nx sp F h i hc) (hF : i < (F : Int)) (ht : t = nx hc) (hs : sp t = true) : iL nx sp F h (i + 1) (t + 1) := by
  obtain ⟨w0, w1, w2⟩ := w
  subst ht
  refine ⟨by omega, ?_, ?_⟩
  · rw [show F - i.toNat = (F - (i + 1).toNat) + 1 by omega, iCnt, if_pos hs] at w1
    omega
  · rw [show (i + 1).toNat = i.toNat + 1 by omega, iPos, ← w2]
theorem iL_st (w : iL nx sp F h i hc) (hF : i < (F : Int)) (ht : t = nx hc) (hs : sp t ≠ true) : ((iCnt nx sp F h : Nat) : Int) = i + 1 := by
  obtain ⟨w0, w1, w2⟩ := w
  subst ht
  rw [show F - i.toNat = (F - (i + 1).toNat) + 1 by omega, iCnt, if_neg hs] at w1
  omega
end IL
section Items
variable (b : tTx) (n : Nat)
def nxT (t : Nat) : Nat := t + 3
def spA (t : Nat) : Bool := decide (pK b n t = 3 ∧ pV b n t = 11)
def nxE (t : Nat) : Nat := if pK b n t = 4 then t + 1 else if pK b n (t + 1) = 43 ∨ pK b n (t + 1) = 45 then t + 3 else t + 1
def spC (t : Nat) : Bool := decide (pK b n t = 44)
def nxB (t : Nat) : Nat := t + 1
/-- a term: its column or -1, its number -/
def teC (t : Nat) : Int := if pK b n t = 4 then -1 else pV b n t
def teN (t : Nat) : Int := if pK b n t = 4 then pV b n t else if pK b n (t + 1) = 43 then pV b n (t + 2) else if pK b n (t + 1) = 45 then - pV b n (t + 2) else 0
/-- the class's parts: tests, terms, pairs, columns -/
def qTest (P : Nat → Int32) (j t : Nat) : Prop := (P (4 * j)).toInt = pV b n t ∧ (P (4 * j + 1)).toInt = pK b n (t + 1) ∧ (P (4 * j + 2)).toInt = (if pK b n (t + 2) = 4 then -1 else pV b n (t + 2)) ∧ (P (4 * j + 3)).toInt = pV b n (t + 2)
def qTerm (P : Nat → Int32) (j t : Nat) : Prop := (P (2 * j)).toInt = teC b n t ∧ (P (2 * j + 1)).toInt = teN b n t
def qPair (P : Nat → Int32) (j t : Nat) : Prop := (P (2 * j)).toInt = pV b n t ∧ (P (2 * j + 1)).toInt = pV b n (t + 2)
def qBy (P : Nat → Int32) (j t : Nat) : Prop := (P j).toInt = pV b n t
end Items
/-- the first k items from h on, each as q says; w cells an item -/
def qAll (q : (Nat → Int32) → Nat → Nat → Prop) (nx : Nat → Nat) (P : Nat → Int32) (h : Nat) (k : Int) : Prop := ∀ j : Nat, (j : Int) < k → q P j (iPos nx h j)
def qLoc (q : (Nat → Int32) → Nat → Nat → Prop) (w : Nat) : Prop := ∀ (P P' : Nat → Int32) (j t : Nat), (∀ i, i < w * (j + 1) → P' i = P i) → q P j t → q P' j t
theorem qTest_l {b : tTx} {n : Nat} : qLoc (qTest b n) 4 := fun P P' j t f h => by
  unfold qTest at h ⊢
  rw [f (4 * j) (by omega), f (4 * j + 1) (by omega), f (4 * j + 2) (by omega), f (4 * j + 3) (by omega)]; exact h
theorem qTerm_l {b : tTx} {n : Nat} : qLoc (qTerm b n) 2 := fun P P' j t f h => by
  unfold qTerm at h ⊢
  rw [f (2 * j) (by omega), f (2 * j + 1) (by omega)]; exact h
theorem qPair_l {b : tTx} {n : Nat} : qLoc (qPair b n) 2 := fun P P' j t f h => by
  unfold qPair at h ⊢
  rw [f (2 * j) (by omega), f (2 * j + 1) (by omega)]; exact h
theorem qBy_l {b : tTx} {n : Nat} : qLoc (qBy b n) 1 := fun P P' j t f h => by
  unfold qBy at h ⊢
  rw [f j (by omega)]; exact h
theorem qAll_0 {q : (Nat → Int32) → Nat → Nat → Prop} {nx : Nat → Nat} {P : Nat → Int32} {h : Nat} {k : Int} (e : k ≤ 0) : qAll q nx P h k := fun j hj => absurd hj (by omega)
theorem qAll_s {q : (Nat → Int32) → Nat → Nat → Prop} {nx : Nat → Nat} {sp : Nat → Bool} {P P' : Nat → Int32} {F h hc w : Nat} {k : Int} (hq : qLoc q w) (a : qAll q nx P h k) (hl : iL nx sp F h k hc) (f : ∀ i : Nat, (i : Int) < (w : Int) * k → P' i = P i) (e : q P' k.toNat hc) : qAll q nx P' h (k + 1) := fun j hj => by
  have h0 := hl.1
  by_cases c : (j : Int) < k
  · exact hq P P' j _ (fun i hi => f i (by
      have : (w : Int) * ((j : Int) + 1) ≤ (w : Int) * k := Int.mul_le_mul_of_nonneg_left (by omega) (by omega)
      have h2 : (i : Int) < ((w * (j + 1) : Nat) : Int) := by omega
      rw [Int.natCast_mul, Int.natCast_add] at h2
      exact Int.lt_of_lt_of_le h2 this)) (a j c)
  · have : j = k.toNat := by omega
    subst this
    rw [← iL_p hl]; exact e
/-! where the tokens lie -/
section Where
variable {b : tTx} {n nr h : Nat} {nt : Nat → Nat} {cl : Nat → Int} {c d k lim : Int} {L : List Int} {r : pR}
theorem sTk_h (e : r = sTk b n k h) (h0 : r.1 = 0) : r.2.1 = h + 1 := by
  subst e; unfold sTk at h0 ⊢
  by_cases q : pK b n h = k
  · rw [if_pos q]
  · rw [if_neg q] at h0; exact (pr_no h0 (by decide)).elim
theorem sTw_h (e : r = sTw b n k h) (h0 : r.1 = 0) : r.2.1 = h + 1 := by
  subst e; unfold sTw at h0 ⊢
  by_cases q : pK b n h = 3 ∧ pV b n h = k
  · rw [if_pos q]
  · rw [if_neg q] at h0; exact (pr_no h0 (by decide)).elim
theorem sRl_h (e : r = sRl b n nr nt cl h) (h0 : r.1 = 0) : r.2.1 = h + 1 ∧ r.2.2 = cF b n nr nt cl h ∧ 0 ≤ pFd b n nt nr h := by
  subst e; unfold sRl at h0 ⊢
  by_cases q : pRf b n nt nr h = 0
  · rw [if_pos q]; exact ⟨rfl, rfl, (pRf_i q).2⟩
  · rw [if_neg q] at h0; exact absurd h0 q
theorem sTest_h (e : r = sTest b n c k h) (h0 : r.1 = 0) : r.2.1 = nxT h := by
  subst e; unfold sTest at h0 ⊢
  by_cases q : pCf b n c h = 0
  · rw [if_pos q] at h0 ⊢
    by_cases q1 : 8 ≤ k
    · rw [if_pos q1] at h0; exact (pr_no h0 (by decide)).elim
    · rw [if_neg q1] at h0 ⊢
      by_cases q2 : pK b n (h + 1) = 61 ∨ pK b n (h + 1) = 60 ∨ pK b n (h + 1) = 62
      · rw [if_pos q2] at h0 ⊢
        by_cases q3 : pK b n (h + 2) = 4
        · rw [if_pos q3]; rfl
        · rw [if_neg q3] at h0 ⊢
          by_cases q4 : pCf b n c (h + 2) = 0
          · rw [if_pos q4]; rfl
          · rw [if_neg q4] at h0; exact absurd h0 q4
      · rw [if_neg q2] at h0; exact (pr_no h0 (by decide)).elim
  · rw [if_neg q] at h0; exact absurd h0 q
theorem sTerm_h (e : r = sTerm b n c k h) (h0 : r.1 = 0) : r.2.1 = nxE b n h := by
  subst e; unfold sTerm at h0 ⊢; unfold nxE
  by_cases q : pK b n h = 4
  · rw [if_pos q] at h0 ⊢
    rw [if_pos q]
    by_cases q1 : 4 ≤ k
    · rw [if_pos q1] at h0; exact (pr_no h0 (by decide)).elim
    · rw [if_neg q1]
  · rw [if_neg q] at h0 ⊢
    rw [if_neg q]
    by_cases q1 : pCf b n c h = 0
    · rw [if_pos q1] at h0 ⊢
      by_cases q2 : 4 ≤ k
      · rw [if_pos q2] at h0; exact (pr_no h0 (by decide)).elim
      · rw [if_neg q2] at h0 ⊢
        by_cases q3 : pK b n (h + 1) = 43 ∨ pK b n (h + 1) = 45
        · rw [if_pos q3] at h0 ⊢
          rw [if_pos q3]
          by_cases q4 : pK b n (h + 2) = 4
          · rw [if_pos q4]
          · rw [if_neg q4] at h0; exact (pr_no h0 (by decide)).elim
        · rw [if_neg q3]; rw [if_neg q3]
    · rw [if_neg q1] at h0; exact absurd h0 q1
theorem sPair_h (e : r = sPair b n c d k lim h) (h0 : r.1 = 0) : r.2.1 = nxT h ∧ r.2.2 = pV b n (h + 2) := by
  subst e; unfold sPair at h0 ⊢
  by_cases q : pCf b n c h = 0
  · rw [if_pos q] at h0 ⊢
    by_cases q1 : lim ≤ k
    · rw [if_pos q1] at h0; exact (pr_no h0 (by decide)).elim
    · rw [if_neg q1] at h0 ⊢
      by_cases q2 : (sTk b n 61 (h + 1)).1 = 0
      · have e2 := sTk_h rfl q2
        rw [thn_y (f := fun t _ => if pCf b n d t = 0 then (0, t + 1, pV b n t) else (pCf b n d t, t, 0)) rfl q2 rfl, e2] at h0 ⊢
        by_cases q3 : pCf b n d (h + 1 + 1) = 0
        · rw [if_pos q3]; exact ⟨rfl, rfl⟩
        · rw [if_neg q3] at h0; exact absurd h0 q3
      · rw [thn_x rfl q2] at h0; exact absurd h0 q2
  · rw [if_neg q] at h0; exact absurd h0 q
theorem sBy_h (e : r = sBy b n c k L h) (h0 : r.1 = 0) : r.2.1 = nxB h ∧ r.2.2 = pV b n h := by
  subst e; unfold sBy at h0 ⊢
  by_cases q : pCf b n c h = 0
  · rw [if_pos q] at h0 ⊢
    by_cases q1 : pV b n h ∈ L
    · rw [if_pos q1] at h0; exact (pr_no h0 (by decide)).elim
    · rw [if_neg q1] at h0 ⊢
      by_cases q2 : 3 ≤ k
      · rw [if_pos q2] at h0; exact (pr_no h0 (by decide)).elim
      · rw [if_neg q2]; exact ⟨rfl, rfl⟩
  · rw [if_neg q] at h0; exact absurd h0 q
theorem pFd_c {nt' : Nat → Nat} : ∀ (f w : Nat), (∀ u, w ≤ u → u < w + f → nt' u = nt u) → pFdF b n nt' h f w = pFdF b n nt h f w
  | 0, _, _ => rfl
  | f + 1, w, e => by rw [pFdF, pFdF, e w (Nat.le_refl _) (by omega), pFd_c f (w + 1) (fun u h1 h2 => e u (by omega) (by omega))]
theorem pFd_lt : ∀ (f w : Nat), pFdF b n nt h f w < (w : Int) + f
  | 0, w => by rw [pFdF]; omega
  | f + 1, w => by
    rw [pFdF]
    by_cases q : pN b n (nt w) = pN b n h
    · rw [if_pos q]; omega
    · rw [if_neg q]; have := pFd_lt f (w + 1); omega
end Where
/-! what a line of the class holds; h: where its body begins -/
section Line
variable (b : tTx) (n nr : Nat) (nt : Nat → Nat) (cl : Nat → Int) (h : Nat) (f P : Nat → Int32)
def lA : Int := pFd b n nt nr h
def kSel : Prop := (f 3).toInt = pFd b n nt nr h ∧ (f 4).toInt = -1 ∧ (f 8).toInt = ((iCnt nxT (spA b n) 9 (h + 2) : Nat) : Int) ∧ qAll (qTest b n) nxT P (h + 2) (f 8).toInt
def kPrj : Prop := (f 3).toInt = pFd b n nt nr h ∧ (f 4).toInt = -1 ∧ (f 8).toInt = ((iCnt (nxE b n) (spC b n) 5 (h + 1) : Nat) : Int) ∧ qAll (qTerm b n) (nxE b n) P (h + 1) (f 8).toInt
def kJoi : Prop := (f 3).toInt = pFd b n nt nr h ∧ (f 4).toInt = pFd b n nt nr (h + 1) ∧ (f 5).toInt = cF b n nr nt cl h ∧ (f 6).toInt = cF b n nr nt cl (h + 1) ∧ (f 8).toInt = ((iCnt nxT (spC b n) 5 (h + 3) : Nat) : Int) ∧ qAll (qPair b n) nxT P (h + 3) (f 8).toInt
def kTwo : Prop := (f 3).toInt = pFd b n nt nr h ∧ (f 4).toInt = pFd b n nt nr (h + 1)
def kOne : Prop := (f 3).toInt = pFd b n nt nr h ∧ (f 4).toInt = -1
def kFo (t : Nat) : Prop := (f 11).toInt = pV b n t ∧ (f 12).toInt = (if pV b n t = 16 then 0 else pV b n (t + 1))
def kGrp : Prop := (f 3).toInt = pFd b n nt nr h ∧ (f 4).toInt = -1 ∧ (f 8).toInt = ((iCnt nxB (spC b n) 4 (h + 2) : Nat) : Int) ∧ qAll (qBy b n) nxB P (h + 2) (f 8).toInt ∧ kFo b n f (nxB (iPos nxB (h + 2) ((f 8).toInt.toNat - 1)))
def kRng : Prop := (f 3).toInt = pFd b n nt nr h ∧ (f 4).toInt = pFd b n nt nr (h + 2) ∧ (f 5).toInt = cF b n nr nt cl h ∧ (f 6).toInt = cF b n nr nt cl (h + 2) ∧ (f 9).toInt = pV b n (h + 4) ∧ (f 10).toInt = pV b n (h + 6) ∧ (f 8).toInt = ((iCnt (nxE b n) (spC b n) 5 (h + 8) : Nat) : Int) ∧ qAll (qTerm b n) (nxE b n) P (h + 8) (f 8).toInt
def kLn (kd : Int) : Prop :=
  if kd = 1 then kSel b n nr nt h f P else if kd = 2 then kPrj b n nr nt h f P else if kd = 3 then kJoi b n nr nt cl h f P else if kd = 4 ∨ kd = 5 then kTwo b n nr nt h f
  else if kd = 6 then kOne b n nr nt h f else if kd = 7 then kGrp b n nr nt h f P else if kd = 8 then kRng b n nr nt cl h f P else (f 3).toInt = -1 ∧ (f 4).toInt = -1
end Line
/-- hidden from the arithmetic: where all went well -/
def zIf (z : Int) (p : Prop) : Prop := z = 0 → p
theorem zIf_n {z : Int} {p : Prop} (h : z ≠ 0) : zIf z p := fun e => absurd e h
theorem zIf_y {z : Int} {p : Prop} (h : p) : zIf z p := fun _ => h
theorem pV_n {b : tTx} {n h : Nat} (e : pK b n h = 4) : 0 ≤ pV b n h ∧ pV b n h ≤ 9999 := by
  unfold pK at e
  unfold pV
  generalize tPs b n h = k at e
  unfold tKd at e
  unfold tVl
  by_cases a : n ≤ k
  · rw [if_pos a] at e; exact absurd e (by decide)
  · rw [if_neg a] at e ⊢
    by_cases r : tRu (b k)
    · rw [if_pos r] at e ⊢
      unfold tVr
      rw [e, if_neg (by decide), if_pos rfl]
      unfold tKr at e
      by_cases c : tDc b k (tRn b n k - k) = 0 ∧ tRn b n k - k ≤ 8
      · rw [if_pos c] at e; exact absurd e (by decide)
      · rw [if_neg c] at e
        by_cases d : tDc b k (tRn b n k - k) = tRn b n k - k ∧ tRn b n k - k ≤ 4
        · exact tNb_4 (tDc_all d.1) d.2
        · rw [if_neg d] at e
          by_cases f : tRn b n k - k = 2 ∧ b k = 99 ∧ 48 ≤ b (k + 1) ∧ b (k + 1) ≤ 51
          · rw [if_pos f] at e; exact absurd e (by decide)
          · rw [if_neg f] at e; exact absurd e (by decide)
    · rw [if_neg r] at e
      by_cases s : tSg (b k)
      · rw [if_pos s] at e; have s9 := s; unfold tSg at s9; omega
      · rw [if_neg s] at e; exact absurd e (by decide)
end
