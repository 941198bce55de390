def rmX6_cameTof : Room := { frames := 0, cells := 0, slots := 0, locals := 0 }
set_option maxHeartbeats 4000000 in
set_option maxRecDepth 100000 in
/-- what came to a line -/
theorem c_X6_cameTof (l : Launch) (g : gG) (gh : gGh) (pA bA nA : Nat) (I : gI) (R : gR) (J : gJ) (AI : gI) (AJ : gJ) (AR : gR) (x : Nat) (ln : Nat) (hv : gInv g gh R AR I AI) (hx : xS g gh R AR x pA bA nA) (hln : gO g ln 0) : gMet l g yX6_cameTo wsX6_cameTo rmX6_cameTof [.ref x, .ref ln] (I, R, J, AI, AJ, AR) (gQi g (fun (z : Int) (w : gS) => I = w.1 ∧ R = w.2.1 ∧ J = w.2.2.1 ∧ AI = w.2.2.2.1 ∧ AJ = w.2.2.2.2.1 ∧ AR = w.2.2.2.2.2 ∧ (0 ≤ z ∧ z ≤ 480) ∧ (z = (if (I ln 3).toInt = -1 then 0 else (((rfC gh AR I AI (gh 35 0) (I ln 3).toInt.toNat).1 : Nat) : Int)) + (if (I ln 4).toInt = -1 then 0 else (((rfC gh AR I AI (gh 35 0) (I ln 4).toInt.toNat).1 : Nat) : Int))))) := by
  refine gStart (cc := cX6_cameTo) (maxL := 3) (ret := (some (.int))) (by decide) rfl (Nat.le_of_ble_eq_true rfl) ?_
  intro p e s m below meth c ls F hr hlk hH hz hS hl
  have hl : lv_has ls 3 [(0, .ref x), (1, .ref ln)] := hl
  have hS : va_S (gA g) s.heap s.heap [] := hS
  obtain ⟨H, hHe⟩ : ∃ H : Heap, H = s.heap := ⟨_, rfl⟩
  obtain ⟨locs, hlo⟩ : ∃ k : List Loc, k = [] := ⟨_, rfl⟩
  have hH : gH g I R J AI AJ AR H := by rw [hHe]; exact hH
  have hS : va_S (gA g) s.heap H locs := by rw [hHe, hlo]; exact hS
  suffices hw : W p l e rmX6_cameTof s m ([.ref x, .ref ln] : List Value).toArray below meth c H locs 0 0 (MQ below (gQi g (fun (z : Int) (w : gS) => I = w.1 ∧ R = w.2.1 ∧ J = w.2.2.1 ∧ AI = w.2.2.2.1 ∧ AJ = w.2.2.2.2.1 ∧ AR = w.2.2.2.2.2 ∧ (0 ≤ z ∧ z ≤ 480) ∧ (z = (if (I ln 3).toInt = -1 then 0 else (((rfC gh AR I AI (gh 35 0) (I ln 3).toInt.toNat).1 : Nat) : Int)) + (if (I ln 4).toInt = -1 then 0 else (((rfC gh AR I AI (gh 35 0) (I ln 4).toInt.toNat).1 : Nat) : Int))))) ([.ref x, .ref ln] : List Value).toArray s 0 0 (gA g)) (F0 m 0 ls []) by
    rw [hHe, hlo] at hw; exact hw
  clear hHe hlo
  have iX6 : ∀ w ∈ u_ws RX6 TX6 18, w ∈ wsX6_cameTo := (by decide +kernel)
  have iX4 : ∀ w ∈ u_ws RX4 TX4 4, w ∈ wsX6_cameTo := (by decide +kernel)
  have iX0 : ∀ w ∈ u_ws RX0 TX0 15, w ∈ wsX6_cameTo := (by decide +kernel)
  have k224 : Cond.fieldLink RX6 224 (TX0 3).1 (TX0 3).2.1 (TX0 3).2.2.1 ∈ wsX6_cameTo := List.mem_of_getElem? (i := 1) rfl
  have k45 : Cond.fieldLink RX6 45 (TX6 7).1 (TX6 7).2.1 (TX6 7).2.2.1 ∈ wsX6_cameTo := List.mem_of_getElem? (i := 2) rfl
  have k99 : Cond.fieldLink RX6 99 (TX4 3).1 (TX4 3).2.1 (TX4 3).2.2.1 ∈ wsX6_cameTo := List.mem_of_getElem? (i := 3) rfl
  have k227 : Cond.fieldLink RX6 227 (TX0 4).1 (TX0 4).2.1 (TX0 4).2.2.1 ∈ wsX6_cameTo := List.mem_of_getElem? (i := 4) rfl
  refine lv_aload_n F.1 F.2.1 dX6_cameTo_0 rfl (lv_at hl 1 rfl) ?_
  refine g_getI (ci := 0) (k := 3) F hH rfl (by decide) iX0 hln (by decide) rfl k224 dX6_cameTo_1 ?_
  have b_1 := gI_line hv hln
  unfold vLineI at b_1
  refine z_iconst F dX6_cameTo_4 ?_
  refine z_icmp_ne (tgt := 12) F dX6_cameTo_5 (by decide) (zr_t _) ⟨by decide, by decide⟩ (fun c_2 => ?_) (fun c_2 => ?_)
  · refine lv_aload_n F.1 F.2.1 dX6_cameTo_12 rfl (lv_at hl 0 rfl) ?_
    obtain ⟨r_3a, r_3b⟩ := gR_x7 hv hx.1
    refine g_getR (ci := 6) (k := 7) F hH rfl (by decide) iX6 hx.1 (by decide) rfl (b := gh 35 0) r_3a k45 dX6_cameTo_13 ?_
    refine lv_aload_n F.1 F.2.1 dX6_cameTo_16 rfl (lv_at hl 1 rfl) ?_
    refine g_getI (ci := 0) (k := 3) F hH rfl (by decide) iX0 hln (by decide) rfl k224 dX6_cameTo_17 ?_
    have hx20 : 0 ≤ ((I ln 3).toInt) ∧ ((I ln 3).toInt) < ((16 : Nat) : Int) ∧ ((I ln 3).toInt) ≤ 2147483647 := ⟨by omega, by omega, by omega⟩
    obtain ⟨y_4, y_4a, y_4b, y_4c, y_4d, y_4e⟩ := r_3b.2 (((I ln 3).toInt)).toNat (by omega)
    refine g_aldR F hH r_3b.1 hx20.1 hx20.2.1 hx20.2.2 (b := y_4) y_4a dX6_cameTo_20 ?_
    have hm3 : (I y_4 3).toInt = (((rfC gh AR I AI (gh 35 0) (I ln 3).toInt.toNat).1 : Nat) : Int) := by unfold rfC; rw [rob_e y_4a]; have q9 := (gI_rows hv y_4b).2.2.1; omega
    refine g_getI (ci := 4) (k := 3) F hH rfl (by decide) iX4 y_4b (by decide) rfl k99 dX6_cameTo_21 ?_
    obtain ⟨b_5a, b_5b, b_5c, b_5d, b_5e, b_5f, b_5g, b_5h⟩ := gI_rows hv y_4b
    refine lv_istore_n (lv' := [(2, .int (iI ((I y_4 3).toInt))), (0, .ref x), (1, .ref ln)]) F.1 F.2.1 dX6_cameTo_24 rfl hl (by decide) rfl (fun ls hl => ?_)
    refine lv_iload_n F.1 F.2.1 dX6_cameTo_25 rfl (lv_at hl 0 rfl) ?_
    refine lv_aload_n F.1 F.2.1 dX6_cameTo_26 rfl (lv_at hl 2 rfl) ?_
    refine g_getI (ci := 0) (k := 4) F hH rfl (by decide) iX0 hln (by decide) rfl k227 dX6_cameTo_27 ?_
    refine z_iconst F dX6_cameTo_30 ?_
    refine z_icmp_ne (tgt := 38) F dX6_cameTo_31 (by decide) (zr_t _) ⟨by decide, by decide⟩ (fun c_6 => ?_) (fun c_6 => ?_)
    · refine lv_aload_n F.1 F.2.1 dX6_cameTo_38 rfl (lv_at hl 1 rfl) ?_
      refine g_getR (ci := 6) (k := 7) F hH rfl (by decide) iX6 hx.1 (by decide) rfl (b := gh 35 0) r_3a k45 dX6_cameTo_39 ?_
      refine lv_aload_n F.1 F.2.1 dX6_cameTo_42 rfl (lv_at hl 2 rfl) ?_
      refine g_getI (ci := 0) (k := 4) F hH rfl (by decide) iX0 hln (by decide) rfl k227 dX6_cameTo_43 ?_
      have hx46 : 0 ≤ ((I ln 4).toInt) ∧ ((I ln 4).toInt) < ((16 : Nat) : Int) ∧ ((I ln 4).toInt) ≤ 2147483647 := ⟨by omega, by omega, by omega⟩
      obtain ⟨y_7, y_7a, y_7b, y_7c, y_7d, y_7e⟩ := r_3b.2 (((I ln 4).toInt)).toNat (by omega)
      refine g_aldR F hH r_3b.1 hx46.1 hx46.2.1 hx46.2.2 (b := y_7) y_7a dX6_cameTo_46 ?_
      have hm4 : (I y_7 3).toInt = (((rfC gh AR I AI (gh 35 0) (I ln 4).toInt.toNat).1 : Nat) : Int) := by unfold rfC; rw [rob_e y_7a]; have q9 := (gI_rows hv y_7b).2.2.1; omega
      refine g_getI (ci := 4) (k := 3) F hH rfl (by decide) iX4 y_7b (by decide) rfl k99 dX6_cameTo_47 ?_
      obtain ⟨b_8a, b_8b, b_8c, b_8d, b_8e, b_8f, b_8g, b_8h⟩ := gI_rows hv y_7b
      refine z_iadd F dX6_cameTo_50 ?_
      exact g_iret F hr hlk hH hS hz ⟨by omega, by omega⟩ ⟨rfl, rfl, rfl, rfl, rfl, rfl, by first | omega | rfl | (dsimp only; omega), by (try dsimp only); rw [show (if (I ln 3).toInt = -1 then (0 : Int) else _) = _ from if_neg (by omega), show (if (I ln 4).toInt = -1 then (0 : Int) else _) = _ from if_neg (by omega)]; (try omega)⟩ dX6_cameTo_51
    · refine z_iconst F dX6_cameTo_34 ?_
      refine z_goto (tgt := 50) F dX6_cameTo_35 (by decide) ?_
      refine z_iadd F dX6_cameTo_50 ?_
      exact g_iret F hr hlk hH hS hz ⟨by omega, by omega⟩ ⟨rfl, rfl, rfl, rfl, rfl, rfl, by first | omega | rfl | (dsimp only; omega), by (try dsimp only); rw [show (if (I ln 3).toInt = -1 then (0 : Int) else _) = _ from if_neg (by omega), show (if (I ln 4).toInt = -1 then (0 : Int) else _) = _ from if_pos (by omega)]; (try omega)⟩ dX6_cameTo_51
  · refine z_iconst F dX6_cameTo_8 ?_
    refine z_goto (tgt := 24) F dX6_cameTo_9 (by decide) ?_
    refine lv_istore_n (lv' := [(2, .int (iI 0)), (0, .ref x), (1, .ref ln)]) F.1 F.2.1 dX6_cameTo_24 rfl hl (by decide) rfl (fun ls hl => ?_)
    refine lv_iload_n F.1 F.2.1 dX6_cameTo_25 rfl (lv_at hl 0 rfl) ?_
    refine lv_aload_n F.1 F.2.1 dX6_cameTo_26 rfl (lv_at hl 2 rfl) ?_
    refine g_getI (ci := 0) (k := 4) F hH rfl (by decide) iX0 hln (by decide) rfl k227 dX6_cameTo_27 ?_
    refine z_iconst F dX6_cameTo_30 ?_
    refine z_icmp_ne (tgt := 38) F dX6_cameTo_31 (by decide) (zr_t _) ⟨by decide, by decide⟩ (fun c_9 => ?_) (fun c_9 => ?_)
    · refine lv_aload_n F.1 F.2.1 dX6_cameTo_38 rfl (lv_at hl 1 rfl) ?_
      obtain ⟨r_10a, r_10b⟩ := gR_x7 hv hx.1
      refine g_getR (ci := 6) (k := 7) F hH rfl (by decide) iX6 hx.1 (by decide) rfl (b := gh 35 0) r_10a k45 dX6_cameTo_39 ?_
      refine lv_aload_n F.1 F.2.1 dX6_cameTo_42 rfl (lv_at hl 2 rfl) ?_
      refine g_getI (ci := 0) (k := 4) F hH rfl (by decide) iX0 hln (by decide) rfl k227 dX6_cameTo_43 ?_
      have hx46 : 0 ≤ ((I ln 4).toInt) ∧ ((I ln 4).toInt) < ((16 : Nat) : Int) ∧ ((I ln 4).toInt) ≤ 2147483647 := ⟨by omega, by omega, by omega⟩
      obtain ⟨y_11, y_11a, y_11b, y_11c, y_11d, y_11e⟩ := r_10b.2 (((I ln 4).toInt)).toNat (by omega)
      refine g_aldR F hH r_10b.1 hx46.1 hx46.2.1 hx46.2.2 (b := y_11) y_11a dX6_cameTo_46 ?_
      have hm4 : (I y_11 3).toInt = (((rfC gh AR I AI (gh 35 0) (I ln 4).toInt.toNat).1 : Nat) : Int) := by unfold rfC; rw [rob_e y_11a]; have q9 := (gI_rows hv y_11b).2.2.1; omega
      refine g_getI (ci := 4) (k := 3) F hH rfl (by decide) iX4 y_11b (by decide) rfl k99 dX6_cameTo_47 ?_
      obtain ⟨b_12a, b_12b, b_12c, b_12d, b_12e, b_12f, b_12g, b_12h⟩ := gI_rows hv y_11b
      refine z_iadd F dX6_cameTo_50 ?_
      exact g_iret F hr hlk hH hS hz ⟨by omega, by omega⟩ ⟨rfl, rfl, rfl, rfl, rfl, rfl, by first | omega | rfl | (dsimp only; omega), by (try dsimp only); rw [show (if (I ln 3).toInt = -1 then (0 : Int) else _) = _ from if_pos (by omega), show (if (I ln 4).toInt = -1 then (0 : Int) else _) = _ from if_neg (by omega)]; (try omega)⟩ dX6_cameTo_51
    · refine z_iconst F dX6_cameTo_34 ?_
      refine z_goto (tgt := 50) F dX6_cameTo_35 (by decide) ?_
      refine z_iadd F dX6_cameTo_50 ?_
      exact g_iret F hr hlk hH hS hz ⟨by omega, by omega⟩ ⟨rfl, rfl, rfl, rfl, rfl, rfl, by first | omega | rfl | (dsimp only; omega), by (try dsimp only); rw [show (if (I ln 3).toInt = -1 then (0 : Int) else _) = _ from if_pos (by omega), show (if (I ln 4).toInt = -1 then (0 : Int) else _) = _ from if_pos (by omega)]; (try omega)⟩ dX6_cameTo_51

def rmX6_camef : Room := { frames := 1, cells := 0, slots := 0, locals := 22 }
set_option maxHeartbeats 4000000 in
set_option maxRecDepth 100000 in
/-- came -/
theorem c_X6_camef (l : Launch) (g : gG) (gh : gGh) (pA bA nA : Nat) (nr : Nat) (cc : Nat → LC) (I : gI) (R : gR) (J : gJ) (AI : gI) (AJ : gJ) (AR : gR) (x : Nat) (rel : Int) (zrel : zr rel) (hv : gInv g gh R AR I AI) (hx : xS g gh R AR x pA bA nA) (hlen : (I pA 1).toInt = (nr : Int)) (htb2 : 0 ≤ (I pA 2).toInt ∧ (I pA 2).toInt ≤ (nr : Int) ∧ nr ≤ 16) (hln : ∀ r, r < nr → lnC (I (rob AR (gh 6 pA) r)) (AI (gh 3 (rob AR (gh 6 pA) r))) (cc r)) : gMet l g yX6_came wsX6_came rmX6_camef [.ref x, .int (iI rel)] (I, R, J, AI, AJ, AR) (gQi g (fun (z : Int) (w : gS) => I = w.1 ∧ R = w.2.1 ∧ J = w.2.2.1 ∧ AI = w.2.2.2.1 ∧ AJ = w.2.2.2.2.1 ∧ AR = w.2.2.2.2.2 ∧ ((((rel < 0 ∨ (nr : Int) ≤ rel) ∨ rel < (I pA 2).toInt) ∧ z = -1) ∨ ((0 ≤ rel ∧ rel < (nr : Int)) ∧ (I pA 2).toInt ≤ rel ∧ z = (if (cc rel.toNat).1 2 = -1 then (0 : Int) else (((rfC gh AR I AI (gh 35 0) ((cc rel.toNat).1 2).toNat).1 : Nat) : Int)) + (if (cc rel.toNat).1 3 = -1 then 0 else (((rfC gh AR I AI (gh 35 0) ((cc rel.toNat).1 3).toNat).1 : Nat) : Int)))))) := by
  refine gStart (cc := cX6_came) (maxL := 2) (ret := (some (.int))) (by decide) rfl (Nat.le_of_ble_eq_true rfl) ?_
  intro p e s m below meth c ls F hr hlk hH hz hS hl
  have hl : lv_has ls 2 [(0, .ref x), (1, .int (iI rel))] := hl
  have hS : va_S (gA g) s.heap s.heap [] := hS
  obtain ⟨H, hHe⟩ : ∃ H : Heap, H = s.heap := ⟨_, rfl⟩
  obtain ⟨locs, hlo⟩ : ∃ k : List Loc, k = [] := ⟨_, rfl⟩
  have hH : gH g I R J AI AJ AR H := by rw [hHe]; exact hH
  have hS : va_S (gA g) s.heap H locs := by rw [hHe, hlo]; exact hS
  suffices hw : W p l e rmX6_camef s m ([.ref x, .int (iI rel)] : List Value).toArray below meth c H locs 0 0 (MQ below (gQi g (fun (z : Int) (w : gS) => I = w.1 ∧ R = w.2.1 ∧ J = w.2.2.1 ∧ AI = w.2.2.2.1 ∧ AJ = w.2.2.2.2.1 ∧ AR = w.2.2.2.2.2 ∧ ((((rel < 0 ∨ (nr : Int) ≤ rel) ∨ rel < (I pA 2).toInt) ∧ z = -1) ∨ ((0 ≤ rel ∧ rel < (nr : Int)) ∧ (I pA 2).toInt ≤ rel ∧ z = (if (cc rel.toNat).1 2 = -1 then (0 : Int) else (((rfC gh AR I AI (gh 35 0) ((cc rel.toNat).1 2).toNat).1 : Nat) : Int)) + (if (cc rel.toNat).1 3 = -1 then 0 else (((rfC gh AR I AI (gh 35 0) ((cc rel.toNat).1 3).toNat).1 : Nat) : Int)))))) ([.ref x, .int (iI rel)] : List Value).toArray s 0 0 (gA g)) (F0 m 0 ls []) by
    rw [hHe, hlo] at hw; exact hw
  clear hHe hlo
  have iX6 : ∀ w ∈ u_ws RX6 TX6 18, w ∈ wsX6_came := (by decide +kernel)
  have iX2 : ∀ w ∈ u_ws RX2 TX2 3, w ∈ wsX6_came := (by decide +kernel)
  have k23 : Cond.fieldLink RX6 23 (TX6 3).1 (TX6 3).2.1 (TX6 3).2.2.1 ∈ wsX6_came := List.mem_of_getElem? (i := 1) rfl
  have k122 : Cond.fieldLink RX6 122 (TX2 2).1 (TX2 2).2.1 (TX2 2).2.2.1 ∈ wsX6_came := List.mem_of_getElem? (i := 2) rfl
  have k113 : Cond.fieldLink RX6 113 (TX2 0).1 (TX2 0).2.1 (TX2 0).2.2.1 ∈ wsX6_came := List.mem_of_getElem? (i := 3) rfl
  refine lv_aload_n F.1 F.2.1 dX6_came_0 rfl (lv_at hl 0 rfl) ?_
  refine lv_iload_n F.1 F.2.1 dX6_came_1 rfl (lv_at hl 1 rfl) ?_
  have b_1 := gI_x hv hx.1
  refine g_calli (g_runV (As := [.int (iI rel)]) (rest := []) (ci := 6) F hl.1 hH hS hz (c_X6_isRelationf l g gh pA bA nA I R J AI AJ AR x rel zrel hv hx) (cwV 1 F.2.2.2.2.1 gX6_came_X6_isRelation rfl rfl rfl hdX6_isRelation ⟨Nat.le_of_ble_eq_true rfl, Nat.le_of_ble_eq_true rfl⟩) hx.1 (by decide) rfl rfl rfl (Nat.le_of_ble_eq_true rfl) dX6_came_2 ⟨Nat.zero_le _, Nat.zero_le _⟩) hS (fun v_8 I_2 R_3 J_4 AI_5 AJ_6 AR_7 H locs zv_8 hp_9 hH hS => ?_)
  dsimp only at hp_9
  obtain ⟨rfl, rfl, rfl, rfl, rfl, rfl, q_10, qir⟩ := hp_9
  refine z_if_eq (tgt := 35) F dX6_came_5 (by decide) zv_8 (fun c_11 => ?_) (fun c_11 => ?_)
  · refine z_iconst F dX6_came_35 ?_
    exact g_iret F hr hlk hH hS hz ⟨by decide, by decide⟩ ⟨rfl, rfl, rfl, rfl, rfl, rfl, Or.inl ⟨Or.inl (by have q9 := qir (by omega); omega), rfl⟩⟩ dX6_came_36
  · refine lv_iload_n F.1 F.2.1 dX6_came_8 rfl (lv_at hl 1 rfl) ?_
    refine lv_aload_n F.1 F.2.1 dX6_came_9 rfl (lv_at hl 0 rfl) ?_
    refine g_getR (ci := 6) (k := 3) F hH rfl (by decide) iX6 hx.1 (by decide) rfl (b := pA) hx.2.1 k23 dX6_came_10 ?_
    refine g_getI (ci := 2) (k := 2) F hH rfl (by decide) iX2 hx.2.2.1 (by decide) rfl k122 dX6_came_13 ?_
    have b_12 := gI_plan hv hx.2.2.1
    refine z_icmp_lt (tgt := 35) F dX6_came_16 (by decide) zrel (zr_t _) (fun c_13 => ?_) (fun c_13 => ?_)
    · refine z_iconst F dX6_came_35 ?_
      exact g_iret F hr hlk hH hS hz ⟨by decide, by decide⟩ ⟨rfl, rfl, rfl, rfl, rfl, rfl, Or.inl ⟨Or.inr (by omega), rfl⟩⟩ dX6_came_36
    · refine lv_aload_n F.1 F.2.1 dX6_came_19 rfl (lv_at hl 0 rfl) ?_
      refine lv_aload_n F.1 F.2.1 dX6_came_20 rfl (lv_at hl 0 rfl) ?_
      refine g_getR (ci := 6) (k := 3) F hH rfl (by decide) iX6 hx.1 (by decide) rfl (b := pA) hx.2.1 k23 dX6_came_21 ?_
      obtain ⟨r_14a, r_14b⟩ := gR_lines hv hx.2.2.1
      refine g_getR (ci := 2) (k := 0) F hH rfl (by decide) iX2 hx.2.2.1 (by decide) rfl (b := gh 6 pA) r_14a k113 dX6_came_24 ?_
      refine lv_iload_n F.1 F.2.1 dX6_came_27 rfl (lv_at hl 1 rfl) ?_
      have hx28 : 0 ≤ rel ∧ rel < ((16 : Nat) : Int) ∧ rel ≤ 2147483647 := ⟨by omega, by omega, by omega⟩
      obtain ⟨y_15, y_15a, y_15b, y_15c, y_15d⟩ := gA_lines hv hx.2.2.1 (z := rel) (by omega) (by omega)
      refine g_aldL F hH r_14b hx28.1 hx28.2.1 hx28.2.2 (b := y_15) y_15a dX6_came_28 ?_
      have hl9 := (hln rel.toNat (by omega)).1
      rw [rob_e y_15a] at hl9
      have b_16 := gI_line hv y_15b
      unfold vLineI at b_16
      refine g_calli (g_runV (As := [.ref y_15]) (rest := []) (ci := 6) F hl.1 hH hS hz (c_X6_cameTof l g gh pA bA nA I R J AI AJ AR x y_15 hv hx y_15b) (cwV 1 F.2.2.2.2.1 gX6_came_X6_cameTo rfl rfl rfl hdX6_cameTo ⟨Nat.le_of_ble_eq_true rfl, Nat.le_of_ble_eq_true rfl⟩) hx.1 (by decide) rfl rfl rfl (Nat.le_of_ble_eq_true rfl) dX6_came_29 ⟨Nat.zero_le _, Nat.zero_le _⟩) hS (fun v_23 I_17 R_18 J_19 AI_20 AJ_21 AR_22 H locs zv_23 hp_24 hH hS => ?_)
      dsimp only at hp_24
      obtain ⟨rfl, rfl, rfl, rfl, rfl, rfl, q_25, qcto⟩ := hp_24
      rw [hl9.2.2.1, hl9.2.2.2] at qcto
      refine z_goto (tgt := 36) F dX6_came_32 (by decide) ?_
      exact g_iret F hr hlk hH hS hz zv_23 ⟨rfl, rfl, rfl, rfl, rfl, rfl, Or.inr ⟨by omega, by omega, qcto⟩⟩ dX6_came_36

def rmX6_tuplesOfViewsf : Room := { frames := 0, cells := 0, slots := 0, locals := 0 }
set_option maxHeartbeats 4000000 in
set_option maxRecDepth 100000 in
/-- the tuples of views -/
theorem c_X6_tuplesOfViewsf (l : Launch) (g : gG) (gh : gGh) (pA bA nA : Nat) (nr : Nat) (I : gI) (R : gR) (J : gJ) (AI : gI) (AJ : gJ) (AR : gR) (x : Nat) (hv : gInv g gh R AR I AI) (hx : xS g gh R AR x pA bA nA) (hlen : (I pA 1).toInt = (nr : Int)) (htb2 : 0 ≤ (I pA 2).toInt ∧ (I pA 2).toInt ≤ (nr : Int) ∧ nr ≤ 16) : gMet l g yX6_tuplesOfViews wsX6_tuplesOfViews rmX6_tuplesOfViewsf [.ref x] (I, R, J, AI, AJ, AR) (gQi g (fun (z : Int) (w : gS) => I = w.1 ∧ R = w.2.1 ∧ J = w.2.2.1 ∧ AI = w.2.2.2.1 ∧ AJ = w.2.2.2.2.1 ∧ AR = w.2.2.2.2.2 ∧ (0 ≤ z ∧ z ≤ 3840) ∧ (z = smL (fun r : Nat => (((rfC gh AR I AI bA r).1 : Nat) : Int)) (I pA 2).toInt.toNat (nr - (I pA 2).toInt.toNat)))) := by
  refine gStart (cc := cX6_tuplesOfViews) (maxL := 3) (ret := (some (.int))) (by decide) rfl (Nat.le_of_ble_eq_true rfl) ?_
  intro p e s m below meth c ls F hr hlk hH hz hS hl
  have hl : lv_has ls 3 [(0, .ref x)] := hl
  have hS : va_S (gA g) s.heap s.heap [] := hS
  obtain ⟨H, hHe⟩ : ∃ H : Heap, H = s.heap := ⟨_, rfl⟩
  obtain ⟨locs, hlo⟩ : ∃ k : List Loc, k = [] := ⟨_, rfl⟩
  have hH : gH g I R J AI AJ AR H := by rw [hHe]; exact hH
  have hS : va_S (gA g) s.heap H locs := by rw [hHe, hlo]; exact hS
  suffices hw : W p l e rmX6_tuplesOfViewsf s m ([.ref x] : List Value).toArray below meth c H locs 0 0 (MQ below (gQi g (fun (z : Int) (w : gS) => I = w.1 ∧ R = w.2.1 ∧ J = w.2.2.1 ∧ AI = w.2.2.2.1 ∧ AJ = w.2.2.2.2.1 ∧ AR = w.2.2.2.2.2 ∧ (0 ≤ z ∧ z ≤ 3840) ∧ (z = smL (fun r : Nat => (((rfC gh AR I AI bA r).1 : Nat) : Int)) (I pA 2).toInt.toNat (nr - (I pA 2).toInt.toNat)))) ([.ref x] : List Value).toArray s 0 0 (gA g)) (F0 m 0 ls []) by
    rw [hHe, hlo] at hw; exact hw
  clear hHe hlo
  have iX6 : ∀ w ∈ u_ws RX6 TX6 18, w ∈ wsX6_tuplesOfViews := (by decide +kernel)
  have iX4 : ∀ w ∈ u_ws RX4 TX4 4, w ∈ wsX6_tuplesOfViews := (by decide +kernel)
  have iX2 : ∀ w ∈ u_ws RX2 TX2 3, w ∈ wsX6_tuplesOfViews := (by decide +kernel)
  have k23 : Cond.fieldLink RX6 23 (TX6 3).1 (TX6 3).2.1 (TX6 3).2.2.1 ∈ wsX6_tuplesOfViews := List.mem_of_getElem? (i := 1) rfl
  have k122 : Cond.fieldLink RX6 122 (TX2 2).1 (TX2 2).2.1 (TX2 2).2.2.1 ∈ wsX6_tuplesOfViews := List.mem_of_getElem? (i := 2) rfl
  have k96 : Cond.fieldLink RX6 96 (TX2 1).1 (TX2 1).2.1 (TX2 1).2.2.1 ∈ wsX6_tuplesOfViews := List.mem_of_getElem? (i := 3) rfl
  have k38 : Cond.fieldLink RX6 38 (TX6 5).1 (TX6 5).2.1 (TX6 5).2.2.1 ∈ wsX6_tuplesOfViews := List.mem_of_getElem? (i := 4) rfl
  have k99 : Cond.fieldLink RX6 99 (TX4 3).1 (TX4 3).2.1 (TX4 3).2.2.1 ∈ wsX6_tuplesOfViews := List.mem_of_getElem? (i := 5) rfl
  refine z_iconst F dX6_tuplesOfViews_0 ?_
  refine lv_istore_n (lv' := [(1, .int (iI 0)), (0, .ref x)]) F.1 F.2.1 dX6_tuplesOfViews_1 rfl hl (by decide) rfl (fun ls hl => ?_)
  refine lv_aload_n F.1 F.2.1 dX6_tuplesOfViews_2 rfl (lv_at hl 1 rfl) ?_
  refine g_getR (ci := 6) (k := 3) F hH rfl (by decide) iX6 hx.1 (by decide) rfl (b := pA) hx.2.1 k23 dX6_tuplesOfViews_3 ?_
  refine g_getI (ci := 2) (k := 2) F hH rfl (by decide) iX2 hx.2.2.1 (by decide) rfl k122 dX6_tuplesOfViews_6 ?_
  have b_1 := gI_plan hv hx.2.2.1
  refine lv_istore_n (lv' := [(2, .int (iI ((I pA 2).toInt))), (1, .int (iI 0)), (0, .ref x)]) F.1 F.2.1 dX6_tuplesOfViews_9 rfl hl (by decide) rfl (fun ls hl => ?_)
  have cut_10_1 : ∀ (NN : Nat) (sm i : Int) (H : Heap) (locs : List Loc) (ls : Array Slot), zr sm → zr i → (0 ≤ i ∧ i ≤ 16 ∧ 0 ≤ sm ∧ sm ≤ 240 * i) → (sm = smL (fun r : Nat => (((rfC gh AR I AI bA r).1 : Nat) : Int)) (I pA 2).toInt.toNat (i - (I pA 2).toInt).toNat ∧ (I pA 2).toInt ≤ i ∧ i ≤ (nr : Int)) → (16 - i) < ((NN : Nat) : Int) → gH g I R J AI AJ AR H → va_S (gA g) s.heap H locs → lv_has ls 3 [(2, .int (iI i)), (1, .int (iI sm)), (0, .ref x)] → W p l e rmX6_tuplesOfViewsf s m ([.ref x] : List Value).toArray below meth c H locs 0 0 (MQ below (gQi g (fun (z : Int) (w : gS) => I = w.1 ∧ R = w.2.1 ∧ J = w.2.2.1 ∧ AI = w.2.2.2.1 ∧ AJ = w.2.2.2.2.1 ∧ AR = w.2.2.2.2.2 ∧ (0 ≤ z ∧ z ≤ 3840) ∧ (z = smL (fun r : Nat => (((rfC gh AR I AI bA r).1 : Nat) : Int)) (I pA 2).toInt.toNat (nr - (I pA 2).toInt.toNat)))) ([.ref x] : List Value).toArray s 0 0 (gA g)) (F0 m 10 ls []) := by
    intro NN10
    induction NN10 with
    | zero =>
      intro sm i H locs ls zsm zi hi hsm hm10 hH hS hl
      exact absurd hm10 (by omega)
    | succ NN10 ih10 =>
      intro sm i H locs ls zsm zi hi hsm hm10 hH hS hl
      refine lv_iload_n F.1 F.2.1 dX6_tuplesOfViews_10 rfl (lv_at hl 0 rfl) ?_
      refine lv_aload_n F.1 F.2.1 dX6_tuplesOfViews_11 rfl (lv_at hl 2 rfl) ?_
      refine g_getR (ci := 6) (k := 3) F hH rfl (by decide) iX6 hx.1 (by decide) rfl (b := pA) hx.2.1 k23 dX6_tuplesOfViews_12 ?_
      refine g_getI (ci := 2) (k := 1) F hH rfl (by decide) iX2 hx.2.2.1 (by decide) rfl k96 dX6_tuplesOfViews_15 ?_
      refine z_icmp_ge (tgt := 39) F dX6_tuplesOfViews_18 (by decide) zi (zr_t _) (fun c_3 => ?_) (fun c_3 => ?_)
      · refine lv_iload_n F.1 F.2.1 dX6_tuplesOfViews_39 rfl (lv_at hl 1 rfl) ?_
        exact g_iret F hr hlk hH hS hz zsm ⟨rfl, rfl, rfl, rfl, rfl, rfl, by first | omega | rfl | (dsimp only; omega), by (try dsimp only); rw [hsm.1]; congr 1; omega⟩ dX6_tuplesOfViews_40
      · refine lv_iload_n F.1 F.2.1 dX6_tuplesOfViews_21 rfl (lv_at hl 1 rfl) ?_
        refine lv_aload_n F.1 F.2.1 dX6_tuplesOfViews_22 rfl (lv_at hl 2 rfl) ?_
        refine g_getR (ci := 6) (k := 5) F hH rfl (by decide) iX6 hx.1 (by decide) rfl (b := bA) hx.2.2.2.1 k38 dX6_tuplesOfViews_23 ?_
        refine lv_iload_n F.1 F.2.1 dX6_tuplesOfViews_26 rfl (lv_at hl 0 rfl) ?_
        have hx27 : 0 ≤ i ∧ i < ((16 : Nat) : Int) ∧ i ≤ 2147483647 := ⟨by omega, by omega, by omega⟩
        obtain ⟨y_4, y_4a, y_4b, y_4c, y_4d, y_4e⟩ := hx.2.2.2.2.1.2 (i).toNat (by omega)
        refine g_aldR F hH hx.2.2.2.2.1.1 hx27.1 hx27.2.1 hx27.2.2 (b := y_4) y_4a dX6_tuplesOfViews_27 ?_
        have rm : (I y_4 3).toInt = (((rfC gh AR I AI bA i.toNat).1 : Nat) : Int) := by unfold rfC; rw [rob_e y_4a]; have q9 := (gI_rows hv y_4b).2.2.1; omega
        refine g_getI (ci := 4) (k := 3) F hH rfl (by decide) iX4 y_4b (by decide) rfl k99 dX6_tuplesOfViews_28 ?_
        obtain ⟨b_5a, b_5b, b_5c, b_5d, b_5e, b_5f, b_5g, b_5h⟩ := gI_rows hv y_4b
        refine z_iadd F dX6_tuplesOfViews_31 ?_
        refine lv_istore_n (lv' := [(1, .int (iI (sm + ((I y_4 3).toInt)))), (2, .int (iI i)), (0, .ref x)]) F.1 F.2.1 dX6_tuplesOfViews_32 rfl hl (by decide) rfl (fun ls hl => ?_)
        refine z_iinc (lv' := [(2, .int (iI (i + 1))), (1, .int (iI (sm + ((I y_4 3).toInt)))), (0, .ref x)]) F dX6_tuplesOfViews_33 hl (k := 1) rfl (by decide) rfl (fun ls hl => ?_)
        refine z_goto (tgt := 10) F dX6_tuplesOfViews_36 (by decide) ?_
        exact ih10 (sm + ((I y_4 3).toInt)) (i + 1) H locs ls ⟨by omega, by omega⟩ ⟨by omega, by omega⟩ (by omega) ⟨by rw [show (i + 1 - (I pA 2).toInt).toNat = (i - (I pA 2).toInt).toNat + 1 by omega, smL, ← hsm.1, show (I pA 2).toInt.toNat + (i - (I pA 2).toInt).toNat = i.toNat by omega]; omega, by omega, by omega⟩ (by omega) hH hS (lv_sub hl [0, 1, 2] rfl)
  exact cut_10_1 (((16 - ((I pA 2).toInt)) + 1 : Int).toNat) 0 ((I pA 2).toInt) H locs ls ⟨by decide, by decide⟩ (zr_t _) (by omega) ⟨by rw [show ((I pA 2).toInt - (I pA 2).toInt).toNat = 0 by omega]; rfl, by omega, by omega⟩ (by omega) hH hS (lv_sub hl [0, 1, 2] rfl)

def rmX6_cameToViewsf : Room := { frames := 1, cells := 0, slots := 0, locals := 22 }
set_option maxHeartbeats 4000000 in
set_option maxRecDepth 100000 in
/-- what came to views -/
theorem c_X6_cameToViewsf (l : Launch) (g : gG) (gh : gGh) (pA bA nA : Nat) (nr : Nat) (cc : Nat → LC) (I : gI) (R : gR) (J : gJ) (AI : gI) (AJ : gJ) (AR : gR) (x : Nat) (hv : gInv g gh R AR I AI) (hx : xS g gh R AR x pA bA nA) (hlen : (I pA 1).toInt = (nr : Int)) (htb2 : 0 ≤ (I pA 2).toInt ∧ (I pA 2).toInt ≤ (nr : Int) ∧ nr ≤ 16) (hln : ∀ r, r < nr → lnC (I (rob AR (gh 6 pA) r)) (AI (gh 3 (rob AR (gh 6 pA) r))) (cc r)) : gMet l g yX6_cameToViews wsX6_cameToViews rmX6_cameToViewsf [.ref x] (I, R, J, AI, AJ, AR) (gQi g (fun (z : Int) (w : gS) => I = w.1 ∧ R = w.2.1 ∧ J = w.2.2.1 ∧ AI = w.2.2.2.1 ∧ AJ = w.2.2.2.2.1 ∧ AR = w.2.2.2.2.2 ∧ (0 ≤ z ∧ z ≤ 7680) ∧ (z = smL (fun r : Nat => (if (cc r).1 2 = -1 then (0 : Int) else (((rfC gh AR I AI (gh 35 0) ((cc r).1 2).toNat).1 : Nat) : Int)) + (if (cc r).1 3 = -1 then 0 else (((rfC gh AR I AI (gh 35 0) ((cc r).1 3).toNat).1 : Nat) : Int))) (I pA 2).toInt.toNat (nr - (I pA 2).toInt.toNat)))) := by
  refine gStart (cc := cX6_cameToViews) (maxL := 3) (ret := (some (.int))) (by decide) rfl (Nat.le_of_ble_eq_true rfl) ?_
  intro p e s m below meth c ls F hr hlk hH hz hS hl
  have hl : lv_has ls 3 [(0, .ref x)] := hl
  have hS : va_S (gA g) s.heap s.heap [] := hS
  obtain ⟨H, hHe⟩ : ∃ H : Heap, H = s.heap := ⟨_, rfl⟩
  obtain ⟨locs, hlo⟩ : ∃ k : List Loc, k = [] := ⟨_, rfl⟩
  have hH : gH g I R J AI AJ AR H := by rw [hHe]; exact hH
  have hS : va_S (gA g) s.heap H locs := by rw [hHe, hlo]; exact hS
  suffices hw : W p l e rmX6_cameToViewsf s m ([.ref x] : List Value).toArray below meth c H locs 0 0 (MQ below (gQi g (fun (z : Int) (w : gS) => I = w.1 ∧ R = w.2.1 ∧ J = w.2.2.1 ∧ AI = w.2.2.2.1 ∧ AJ = w.2.2.2.2.1 ∧ AR = w.2.2.2.2.2 ∧ (0 ≤ z ∧ z ≤ 7680) ∧ (z = smL (fun r : Nat => (if (cc r).1 2 = -1 then (0 : Int) else (((rfC gh AR I AI (gh 35 0) ((cc r).1 2).toNat).1 : Nat) : Int)) + (if (cc r).1 3 = -1 then 0 else (((rfC gh AR I AI (gh 35 0) ((cc r).1 3).toNat).1 : Nat) : Int))) (I pA 2).toInt.toNat (nr - (I pA 2).toInt.toNat)))) ([.ref x] : List Value).toArray s 0 0 (gA g)) (F0 m 0 ls []) by
    rw [hHe, hlo] at hw; exact hw
  clear hHe hlo
  have iX6 : ∀ w ∈ u_ws RX6 TX6 18, w ∈ wsX6_cameToViews := (by decide +kernel)
  have iX2 : ∀ w ∈ u_ws RX2 TX2 3, w ∈ wsX6_cameToViews := (by decide +kernel)
  have k23 : Cond.fieldLink RX6 23 (TX6 3).1 (TX6 3).2.1 (TX6 3).2.2.1 ∈ wsX6_cameToViews := List.mem_of_getElem? (i := 1) rfl
  have k122 : Cond.fieldLink RX6 122 (TX2 2).1 (TX2 2).2.1 (TX2 2).2.2.1 ∈ wsX6_cameToViews := List.mem_of_getElem? (i := 2) rfl
  have k96 : Cond.fieldLink RX6 96 (TX2 1).1 (TX2 1).2.1 (TX2 1).2.2.1 ∈ wsX6_cameToViews := List.mem_of_getElem? (i := 3) rfl
  have k113 : Cond.fieldLink RX6 113 (TX2 0).1 (TX2 0).2.1 (TX2 0).2.2.1 ∈ wsX6_cameToViews := List.mem_of_getElem? (i := 4) rfl
  refine z_iconst F dX6_cameToViews_0 ?_
  refine lv_istore_n (lv' := [(1, .int (iI 0)), (0, .ref x)]) F.1 F.2.1 dX6_cameToViews_1 rfl hl (by decide) rfl (fun ls hl => ?_)
  refine lv_aload_n F.1 F.2.1 dX6_cameToViews_2 rfl (lv_at hl 1 rfl) ?_
  refine g_getR (ci := 6) (k := 3) F hH rfl (by decide) iX6 hx.1 (by decide) rfl (b := pA) hx.2.1 k23 dX6_cameToViews_3 ?_
  refine g_getI (ci := 2) (k := 2) F hH rfl (by decide) iX2 hx.2.2.1 (by decide) rfl k122 dX6_cameToViews_6 ?_
  have b_1 := gI_plan hv hx.2.2.1
  refine lv_istore_n (lv' := [(2, .int (iI ((I pA 2).toInt))), (1, .int (iI 0)), (0, .ref x)]) F.1 F.2.1 dX6_cameToViews_9 rfl hl (by decide) rfl (fun ls hl => ?_)
  have cut_10_1 : ∀ (NN : Nat) (sm i : Int) (H : Heap) (locs : List Loc) (ls : Array Slot), zr sm → zr i → (0 ≤ i ∧ i ≤ 16 ∧ 0 ≤ sm ∧ sm ≤ 480 * i) → (sm = smL (fun r : Nat => (if (cc r).1 2 = -1 then (0 : Int) else (((rfC gh AR I AI (gh 35 0) ((cc r).1 2).toNat).1 : Nat) : Int)) + (if (cc r).1 3 = -1 then 0 else (((rfC gh AR I AI (gh 35 0) ((cc r).1 3).toNat).1 : Nat) : Int))) (I pA 2).toInt.toNat (i - (I pA 2).toInt).toNat ∧ (I pA 2).toInt ≤ i ∧ i ≤ (nr : Int)) → (16 - i) < ((NN : Nat) : Int) → gH g I R J AI AJ AR H → va_S (gA g) s.heap H locs → lv_has ls 3 [(2, .int (iI i)), (1, .int (iI sm)), (0, .ref x)] → W p l e rmX6_cameToViewsf s m ([.ref x] : List Value).toArray below meth c H locs 0 0 (MQ below (gQi g (fun (z : Int) (w : gS) => I = w.1 ∧ R = w.2.1 ∧ J = w.2.2.1 ∧ AI = w.2.2.2.1 ∧ AJ = w.2.2.2.2.1 ∧ AR = w.2.2.2.2.2 ∧ (0 ≤ z ∧ z ≤ 7680) ∧ (z = smL (fun r : Nat => (if (cc r).1 2 = -1 then (0 : Int) else (((rfC gh AR I AI (gh 35 0) ((cc r).1 2).toNat).1 : Nat) : Int)) + (if (cc r).1 3 = -1 then 0 else (((rfC gh AR I AI (gh 35 0) ((cc r).1 3).toNat).1 : Nat) : Int))) (I pA 2).toInt.toNat (nr - (I pA 2).toInt.toNat)))) ([.ref x] : List Value).toArray s 0 0 (gA g)) (F0 m 10 ls []) := by
    intro NN10
    induction NN10 with
    | zero =>
      intro sm i H locs ls zsm zi hi hsm hm10 hH hS hl
      exact absurd hm10 (by omega)
    | succ NN10 ih10 =>
      intro sm i H locs ls zsm zi hi hsm hm10 hH hS hl
      refine lv_iload_n F.1 F.2.1 dX6_cameToViews_10 rfl (lv_at hl 0 rfl) ?_
      refine lv_aload_n F.1 F.2.1 dX6_cameToViews_11 rfl (lv_at hl 2 rfl) ?_
      refine g_getR (ci := 6) (k := 3) F hH rfl (by decide) iX6 hx.1 (by decide) rfl (b := pA) hx.2.1 k23 dX6_cameToViews_12 ?_
      refine g_getI (ci := 2) (k := 1) F hH rfl (by decide) iX2 hx.2.2.1 (by decide) rfl k96 dX6_cameToViews_15 ?_
      refine z_icmp_ge (tgt := 43) F dX6_cameToViews_18 (by decide) zi (zr_t _) (fun c_3 => ?_) (fun c_3 => ?_)
      · refine lv_iload_n F.1 F.2.1 dX6_cameToViews_43 rfl (lv_at hl 1 rfl) ?_
        exact g_iret F hr hlk hH hS hz zsm ⟨rfl, rfl, rfl, rfl, rfl, rfl, by first | omega | rfl | (dsimp only; omega), by (try dsimp only); rw [hsm.1]; congr 1; omega⟩ dX6_cameToViews_44
      · refine lv_iload_n F.1 F.2.1 dX6_cameToViews_21 rfl (lv_at hl 1 rfl) ?_
        refine lv_aload_n F.1 F.2.1 dX6_cameToViews_22 rfl (lv_at hl 2 rfl) ?_
        refine lv_aload_n F.1 F.2.1 dX6_cameToViews_23 rfl (lv_at hl 2 rfl) ?_
        refine g_getR (ci := 6) (k := 3) F hH rfl (by decide) iX6 hx.1 (by decide) rfl (b := pA) hx.2.1 k23 dX6_cameToViews_24 ?_
        obtain ⟨r_4a, r_4b⟩ := gR_lines hv hx.2.2.1
        refine g_getR (ci := 2) (k := 0) F hH rfl (by decide) iX2 hx.2.2.1 (by decide) rfl (b := gh 6 pA) r_4a k113 dX6_cameToViews_27 ?_
        refine lv_iload_n F.1 F.2.1 dX6_cameToViews_30 rfl (lv_at hl 0 rfl) ?_
        have hx31 : 0 ≤ i ∧ i < ((16 : Nat) : Int) ∧ i ≤ 2147483647 := ⟨by omega, by omega, by omega⟩
        obtain ⟨y_5, y_5a, y_5b, y_5c, y_5d⟩ := gA_lines hv hx.2.2.1 (z := i) (by omega) (by omega)
        refine g_aldL F hH r_4b hx31.1 hx31.2.1 hx31.2.2 (b := y_5) y_5a dX6_cameToViews_31 ?_
        have hl9 := (hln i.toNat (by omega)).1
        rw [rob_e y_5a] at hl9
        have b_6 := gI_x hv hx.1
        have b_7 := gI_line hv y_5b
        unfold vLineI at b_7
        refine g_calli (g_runV (As := [.ref y_5]) (rest := [.int (iI sm)]) (ci := 6) F hl.1 hH hS hz (c_X6_cameTof l g gh pA bA nA I R J AI AJ AR x y_5 hv hx y_5b) (cwV 1 F.2.2.2.2.1 gX6_cameToViews_X6_cameTo rfl rfl rfl hdX6_cameTo ⟨Nat.le_of_ble_eq_true rfl, Nat.le_of_ble_eq_true rfl⟩) hx.1 (by decide) rfl rfl rfl (Nat.le_of_ble_eq_true rfl) dX6_cameToViews_32 ⟨Nat.zero_le _, Nat.zero_le _⟩) hS (fun v_14 I_8 R_9 J_10 AI_11 AJ_12 AR_13 H locs zv_14 hp_15 hH hS => ?_)
        dsimp only at hp_15
        obtain ⟨rfl, rfl, rfl, rfl, rfl, rfl, q_16, rm⟩ := hp_15
        rw [hl9.2.2.1, hl9.2.2.2] at rm
        refine z_iadd F dX6_cameToViews_35 ?_
        refine lv_istore_n (lv' := [(1, .int (iI (sm + v_14))), (2, .int (iI i)), (0, .ref x)]) F.1 F.2.1 dX6_cameToViews_36 rfl hl (by decide) rfl (fun ls hl => ?_)
        refine z_iinc (lv' := [(2, .int (iI (i + 1))), (1, .int (iI (sm + v_14))), (0, .ref x)]) F dX6_cameToViews_37 hl (k := 1) rfl (by decide) rfl (fun ls hl => ?_)
        refine z_goto (tgt := 10) F dX6_cameToViews_40 (by decide) ?_
        exact ih10 (sm + v_14) (i + 1) H locs ls ⟨by omega, by omega⟩ ⟨by omega, by omega⟩ (by omega) ⟨by rw [show (i + 1 - (I pA 2).toInt).toNat = (i - (I pA 2).toInt).toNat + 1 by omega, smL, ← hsm.1, show (I pA 2).toInt.toNat + (i - (I pA 2).toInt).toNat = i.toNat by omega]; omega, by omega, by omega⟩ (by omega) hH hS (lv_sub hl [0, 1, 2] rfl)
  exact cut_10_1 (((16 - ((I pA 2).toInt)) + 1 : Int).toNat) 0 ((I pA 2).toInt) H locs ls ⟨by decide, by decide⟩ (zr_t _) (by omega) ⟨by rw [show ((I pA 2).toInt - (I pA 2).toInt).toNat = 0 by omega]; rfl, by omega, by omega⟩ (by omega) hH hS (lv_sub hl [0, 1, 2] rfl)
