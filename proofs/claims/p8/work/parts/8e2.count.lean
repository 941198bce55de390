def rmX6_totalf : Room := { frames := 6, cells := 1, slots := 6, locals := 82 }
set_option maxHeartbeats 4000000 in
set_option maxRecDepth 100000 in
/-- total -/
theorem c_X6_totalf (l : Launch) (g : gG) (gh : gGh) (pA bA nA : Nat) (nr : Nat) (I : gI) (R : gR) (J : gJ) (AI : gI) (AJ : gJ) (AR : gR) (x : Nat) (rel : Int) (zrel : zr rel) (hv : gInv g gh R AR I AI) (hx : xS g gh R AR x pA bA nA) (hlen : (I pA 1).toInt = (nr : Int)) (hst : l.stackTraces = false) : gMetX l g yX6_total tsX6_total rmX6_totalf [.ref x, .int (iI rel)] (I, R, J, AI, AJ, AR) (gQi g (fun (z : Int) (w : gS) => I = w.1 ∧ R = w.2.1 ∧ J = w.2.2.1 ∧ AI = w.2.2.2.1 ∧ AJ = w.2.2.2.2.1 ∧ AR = w.2.2.2.2.2 ∧ ((0 ≤ rel ∧ rel < (nr : Int)) ∧ iI z = smA ((rfC gh AR I AI bA rel.toNat)).2 ((rfC gh AR I AI bA rel.toNat)).1))) (fun w : gS => I = w.1 ∧ R = w.2.1 ∧ J = w.2.2.1 ∧ AI = w.2.2.2.1 ∧ AJ = w.2.2.2.2.1 ∧ AR = w.2.2.2.2.2 ∧ (rel < 0 ∨ (nr : Int) ≤ rel)) := by
  refine gStartX (cc := cX6_total) (maxL := 5) (ret := (some (.int))) (by decide) rfl (Nat.le_of_ble_eq_true rfl) ?_
  intro p e s m below meth c ls F hr hlk hH hz hS hxt hTh hl
  have hl : lv_has ls 5 [(0, .ref x), (1, .int (iI rel))] := hl
  have hS : va_S (gA g) s.heap s.heap [] := hS
  obtain ⟨H, hHe⟩ : ∃ H : Heap, H = s.heap := ⟨_, rfl⟩
  obtain ⟨locs, hlo⟩ : ∃ k : List Loc, k = [] := ⟨_, rfl⟩
  have hH : gH g I R J AI AJ AR H := by rw [hHe]; exact hH
  have hS : va_S (gA g) s.heap H locs := by rw [hHe, hlo]; exact hS
  suffices hw : W p l e rmX6_totalf s m ([.ref x, .int (iI rel)] : List Value).toArray below meth c H locs 0 0 (vx_MQ below (gQi g (fun (z : Int) (w : gS) => I = w.1 ∧ R = w.2.1 ∧ J = w.2.2.1 ∧ AI = w.2.2.2.1 ∧ AJ = w.2.2.2.2.1 ∧ AR = w.2.2.2.2.2 ∧ ((0 ≤ rel ∧ rel < (nr : Int)) ∧ iI z = smA ((rfC gh AR I AI bA rel.toNat)).2 ((rfC gh AR I AI bA rel.toNat)).1))) (vx_X (fun w : gS => I = w.1 ∧ R = w.2.1 ∧ J = w.2.2.1 ∧ AI = w.2.2.2.1 ∧ AJ = w.2.2.2.2.1 ∧ AR = w.2.2.2.2.2 ∧ (rel < 0 ∨ (nr : Int) ≤ rel)) (gBX g) (gA g)) ([.ref x, .int (iI rel)] : List Value).toArray s 1 6 (gA g)) (F0 m 0 ls []) by
    rw [hHe, hlo] at hw; exact hw
  clear hHe hlo
  have iX6 : ∀ w ∈ u_ws RX6 TX6 18, w ∈ tsX6_total := fun w h => List.mem_cons_of_mem _ (inTB6 w h)
  have iX4 : ∀ w ∈ u_ws RX4 TX4 4, w ∈ tsX6_total := fun w h => List.mem_cons_of_mem _ (inTB4 w h)
  have k38 : Cond.fieldLink RX6 38 (TX6 5).1 (TX6 5).2.1 (TX6 5).2.2.1 ∈ tsX6_total := List.mem_cons_of_mem _ (TBm (tk1 (List.mem_of_getElem? (i := 235) rfl)) rfl)
  have k99 : Cond.fieldLink RX6 99 (TX4 3).1 (TX4 3).2.1 (TX4 3).2.2.1 ∈ tsX6_total := List.mem_cons_of_mem _ (TBm (tk1 (List.mem_of_getElem? (i := 217) rfl)) rfl)
  refine lv_aload_n F.1 F.2.1 dX6_total_0 rfl (lv_at hl 0 rfl) ?_
  refine lv_iload_n F.1 F.2.1 dX6_total_1 rfl (lv_at hl 1 rfl) ?_
  have b_1 := gI_x hv hx.1
  refine g_calli (g_runV (As := [.int (iI rel)]) (rest := []) (ci := 6) F hl.1 hH hS hz (c_X6_isRelationf l g gh pA bA nA I R J AI AJ AR x rel zrel hv hx) (cwV 1 F.2.2.2.2.1 (good_up gTB_X6_total_X6_isRelation) rfl rfl rfl hdX6_isRelation ⟨Nat.le_of_ble_eq_true rfl, Nat.le_of_ble_eq_true rfl⟩) hx.1 (by decide) rfl rfl rfl (Nat.le_of_ble_eq_true rfl) dX6_total_2 ⟨Nat.zero_le _, Nat.zero_le _⟩) hS (fun v_8 I_2 R_3 J_4 AI_5 AJ_6 AR_7 H locs zv_8 hp_9 hH hS => ?_)
  dsimp only at hp_9
  obtain ⟨rfl, rfl, rfl, rfl, rfl, rfl, q_10, qir⟩ := hp_9
  refine z_if_ne (tgt := 18) F dX6_total_5 (by decide) zv_8 (fun c_11 => ?_) (fun c_11 => ?_)
  · refine lv_aload_n F.1 F.2.1 dX6_total_18 rfl (lv_at hl 0 rfl) ?_
    refine g_getR (ci := 6) (k := 5) F hH rfl (by decide) iX6 hx.1 (by decide) rfl (b := bA) hx.2.2.2.1 k38 dX6_total_19 ?_
    refine lv_iload_n F.1 F.2.1 dX6_total_22 rfl (lv_at hl 1 rfl) ?_
    have hx23 : 0 ≤ rel ∧ rel < ((16 : Nat) : Int) ∧ rel ≤ 2147483647 := ⟨by omega, by omega, by omega⟩
    obtain ⟨y_12, y_12a, y_12b, y_12c, y_12d, y_12e⟩ := hx.2.2.2.2.1.2 (rel).toNat (by omega)
    refine g_aldR F hH hx.2.2.2.2.1.1 hx23.1 hx23.2.1 hx23.2.2 (b := y_12) y_12a dX6_total_23 ?_
    have hsz : (I y_12 3).toInt = ((((rfC gh AR I AI bA rel.toNat)).1 : Nat) : Int) := by unfold rfC; rw [rob_e y_12a]; have q9 := (gI_rows hv y_12b).2.2.1; omega
    have h49 : gh 2 y_12 = 4 := y_12d
    have e2 : ((rfC gh AR I AI bA rel.toNat)).2 = AI (gh 0 y_12) := by unfold rfC; rw [rob_e y_12a]
    have hrl := gI_rows hv y_12b
    refine lv_astore_n (lv' := [(2, .ref y_12), (0, .ref x), (1, .int (iI rel))]) F.1 F.2.1 dX6_total_24 rfl hl (by decide) rfl (fun ls hl => ?_)
    refine z_iconst F dX6_total_25 ?_
    refine lv_istore_n (lv' := [(3, .int (iI 0)), (2, .ref y_12), (0, .ref x), (1, .int (iI rel))]) F.1 F.2.1 dX6_total_26 rfl hl (by decide) rfl (fun ls hl => ?_)
    refine z_iconst F dX6_total_27 ?_
    refine lv_istore (lv' := [(4, .int (iI 0)), (3, .int (iI 0)), (2, .ref y_12), (0, .ref x), (1, .int (iI rel))]) F.1 F.2.1 dX6_total_28 hl (by decide) rfl (fun ls hl => ?_)
    have cut_30_12 : ∀ (NN : Nat) (sm i : Int) (H : Heap) (locs : List Loc) (ls : Array Slot), zr sm → zr i → (0 ≤ i ∧ i ≤ 240) → (iI sm = smA ((rfC gh AR I AI bA rel.toNat)).2 i.toNat) → (i ≤ ((((rfC gh AR I AI bA rel.toNat)).1 : Nat) : Int)) → (240 - i) < ((NN : Nat) : Int) → gH g I R J AI AJ AR H → va_S (gA g) s.heap H locs → lv_has ls 5 [(4, .int (iI i)), (3, .int (iI sm)), (2, .ref y_12), (0, .ref x), (1, .int (iI rel))] → W p l e rmX6_totalf s m ([.ref x, .int (iI rel)] : List Value).toArray below meth c H locs 0 0 (vx_MQ below (gQi g (fun (z : Int) (w : gS) => I = w.1 ∧ R = w.2.1 ∧ J = w.2.2.1 ∧ AI = w.2.2.2.1 ∧ AJ = w.2.2.2.2.1 ∧ AR = w.2.2.2.2.2 ∧ ((0 ≤ rel ∧ rel < (nr : Int)) ∧ iI z = smA ((rfC gh AR I AI bA rel.toNat)).2 ((rfC gh AR I AI bA rel.toNat)).1))) (vx_X (fun w : gS => I = w.1 ∧ R = w.2.1 ∧ J = w.2.2.1 ∧ AI = w.2.2.2.1 ∧ AJ = w.2.2.2.2.1 ∧ AR = w.2.2.2.2.2 ∧ (rel < 0 ∨ (nr : Int) ≤ rel)) (gBX g) (gA g)) ([.ref x, .int (iI rel)] : List Value).toArray s 1 6 (gA g)) (F0 m 30 ls []) := by
      intro NN30
      induction NN30 with
      | zero =>
        intro sm i H locs ls zsm zi hi hsm hin hm30 hH hS hl
        exact absurd hm30 (by omega)
      | succ NN30 ih30 =>
        intro sm i H locs ls zsm zi hi hsm hin hm30 hH hS hl
        refine lv_iload F.1 F.2.1 dX6_total_30 (lv_at hl 0 rfl) ?_
        refine lv_aload_n F.1 F.2.1 dX6_total_32 rfl (lv_at hl 2 rfl) ?_
        refine g_getI (ci := 4) (k := 3) F hH rfl (by decide) iX4 y_12b (by decide) rfl k99 dX6_total_33 ?_
        obtain ⟨b_14a, b_14b, b_14c, b_14d, b_14e, b_14f, b_14g, b_14h⟩ := gI_rows hv y_12b
        refine z_icmp_ge (tgt := 54) F dX6_total_36 (by decide) zi (zr_t _) (fun c_15 => ?_) (fun c_15 => ?_)
        · refine lv_iload_n F.1 F.2.1 dX6_total_54 rfl (lv_at hl 1 rfl) ?_
          exact g_iretX F hr hlk hH hS hz zsm ⟨rfl, rfl, rfl, rfl, rfl, rfl, ⟨by omega, by rw [← show i.toNat = ((rfC gh AR I AI bA rel.toNat)).1 by omega]; exact hsm⟩⟩ (by decide) (by decide) dX6_total_55
        · refine lv_iload_n F.1 F.2.1 dX6_total_39 rfl (lv_at hl 1 rfl) ?_
          refine lv_aload_n F.1 F.2.1 dX6_total_40 rfl (lv_at hl 2 rfl) ?_
          refine lv_iload F.1 F.2.1 dX6_total_41 (lv_at hl 0 rfl) ?_
          refine g_calli (g_runV (As := [.int (iI i)]) (rest := [.int (iI sm)]) (ci := 4) F hl.1 hH hS hz (c_X4_amount l g gh I R J AI AJ AR y_12 i zi hv y_12b (by omega) (by omega)) (cwV 1 F.2.2.2.2.1 (good_up gTB_X6_total_X4_amount) rfl rfl rfl hdX4_amount ⟨Nat.le_of_ble_eq_true rfl, Nat.le_of_ble_eq_true rfl⟩) y_12b (by decide) rfl rfl rfl (Nat.le_of_ble_eq_true rfl) dX6_total_43 ⟨Nat.zero_le _, Nat.zero_le _⟩) hS (fun v_22 I_16 R_17 J_18 AI_19 AJ_20 AR_21 H locs zv_22 hp_23 hH hS => ?_)
          dsimp only at hp_23
          obtain ⟨rfl, rfl, rfl, rfl, rfl, rfl, qam⟩ := hp_23
          refine z_iadd F dX6_total_46 ?_
          refine z_norm (fun v_24 zv_24 ev_24 => ?_)
          have hsm9 : iI v_24 = smA ((rfC gh AR I AI bA rel.toNat)).2 (i + 1).toNat := by rw [show (i + 1).toNat = i.toNat + 1 by omega, smA, ← hsm, e2, ev_24, ← iI_add, qam, iI_self]; congr 2; omega
          refine lv_istore_n (lv' := [(3, .int (iI v_24)), (4, .int (iI i)), (2, .ref y_12), (0, .ref x), (1, .int (iI rel))]) F.1 F.2.1 dX6_total_47 rfl hl (by decide) rfl (fun ls hl => ?_)
          refine z_iinc (lv' := [(4, .int (iI (i + 1))), (3, .int (iI v_24)), (2, .ref y_12), (0, .ref x), (1, .int (iI rel))]) F dX6_total_48 hl (k := 1) rfl (by decide) rfl (fun ls hl => ?_)
          refine z_goto (tgt := 30) F dX6_total_51 (by decide) ?_
          exact ih30 v_24 (i + 1) H locs ls zv_24 ⟨by omega, by omega⟩ (by omega) hsm9 (by omega) (by omega) hH hS (lv_sub hl [0, 1, 2, 3, 4] rfl)
    exact cut_30_12 (((240 - 0) + 1 : Int).toNat) 0 0 H locs ls ⟨by decide, by decide⟩ ⟨by decide, by decide⟩ (by omega) rfl (by omega) (by omega) hH hS (lv_sub hl [0, 1, 2, 3, 4] rfl)
  · exact g_throw F hTh hst hH hS hz hxt hlk hl.1 (i := 4) rfl (fun w h => List.mem_cons_of_mem _ h) dX6_total_8 dX6_total_11 dX6_total_12 dX6_total_14 dX6_total_17 (Nat.le_of_ble_eq_true rfl) (Nat.le_of_ble_eq_true rfl) (Nat.le_refl _) (Nat.le_refl _) ⟨rfl, rfl, rfl, rfl, rfl, rfl, (by have h9 := qir (by omega); omega)⟩
