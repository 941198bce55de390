def rmX7_ringsOnce : Room := { frames := 3, cells := 0, slots := 0, locals := 71 }
theorem hdX7_ringsOnce : yX7_ringsOnce.cls = RX7 ∧ yX7_ringsOnce.cls ≠ "java/lang/invoke/MethodHandle" ∧ yX7_ringsOnce.cls ≠ "java/lang/invoke/VarHandle" ∧ (parseMethodDescriptor yX7_ringsOnce.desc).map (fun d => d.parameters.length) = some 5 := by decide +kernel
set_option maxHeartbeats 4000000 in
set_option maxRecDepth 100000 in
/-- one round -/
theorem c_X7_ringsOnce (l : Launch) (g : gG) (gh : gGh) (T : Nat → Int32) (I : gI) (R : gR) (J : gJ) (AI : gI) (AJ : gJ) (AR : gR) (mo : Nat) (sd : Int) (rr : Int) (n : Int) (was : Int) (rd : Int) (zsd : zr sd) (zrr : zr rr) (zn : zr n) (zwas : zr was) (zrd : zr rd) (hv : mInv g gh R I AI) (hm : gO g mo 7) (hT : AI (gh 50 0) = T) (hs : 0 ≤ sd ∧ sd ≤ 10) (hr0 : 0 ≤ rr ∧ rr < (I mo 2).toInt) (hk : tI T (40 * rr) = 8) (hn : n = tI T (40 * tI T (40 * rr + 2) + 1)) (hw : 0 ≤ was ∧ was ≤ 120) (hw2 : (I mo 26).toInt ≤ 120) : gMet l g yX7_ringsOnce tsX7_ringsOnce rmX7_ringsOnce [.ref mo, .int (iI sd), .int (iI rr), .int (iI n), .int (iI was), .int (iI rd)] (I, R, J, AI, AJ, AR) (gQi g (fun (z : Int) (w : gS) => R = w.2.1 ∧ J = w.2.2.1 ∧ AJ = w.2.2.2.2.1 ∧ AR = w.2.2.2.2.2 ∧ (mInv g gh R (w.1) (w.2.2.2.1)) ∧ ((w.2.2.2.1) (gh 50 0) = T) ∧ (wF mo I (w.1)) ∧ (z < 0 ∨ (z = 0 ∧ ((w.1) mo 26).toInt ≤ 120 ∧ (I mo 26).toInt ≤ ((w.1) mo 26).toInt ∧ (40 < rd → ((w.1) mo 26).toInt = (I mo 26).toInt))))) := by
  refine gStart (cc := cX7_ringsOnce) (maxL := 12) (ret := (some (.int))) (by decide) rfl (Nat.le_of_ble_eq_true rfl) ?_
  intro p e s m below meth c ls F hr hlk hH hz hS hl
  have hl : lv_has ls 12 [(0, .ref mo), (1, .int (iI sd)), (2, .int (iI rr)), (3, .int (iI n)), (4, .int (iI was)), (5, .int (iI rd))] := hl
  have hS : va_S (gA g) s.heap s.heap [] := hS
  obtain ⟨H, hHe⟩ : ∃ H : Heap, H = s.heap := ⟨_, rfl⟩
  obtain ⟨locs, hlo⟩ : ∃ k : List Loc, k = [] := ⟨_, rfl⟩
  have hH : gH g I R J AI AJ AR H := by rw [hHe]; exact hH
  have hS : va_S (gA g) s.heap H locs := by rw [hHe, hlo]; exact hS
  suffices hw : W p l e rmX7_ringsOnce s m ([.ref mo, .int (iI sd), .int (iI rr), .int (iI n), .int (iI was), .int (iI rd)] : List Value).toArray below meth c H locs 0 0 (MQ below (gQi g (fun (z : Int) (w : gS) => R = w.2.1 ∧ J = w.2.2.1 ∧ AJ = w.2.2.2.2.1 ∧ AR = w.2.2.2.2.2 ∧ (mInv g gh R (w.1) (w.2.2.2.1)) ∧ ((w.2.2.2.1) (gh 50 0) = T) ∧ (wF mo I (w.1)) ∧ (z < 0 ∨ (z = 0 ∧ ((w.1) mo 26).toInt ≤ 120 ∧ (I mo 26).toInt ≤ ((w.1) mo 26).toInt ∧ (40 < rd → ((w.1) mo 26).toInt = (I mo 26).toInt))))) ([.ref mo, .int (iI sd), .int (iI rr), .int (iI n), .int (iI was), .int (iI rd)] : List Value).toArray s 0 0 (gA g)) (F0 m 0 ls []) by
    rw [hHe, hlo] at hw; exact hw
  clear hHe hlo
  have wf : wF mo I I := wF_r
  have hb0 := mJ hv hm
  unfold mNum1 at hb0
  have x := mRow hv hm hT (z := rr) (by omega) (by omega)
  have xa := x.1
  have xc := x.2.2.1
  have xb := x.2.1 (by omega)
  have x8 := x.2.2.2.2.2.2.2.2.2 (by omega)
  obtain ⟨x8a, x8b, x8c, x8d, x8e, x8f, x8g, x8h⟩ := x8
  have y := mRow hv hm hT (z := tI T (40 * rr + 2)) (by omega) (by omega)
  have ya := y.1
  have yc := y.2.2.1
  have v := mRow hv hm hT (z := tI T (40 * rr + 3)) (by omega) (by omega)
  have va := v.1
  have vc := v.2.2.1
  have iX7 : ∀ w ∈ u_ws RX7 TX7 32, w ∈ tsX7_ringsOnce := fun w h => List.mem_cons_of_mem _ (inTB7 w h)
  have k24 : Cond.fieldLink RX7 24 (TX7 6).1 (TX7 6).2.1 (TX7 6).2.2.1 ∈ tsX7_ringsOnce := List.mem_cons_of_mem _ fl_24
  have k54 : Cond.fieldLink RX7 54 (TX7 30).1 (TX7 30).2.1 (TX7 30).2.2.1 ∈ tsX7_ringsOnce := List.mem_cons_of_mem _ fl_54
  have k48 : Cond.fieldLink RX7 48 (TX7 28).1 (TX7 28).2.1 (TX7 28).2.2.1 ∈ tsX7_ringsOnce := List.mem_cons_of_mem _ fl_48
  have k269 : Cond.fieldLink RX7 269 (TX7 26).1 (TX7 26).2.1 (TX7 26).2.2.1 ∈ tsX7_ringsOnce := List.mem_cons_of_mem _ fl_269
  have k42 : Cond.fieldLink RX7 42 (TX7 25).1 (TX7 25).2.1 (TX7 25).2.2.1 ∈ tsX7_ringsOnce := List.mem_cons_of_mem _ fl_42
  have k45 : Cond.fieldLink RX7 45 (TX7 27).1 (TX7 27).2.1 (TX7 27).2.2.1 ∈ tsX7_ringsOnce := List.mem_cons_of_mem _ fl_45
  refine lv_aload_n F.1 F.2.1 dX7_ringsOnce_0 rfl (lv_at hl 0 rfl) ?_
  refine lv_iload_n F.1 F.2.1 dX7_ringsOnce_1 rfl (lv_at hl 2 rfl) ?_
  have b_1 := mJ hv hm
  unfold mNum1 at b_1
  refine g_calli (g_runV (As := [.int (iI rr)]) (rest := []) (ci := 7) F hl.1 hH hS hz (c_X7_secondOf l g gh T I R J AI AJ AR mo rr zrr hv hm hT (by omega)) (cwV 1 F.2.2.2.2.1 (good_up gT_X7_secondOf) rfl rfl rfl hdX7_secondOf ⟨Nat.le_of_ble_eq_true rfl, Nat.le_of_ble_eq_true rfl⟩) hm (by decide) rfl rfl rfl (Nat.le_of_ble_eq_true rfl) dX7_ringsOnce_2 ⟨Nat.zero_le _, Nat.zero_le _⟩) hS (fun v_8 I_2 R_3 J_4 AI_5 AJ_6 AR_7 H locs zv_8 hp_9 hH hS => ?_)
  dsimp only at hp_9
  obtain ⟨rfl, rfl, rfl, rfl, rfl, rfl, qb⟩ := hp_9
  have va1 : 1 ≤ tI T (40 * v_8 + 1) ∧ tI T (40 * v_8 + 1) ≤ 4 := by rw [qb]; omega
  refine lv_istore (lv' := [(6, .int (iI v_8)), (0, .ref mo), (1, .int (iI sd)), (2, .int (iI rr)), (3, .int (iI n)), (4, .int (iI was)), (5, .int (iI rd))]) F.1 F.2.1 dX7_ringsOnce_5 hl (by decide) rfl (fun ls hl => ?_)
  refine z_iconst F dX7_ringsOnce_7 ?_
  refine lv_istore (lv' := [(7, .int (iI 0)), (6, .int (iI v_8)), (0, .ref mo), (1, .int (iI sd)), (2, .int (iI rr)), (3, .int (iI n)), (4, .int (iI was)), (5, .int (iI rd))]) F.1 F.2.1 dX7_ringsOnce_8 hl (by decide) rfl (fun ls hl => ?_)
  have cut_10_11 : ∀ (NN : Nat) (k : Int) (I_10 : gI) (AI_11 : gI) (H : Heap) (locs : List Loc) (ls : Array Slot), zr k → (mInv g gh R I_10 AI_11) → (AI_11 (gh 50 0) = T) → (wF mo I I_10) → (0 ≤ k ∧ k ≤ was ∧ (I_10 mo 26).toInt ≤ 120 ∧ (I mo 26).toInt ≤ (I_10 mo 26).toInt ∧ (40 < rd → (I_10 mo 26).toInt = (I mo 26).toInt)) → (was - k) < ((NN : Nat) : Int) → gH g I_10 R J AI_11 AJ AR H → va_S (gA g) s.heap H locs → lv_has ls 12 [(7, .int (iI k)), (6, .int (iI v_8)), (0, .ref mo), (1, .int (iI sd)), (2, .int (iI rr)), (3, .int (iI n)), (4, .int (iI was)), (5, .int (iI rd))] → W p l e rmX7_ringsOnce s m ([.ref mo, .int (iI sd), .int (iI rr), .int (iI n), .int (iI was), .int (iI rd)] : List Value).toArray below meth c H locs 0 0 (MQ below (gQi g (fun (z : Int) (w : gS) => R = w.2.1 ∧ J = w.2.2.1 ∧ AJ = w.2.2.2.2.1 ∧ AR = w.2.2.2.2.2 ∧ (mInv g gh R (w.1) (w.2.2.2.1)) ∧ ((w.2.2.2.1) (gh 50 0) = T) ∧ (wF mo I (w.1)) ∧ (z < 0 ∨ (z = 0 ∧ ((w.1) mo 26).toInt ≤ 120 ∧ (I mo 26).toInt ≤ ((w.1) mo 26).toInt ∧ (40 < rd → ((w.1) mo 26).toInt = (I mo 26).toInt))))) ([.ref mo, .int (iI sd), .int (iI rr), .int (iI n), .int (iI was), .int (iI rd)] : List Value).toArray s 0 0 (gA g)) (F0 m 10 ls []) := by
    intro NN10
    induction NN10 with
    | zero =>
      intro k I_10 AI_11 H locs ls zk hv hT wf hk1 hm10 hH hS hl
      exact absurd hm10 (by omega)
    | succ NN10 ih10 =>
      intro k I_10 AI_11 H locs ls zk hv hT wf hk1 hm10 hH hS hl
      have uc_2 : (I_10 mo 2).toInt = (I mo 2).toInt := by rw [wf 2 (by decide)]
      have uc_5 : (I_10 mo 5).toInt = (I mo 5).toInt := by rw [wf 5 (by decide)]
      have uc_14 : (I_10 mo 14).toInt = (I mo 14).toInt := by rw [wf 14 (by decide)]
      have uc_16 : (I_10 mo 16).toInt = (I mo 16).toInt := by rw [wf 16 (by decide)]
      have uc_24 : (I_10 mo 24).toInt = (I mo 24).toInt := by rw [wf 24 (by decide)]
      refine lv_iload F.1 F.2.1 dX7_ringsOnce_10 (lv_at hl 0 rfl) ?_
      refine lv_iload F.1 F.2.1 dX7_ringsOnce_12 (lv_at hl 6 rfl) ?_
      refine z_icmp_ge (tgt := 258) F dX7_ringsOnce_14 (by decide) zk zwas (fun c_13 => ?_) (fun c_13 => ?_)
      · refine z_iconst F dX7_ringsOnce_258 ?_
        exact g_iret F hr hlk hH hS hz ⟨by decide, by decide⟩ ⟨rfl, rfl, rfl, rfl, hv, hT, wf, by first | omega | rfl | (dsimp only; omega)⟩ dX7_ringsOnce_259
      · refine z_iconst F dX7_ringsOnce_17 ?_
        refine lv_istore (lv' := [(8, .int (iI 0)), (7, .int (iI k)), (6, .int (iI v_8)), (0, .ref mo), (1, .int (iI sd)), (2, .int (iI rr)), (3, .int (iI n)), (4, .int (iI was)), (5, .int (iI rd))]) F.1 F.2.1 dX7_ringsOnce_18 hl (by decide) rfl (fun ls hl => ?_)
        have cut_20_15 : ∀ (NN : Nat) (jj : Int) (I_14 : gI) (AI_15 : gI) (H : Heap) (locs : List Loc) (ls : Array Slot), zr jj → (mInv g gh R I_14 AI_15) → (AI_15 (gh 50 0) = T) → (wF mo I I_14) → (0 ≤ jj ∧ jj ≤ 120 ∧ (I_14 mo 26).toInt ≤ 120 ∧ (I mo 26).toInt ≤ (I_14 mo 26).toInt ∧ (40 < rd → (I_14 mo 26).toInt = (I mo 26).toInt)) → (120 - jj) < ((NN : Nat) : Int) → gH g I_14 R J AI_15 AJ AR H → va_S (gA g) s.heap H locs → lv_has ls 12 [(8, .int (iI jj)), (7, .int (iI k)), (6, .int (iI v_8)), (0, .ref mo), (1, .int (iI sd)), (2, .int (iI rr)), (3, .int (iI n)), (4, .int (iI was)), (5, .int (iI rd))] → W p l e rmX7_ringsOnce s m ([.ref mo, .int (iI sd), .int (iI rr), .int (iI n), .int (iI was), .int (iI rd)] : List Value).toArray below meth c H locs 0 0 (MQ below (gQi g (fun (z : Int) (w : gS) => R = w.2.1 ∧ J = w.2.2.1 ∧ AJ = w.2.2.2.2.1 ∧ AR = w.2.2.2.2.2 ∧ (mInv g gh R (w.1) (w.2.2.2.1)) ∧ ((w.2.2.2.1) (gh 50 0) = T) ∧ (wF mo I (w.1)) ∧ (z < 0 ∨ (z = 0 ∧ ((w.1) mo 26).toInt ≤ 120 ∧ (I mo 26).toInt ≤ ((w.1) mo 26).toInt ∧ (40 < rd → ((w.1) mo 26).toInt = (I mo 26).toInt))))) ([.ref mo, .int (iI sd), .int (iI rr), .int (iI n), .int (iI was), .int (iI rd)] : List Value).toArray s 0 0 (gA g)) (F0 m 20 ls []) := by
          intro NN20
          induction NN20 with
          | zero =>
            intro jj I_14 AI_15 H locs ls zjj hv hT wf hj hm20 hH hS hl
            exact absurd hm20 (by omega)
          | succ NN20 ih20 =>
            intro jj I_14 AI_15 H locs ls zjj hv hT wf hj hm20 hH hS hl
            have uc_2 : (I_14 mo 2).toInt = (I mo 2).toInt := by rw [wf 2 (by decide)]
            have uc_5 : (I_14 mo 5).toInt = (I mo 5).toInt := by rw [wf 5 (by decide)]
            have uc_14 : (I_14 mo 14).toInt = (I mo 14).toInt := by rw [wf 14 (by decide)]
            have uc_16 : (I_14 mo 16).toInt = (I mo 16).toInt := by rw [wf 16 (by decide)]
            have uc_24 : (I_14 mo 24).toInt = (I mo 24).toInt := by rw [wf 24 (by decide)]
            refine lv_iload F.1 F.2.1 dX7_ringsOnce_20 (lv_at hl 0 rfl) ?_
            refine lv_aload_n F.1 F.2.1 dX7_ringsOnce_22 rfl (lv_at hl 3 rfl) ?_
            refine lv_iload_n F.1 F.2.1 dX7_ringsOnce_23 rfl (lv_at hl 4 rfl) ?_
            refine lv_iload F.1 F.2.1 dX7_ringsOnce_24 (lv_at hl 2 rfl) ?_
            have b_17 := mJ hv hm
            unfold mNum1 at b_17
            refine g_calli (g_runV (As := [.int (iI sd), .int (iI v_8)]) (rest := [.int (iI jj)]) (ci := 7) F hl.1 hH hS hz (c_X7_sizeOf l g gh T I_14 R J AI_15 AJ AR mo sd v_8 zsd zv_8 hv hm hT (by omega) (by omega)) (cwV 2 F.2.2.2.2.1 (good_up gT_X7_sizeOf) rfl rfl rfl hdX7_sizeOf ⟨Nat.le_of_ble_eq_true rfl, Nat.le_of_ble_eq_true rfl⟩) hm (by decide) rfl rfl rfl (Nat.le_of_ble_eq_true rfl) dX7_ringsOnce_26 ⟨Nat.zero_le _, Nat.zero_le _⟩) hS (fun v_24 I_18 R_19 J_20 AI_21 AJ_22 AR_23 H locs zv_24 hp_25 hH hS => ?_)
            dsimp only at hp_25
            obtain ⟨rfl, rfl, rfl, rfl, rfl, rfl, q_26, q_27⟩ := hp_25
            refine z_icmp_ge (tgt := 252) F dX7_ringsOnce_29 (by decide) zjj zv_24 (fun c_28 => ?_) (fun c_28 => ?_)
            · refine z_iinc (lv' := [(7, .int (iI (k + 1))), (8, .int (iI jj)), (6, .int (iI v_8)), (0, .ref mo), (1, .int (iI sd)), (2, .int (iI rr)), (3, .int (iI n)), (4, .int (iI was)), (5, .int (iI rd))]) F dX7_ringsOnce_252 hl (k := 1) rfl (by decide) rfl (fun ls hl => ?_)
              refine z_goto (tgt := 10) F dX7_ringsOnce_255 (by decide) ?_
              exact ih10 (k + 1) I_14 AI_15 H locs ls ⟨by omega, by omega⟩ hv hT wf (by omega) (by omega) hH hS (lv_sub hl [0, 2, 3, 4, 5, 6, 7, 8] rfl)
            · refine lv_iload_n F.1 F.2.1 dX7_ringsOnce_32 rfl (lv_at hl 4 rfl) ?_
              refine lv_iload F.1 F.2.1 dX7_ringsOnce_33 (lv_at hl 2 rfl) ?_
              refine lv_iload F.1 F.2.1 dX7_ringsOnce_35 (lv_at hl 0 rfl) ?_
              refine g_calli (g_runS (As := [.int (iI sd), .int (iI v_8), .int (iI jj)]) (rest := []) F hl.1 hH hS hz (c_X7_spot l g  I_14 R J AI_15 AJ AR sd v_8 jj zsd zv_8 zjj (by omega) (by omega) (by omega)) (va_cwS 3 F.2.2.2.2.1 (good_up gT_X7_spot) rfl rfl rfl hdX7_spot.2 ⟨Nat.le_of_ble_eq_true rfl, Nat.le_of_ble_eq_true rfl⟩) rfl rfl (Nat.le_of_ble_eq_true rfl) dX7_ringsOnce_37 ⟨Nat.zero_le _, Nat.zero_le _⟩) hS (fun v_35 I_29 R_30 J_31 AI_32 AJ_33 AR_34 H locs zv_35 hp_36 hH hS => ?_)
              dsimp only at hp_36
              obtain ⟨rfl, rfl, rfl, rfl, rfl, rfl, q_37⟩ := hp_36
              refine lv_istore (lv' := [(9, .int (iI v_35)), (8, .int (iI jj)), (7, .int (iI k)), (6, .int (iI v_8)), (0, .ref mo), (1, .int (iI sd)), (2, .int (iI rr)), (3, .int (iI n)), (4, .int (iI was)), (5, .int (iI rd))]) F.1 F.2.1 dX7_ringsOnce_40 hl (by decide) rfl (fun ls hl => ?_)
              refine lv_aload_n F.1 F.2.1 dX7_ringsOnce_42 rfl (lv_at hl 4 rfl) ?_
              obtain ⟨r_38a, r_38b⟩ : R mo 6 = some (gh 56 0) ∧ gAr g (gh 56 0) 9 126720 := mR hv hm (q := (6, 126720)) (by decide)
              refine g_getR (ci := 7) (k := 6) F hH rfl (by decide) iX7 hm (by decide) rfl (b := gh 56 0) r_38a k24 dX7_ringsOnce_43 ?_
              refine lv_iload F.1 F.2.1 dX7_ringsOnce_46 (lv_at hl 0 rfl) ?_
              refine z_iconst F dX7_ringsOnce_48 ?_
              refine z_iadd F dX7_ringsOnce_49 ?_
              have hx50 : 0 ≤ (v_35 + 4) ∧ (v_35 + 4) < ((126720 : Nat) : Int) ∧ (v_35 + 4) ≤ 2147483647 := ⟨by omega, by omega, by omega⟩
              refine g_iald F hH r_38b hx50.1 hx50.2.1 hx50.2.2 dX7_ringsOnce_50 ?_
              refine z_name (fun v_39 ev_39 => ?_)
              have zv_39 : zr v_39 := by rw [ev_39]; exact zr_t _
              refine z_if_le (tgt := 246) F dX7_ringsOnce_51 (by decide) zv_39 (fun c_40 => ?_) (fun c_40 => ?_)
              · refine z_iinc (lv' := [(8, .int (iI (jj + 1))), (9, .int (iI v_35)), (7, .int (iI k)), (6, .int (iI v_8)), (0, .ref mo), (1, .int (iI sd)), (2, .int (iI rr)), (3, .int (iI n)), (4, .int (iI was)), (5, .int (iI rd))]) F dX7_ringsOnce_246 hl (k := 1) rfl (by decide) rfl (fun ls hl => ?_)
                refine z_goto (tgt := 20) F dX7_ringsOnce_249 (by decide) ?_
                exact ih20 (jj + 1) I_14 AI_15 H locs ls ⟨by omega, by omega⟩ hv hT wf (by omega) (by omega) hH hS (lv_sub hl [0, 2, 3, 4, 5, 6, 7, 8, 9] rfl)
              · refine lv_aload_n F.1 F.2.1 dX7_ringsOnce_54 rfl (lv_at hl 4 rfl) ?_
                obtain ⟨r_41a, r_41b⟩ : R mo 30 = some (gh 80 0) ∧ gAr g (gh 80 0) 9 600 := mR hv hm (q := (30, 600)) (by decide)
                refine g_getR (ci := 7) (k := 30) F hH rfl (by decide) iX7 hm (by decide) rfl (b := gh 80 0) r_41a k54 dX7_ringsOnce_55 ?_
                refine z_iconst F dX7_ringsOnce_58 ?_
                refine lv_iload F.1 F.2.1 dX7_ringsOnce_59 (lv_at hl 2 rfl) ?_
                refine z_imul F dX7_ringsOnce_61 ?_
                refine lv_aload_n F.1 F.2.1 dX7_ringsOnce_62 rfl (lv_at hl 4 rfl) ?_
                refine lv_iload_n F.1 F.2.1 dX7_ringsOnce_63 rfl (lv_at hl 6 rfl) ?_
                refine z_iconst F dX7_ringsOnce_64 ?_
                refine z_iconst F dX7_ringsOnce_65 ?_
                refine g_calli (g_runV (As := [.int (iI rr), .int (iI 0), .int (iI 0)]) (rest := [.int (iI (4 * k)), .ref (gh 80 0)]) (ci := 7) F hl.1 hH hS hz (c_X7_part l g gh T I_14 R J AI_15 AJ AR mo rr 0 0 zrr ⟨by decide, by decide⟩ ⟨by decide, by decide⟩ hv hm hT (by omega) (by omega) (by omega)) (cwV 3 F.2.2.2.2.1 (good_up gT_X7_part) rfl rfl rfl hdX7_part ⟨Nat.le_of_ble_eq_true rfl, Nat.le_of_ble_eq_true rfl⟩) hm (by decide) rfl rfl rfl (Nat.le_of_ble_eq_true rfl) dX7_ringsOnce_66 ⟨Nat.zero_le _, Nat.zero_le _⟩) hS (fun v_48 I_42 R_43 J_44 AI_45 AJ_46 AR_47 H locs zv_48 hp_49 hH hS => ?_)
                dsimp only at hp_49
                obtain ⟨rfl, rfl, rfl, rfl, rfl, rfl, q_50⟩ := hp_49
                refine z_iadd F dX7_ringsOnce_69 ?_
                have hx70 : 0 ≤ ((4 * k) + v_48) ∧ ((4 * k) + v_48) < ((600 : Nat) : Int) ∧ ((4 * k) + v_48) ≤ 2147483647 := ⟨by omega, by omega, by omega⟩
                refine g_iald F hH r_41b hx70.1 hx70.2.1 hx70.2.2 dX7_ringsOnce_70 ?_
                refine z_name (fun v_51 ev_51 => ?_)
                have zv_51 : zr v_51 := by rw [ev_51]; exact zr_t _
                refine lv_aload_n F.1 F.2.1 dX7_ringsOnce_71 rfl (lv_at hl 4 rfl) ?_
                refine g_getR (ci := 7) (k := 6) F hH rfl (by decide) iX7 hm (by decide) rfl (b := gh 56 0) r_38a k24 dX7_ringsOnce_72 ?_
                refine lv_iload F.1 F.2.1 dX7_ringsOnce_75 (lv_at hl 0 rfl) ?_
                refine lv_aload_n F.1 F.2.1 dX7_ringsOnce_77 rfl (lv_at hl 4 rfl) ?_
                refine lv_iload_n F.1 F.2.1 dX7_ringsOnce_78 rfl (lv_at hl 6 rfl) ?_
                refine z_iconst F dX7_ringsOnce_79 ?_
                refine z_iconst F dX7_ringsOnce_80 ?_
                refine g_calli (g_runV (As := [.int (iI rr), .int (iI 0), .int (iI 1)]) (rest := [.int (iI v_35), .ref (gh 56 0), .int (iI v_51)]) (ci := 7) F hl.1 hH hS hz (c_X7_part l g gh T I_14 R J AI_15 AJ AR mo rr 0 1 zrr ⟨by decide, by decide⟩ ⟨by decide, by decide⟩ hv hm hT (by omega) (by omega) (by omega)) (cwV 3 F.2.2.2.2.1 (good_up gT_X7_part) rfl rfl rfl hdX7_part ⟨Nat.le_of_ble_eq_true rfl, Nat.le_of_ble_eq_true rfl⟩) hm (by decide) rfl rfl rfl (Nat.le_of_ble_eq_true rfl) dX7_ringsOnce_81 ⟨Nat.zero_le _, Nat.zero_le _⟩) hS (fun v_58 I_52 R_53 J_54 AI_55 AJ_56 AR_57 H locs zv_58 hp_59 hH hS => ?_)
                dsimp only at hp_59
                obtain ⟨rfl, rfl, rfl, rfl, rfl, rfl, q_60⟩ := hp_59
                refine z_iadd F dX7_ringsOnce_84 ?_
                have hx85 : 0 ≤ (v_35 + v_58) ∧ (v_35 + v_58) < ((126720 : Nat) : Int) ∧ (v_35 + v_58) ≤ 2147483647 := ⟨by omega, by omega, by omega⟩
                refine g_iald F hH r_38b hx85.1 hx85.2.1 hx85.2.2 dX7_ringsOnce_85 ?_
                refine z_name (fun v_61 ev_61 => ?_)
                have zv_61 : zr v_61 := by rw [ev_61]; exact zr_t _
                refine z_icmp_eq (tgt := 92) F dX7_ringsOnce_86 (by decide) zv_51 zv_61 (fun c_62 => ?_) (fun c_62 => ?_)
                · refine z_iconst F dX7_ringsOnce_92 ?_
                  refine lv_istore (lv' := [(10, .int (iI 0)), (9, .int (iI v_35)), (8, .int (iI jj)), (7, .int (iI k)), (6, .int (iI v_8)), (0, .ref mo), (1, .int (iI sd)), (2, .int (iI rr)), (3, .int (iI n)), (4, .int (iI was)), (5, .int (iI rd))]) F.1 F.2.1 dX7_ringsOnce_93 hl (by decide) rfl (fun ls hl => ?_)
                  have cut_95_63 : ∀ (NN : Nat) (i : Int) (AI_63 : gI) (H : Heap) (locs : List Loc) (ls : Array Slot), zr i → (mInv g gh R I_14 AI_63) → (AI_63 (gh 50 0) = T) → (0 ≤ i ∧ i ≤ n) → (n - i) < ((NN : Nat) : Int) → gH g I_14 R J AI_63 AJ AR H → va_S (gA g) s.heap H locs → lv_has ls 12 [(10, .int (iI i)), (9, .int (iI v_35)), (8, .int (iI jj)), (7, .int (iI k)), (6, .int (iI v_8)), (0, .ref mo), (1, .int (iI sd)), (2, .int (iI rr)), (3, .int (iI n)), (4, .int (iI was)), (5, .int (iI rd))] → W p l e rmX7_ringsOnce s m ([.ref mo, .int (iI sd), .int (iI rr), .int (iI n), .int (iI was), .int (iI rd)] : List Value).toArray below meth c H locs 0 0 (MQ below (gQi g (fun (z : Int) (w : gS) => R = w.2.1 ∧ J = w.2.2.1 ∧ AJ = w.2.2.2.2.1 ∧ AR = w.2.2.2.2.2 ∧ (mInv g gh R (w.1) (w.2.2.2.1)) ∧ ((w.2.2.2.1) (gh 50 0) = T) ∧ (wF mo I (w.1)) ∧ (z < 0 ∨ (z = 0 ∧ ((w.1) mo 26).toInt ≤ 120 ∧ (I mo 26).toInt ≤ ((w.1) mo 26).toInt ∧ (40 < rd → ((w.1) mo 26).toInt = (I mo 26).toInt))))) ([.ref mo, .int (iI sd), .int (iI rr), .int (iI n), .int (iI was), .int (iI rd)] : List Value).toArray s 0 0 (gA g)) (F0 m 95 ls []) := by
                    intro NN95
                    induction NN95 with
                    | zero =>
                      intro i AI_63 H locs ls zi hv hT hi hm95 hH hS hl
                      exact absurd hm95 (by omega)
                    | succ NN95 ih95 =>
                      intro i AI_63 H locs ls zi hv hT hi hm95 hH hS hl
                      refine lv_iload F.1 F.2.1 dX7_ringsOnce_95 (lv_at hl 0 rfl) ?_
                      refine lv_iload_n F.1 F.2.1 dX7_ringsOnce_97 rfl (lv_at hl 8 rfl) ?_
                      refine z_icmp_ge (tgt := 126) F dX7_ringsOnce_98 (by decide) zi zn (fun c_65 => ?_) (fun c_65 => ?_)
                      · refine z_iconst F dX7_ringsOnce_126 ?_
                        refine lv_istore (lv' := [(10, .int (iI 0)), (9, .int (iI v_35)), (8, .int (iI jj)), (7, .int (iI k)), (6, .int (iI v_8)), (0, .ref mo), (1, .int (iI sd)), (2, .int (iI rr)), (3, .int (iI n)), (4, .int (iI was)), (5, .int (iI rd))]) F.1 F.2.1 dX7_ringsOnce_127 hl (by decide) rfl (fun ls hl => ?_)
                        have cut_129_66 : ∀ (NN : Nat) (i : Int) (AI_66 : gI) (H : Heap) (locs : List Loc) (ls : Array Slot), zr i → (mInv g gh R I_14 AI_66) → (AI_66 (gh 50 0) = T) → (0 ≤ i ∧ i ≤ 4) → (4 - i) < ((NN : Nat) : Int) → gH g I_14 R J AI_66 AJ AR H → va_S (gA g) s.heap H locs → lv_has ls 12 [(10, .int (iI i)), (9, .int (iI v_35)), (8, .int (iI jj)), (7, .int (iI k)), (6, .int (iI v_8)), (0, .ref mo), (1, .int (iI sd)), (2, .int (iI rr)), (3, .int (iI n)), (4, .int (iI was)), (5, .int (iI rd))] → W p l e rmX7_ringsOnce s m ([.ref mo, .int (iI sd), .int (iI rr), .int (iI n), .int (iI was), .int (iI rd)] : List Value).toArray below meth c H locs 0 0 (MQ below (gQi g (fun (z : Int) (w : gS) => R = w.2.1 ∧ J = w.2.2.1 ∧ AJ = w.2.2.2.2.1 ∧ AR = w.2.2.2.2.2 ∧ (mInv g gh R (w.1) (w.2.2.2.1)) ∧ ((w.2.2.2.1) (gh 50 0) = T) ∧ (wF mo I (w.1)) ∧ (z < 0 ∨ (z = 0 ∧ ((w.1) mo 26).toInt ≤ 120 ∧ (I mo 26).toInt ≤ ((w.1) mo 26).toInt ∧ (40 < rd → ((w.1) mo 26).toInt = (I mo 26).toInt))))) ([.ref mo, .int (iI sd), .int (iI rr), .int (iI n), .int (iI was), .int (iI rd)] : List Value).toArray s 0 0 (gA g)) (F0 m 129 ls []) := by
                          intro NN129
                          induction NN129 with
                          | zero =>
                            intro i AI_66 H locs ls zi hv hT hi2 hm129 hH hS hl
                            exact absurd hm129 (by omega)
                          | succ NN129 ih129 =>
                            intro i AI_66 H locs ls zi hv hT hi2 hm129 hH hS hl
                            refine lv_iload F.1 F.2.1 dX7_ringsOnce_129 (lv_at hl 0 rfl) ?_
                            refine lv_aload_n F.1 F.2.1 dX7_ringsOnce_131 rfl (lv_at hl 5 rfl) ?_
                            refine lv_iload F.1 F.2.1 dX7_ringsOnce_132 (lv_at hl 4 rfl) ?_
                            refine g_calli (g_runV (As := [.int (iI v_8)]) (rest := [.int (iI i)]) (ci := 7) F hl.1 hH hS hz (c_X7_columnsOf l g gh T I_14 R J AI_66 AJ AR mo v_8 zv_8 hv hm hT (by omega)) (cwV 1 F.2.2.2.2.1 (good_up gT_X7_columnsOf) rfl rfl rfl hdX7_columnsOf ⟨Nat.le_of_ble_eq_true rfl, Nat.le_of_ble_eq_true rfl⟩) hm (by decide) rfl rfl rfl (Nat.le_of_ble_eq_true rfl) dX7_ringsOnce_134 ⟨Nat.zero_le _, Nat.zero_le _⟩) hS (fun v_74 I_68 R_69 J_70 AI_71 AJ_72 AR_73 H locs zv_74 hp_75 hH hS => ?_)
                            dsimp only at hp_75
                            obtain ⟨rfl, rfl, rfl, rfl, rfl, rfl, q_76⟩ := hp_75
                            refine z_icmp_ge (tgt := 165) F dX7_ringsOnce_137 (by decide) zi zv_74 (fun c_77 => ?_) (fun c_77 => ?_)
                            · refine lv_aload_n F.1 F.2.1 dX7_ringsOnce_165 rfl (lv_at hl 5 rfl) ?_
                              refine lv_iload_n F.1 F.2.1 dX7_ringsOnce_166 rfl (lv_at hl 7 rfl) ?_
                              refine z_iconst F dX7_ringsOnce_167 ?_
                              refine lv_iload_n F.1 F.2.1 dX7_ringsOnce_168 rfl (lv_at hl 8 rfl) ?_
                              refine g_callv (g_runV (As := [.int (iI rr), .int (iI 1), .int (iI n)]) (rest := []) (ci := 7) F hl.1 hH hS hz (c_X7_terms l g gh T I_14 R J AI_66 AJ AR mo rr 1 n zrr ⟨by decide, by decide⟩ zn hv hm hT (by omega) (by omega) (fun k h0 h1 h2 => x8g k h0 (by omega))) (cwV 3 F.2.2.2.2.1 (good_up gT_X7_terms) rfl rfl rfl hdX7_terms ⟨Nat.le_of_ble_eq_true rfl, Nat.le_of_ble_eq_true rfl⟩) hm (by decide) rfl rfl rfl (Nat.le_of_ble_eq_true rfl) dX7_ringsOnce_169 ⟨Nat.zero_le _, Nat.zero_le _⟩) hS (fun I_78 R_79 J_80 AI_81 AJ_82 AR_83 H locs hp_84 hH hS => ?_)
                              dsimp only at hp_84
                              obtain ⟨rfl, rfl, rfl, rfl, rfl, hv, hT⟩ := hp_84
                              refine lv_aload_n F.1 F.2.1 dX7_ringsOnce_172 rfl (lv_at hl 5 rfl) ?_
                              refine g_calli (g_runV (As := []) (rest := []) (ci := 7) F hl.1 hH hS hz (c_X7_placeOf l g gh T I_14 R J AI_81 AJ AR mo hv hm hT) (cwV 0 F.2.2.2.2.1 (good_up gT_X7_placeOf) rfl rfl rfl hdX7_placeOf ⟨Nat.le_of_ble_eq_true rfl, Nat.le_of_ble_eq_true rfl⟩) hm (by decide) rfl rfl rfl (Nat.le_of_ble_eq_true rfl) dX7_ringsOnce_173 ⟨Nat.zero_le _, Nat.zero_le _⟩) hS (fun v_91 I_85 R_86 J_87 AI_88 AJ_89 AR_90 H locs zv_91 hp_92 hH hS => ?_)
                              dsimp only at hp_92
                              obtain ⟨rfl, rfl, rfl, rfl, rfl, rfl, q_93⟩ := hp_92
                              refine lv_istore (lv' := [(10, .int (iI v_91)), (9, .int (iI v_35)), (8, .int (iI jj)), (7, .int (iI k)), (6, .int (iI v_8)), (0, .ref mo), (1, .int (iI sd)), (2, .int (iI rr)), (3, .int (iI n)), (4, .int (iI was)), (5, .int (iI rd))]) F.1 F.2.1 dX7_ringsOnce_176 hl (by decide) rfl (fun ls hl => ?_)
                              refine lv_iload F.1 F.2.1 dX7_ringsOnce_178 (lv_at hl 0 rfl) ?_
                              refine lv_aload_n F.1 F.2.1 dX7_ringsOnce_180 rfl (lv_at hl 5 rfl) ?_
                              refine g_getI (ci := 7) (k := 26) F hH rfl (by decide) iX7 hm (by decide) rfl k269 dX7_ringsOnce_181 ?_
                              refine z_icmp_ge (tgt := 210) F dX7_ringsOnce_184 (by decide) zv_91 (zr_t _) (fun c_94 => ?_) (fun c_94 => ?_)
                              · refine lv_iload F.1 F.2.1 dX7_ringsOnce_210 (lv_at hl 10 rfl) ?_
                                refine z_bipush F dX7_ringsOnce_212 (by decide) ?_
                                refine z_icmp_le (tgt := 220) F dX7_ringsOnce_214 (by decide) zrd ⟨by decide, by decide⟩ (fun c_95 => ?_) (fun c_95 => ?_)
                                · refine lv_aload_n F.1 F.2.1 dX7_ringsOnce_220 rfl (lv_at hl 5 rfl) ?_
                                  refine z_iconst F dX7_ringsOnce_221 ?_
                                  refine lv_iload F.1 F.2.1 dX7_ringsOnce_222 (lv_at hl 10 rfl) ?_
                                  refine g_calli (g_runV (As := [.int (iI 1), .int (iI rd)]) (rest := []) (ci := 7) F hl.1 hH hS hz (c_X7_gathers l g gh T I_14 R J AI_81 AJ AR mo 1 rd ⟨by decide, by decide⟩ zrd hv hm hT (by omega)) (cwV 2 F.2.2.2.2.1 (good_up gT_X7_gathers) rfl rfl rfl hdX7_gathers ⟨Nat.le_of_ble_eq_true rfl, Nat.le_of_ble_eq_true rfl⟩) hm (by decide) rfl rfl rfl (Nat.le_of_ble_eq_true rfl) dX7_ringsOnce_224 ⟨Nat.zero_le _, Nat.zero_le _⟩) hS (fun v_102 I_96 R_97 J_98 AI_99 AJ_100 AR_101 H locs zv_102 hp_103 hH hS => ?_)
                                  dsimp only at hp_103
                                  obtain ⟨rfl, rfl, rfl, rfl, hv, hT, wfq, q_104⟩ := hp_103
                                  have wf := wF_t wf wfq
                                  have u_105_2 : (I_96 mo 2).toInt = (I mo 2).toInt := by rw [wf 2 (by decide)]
                                  have u_105_5 : (I_96 mo 5).toInt = (I mo 5).toInt := by rw [wf 5 (by decide)]
                                  have u_105_14 : (I_96 mo 14).toInt = (I mo 14).toInt := by rw [wf 14 (by decide)]
                                  have u_105_16 : (I_96 mo 16).toInt = (I mo 16).toInt := by rw [wf 16 (by decide)]
                                  have u_105_24 : (I_96 mo 24).toInt = (I mo 24).toInt := by rw [wf 24 (by decide)]
                                  refine lv_istore (lv' := [(11, .int (iI v_102)), (10, .int (iI v_91)), (9, .int (iI v_35)), (8, .int (iI jj)), (7, .int (iI k)), (6, .int (iI v_8)), (0, .ref mo), (1, .int (iI sd)), (2, .int (iI rr)), (3, .int (iI n)), (4, .int (iI was)), (5, .int (iI rd))]) F.1 F.2.1 dX7_ringsOnce_227 hl (by decide) rfl (fun ls hl => ?_)
                                  refine lv_iload F.1 F.2.1 dX7_ringsOnce_229 (lv_at hl 0 rfl) ?_
                                  refine z_if_eq (tgt := 246) F dX7_ringsOnce_231 (by decide) zv_102 (fun c_106 => ?_) (fun c_106 => ?_)
                                  · refine z_iinc (lv' := [(8, .int (iI (jj + 1))), (11, .int (iI v_102)), (10, .int (iI v_91)), (9, .int (iI v_35)), (7, .int (iI k)), (6, .int (iI v_8)), (0, .ref mo), (1, .int (iI sd)), (2, .int (iI rr)), (3, .int (iI n)), (4, .int (iI was)), (5, .int (iI rd))]) F dX7_ringsOnce_246 hl (k := 3) rfl (by decide) rfl (fun ls hl => ?_)
                                    refine z_goto (tgt := 20) F dX7_ringsOnce_249 (by decide) ?_
                                    exact ih20 (jj + 1) I_96 AI_99 H locs ls ⟨by omega, by omega⟩ hv hT wf (by omega) (by omega) hH hS (lv_sub hl [0, 4, 5, 6, 7, 8, 9, 10, 11] rfl)
                                  · refine lv_aload_n F.1 F.2.1 dX7_ringsOnce_234 rfl (lv_at hl 6 rfl) ?_
                                    refine g_getI (ci := 7) (k := 26) F hH rfl (by decide) iX7 hm (by decide) rfl k269 dX7_ringsOnce_235 ?_
                                    have b_107 := mJ hv hm
                                    unfold mNum1 at b_107
                                    refine z_bipush F dX7_ringsOnce_238 (by decide) ?_
                                    refine z_icmp_le (tgt := 246) F dX7_ringsOnce_240 (by decide) (zr_t _) ⟨by decide, by decide⟩ (fun c_108 => ?_) (fun c_108 => ?_)
                                    · refine z_iinc (lv' := [(8, .int (iI (jj + 1))), (11, .int (iI v_102)), (10, .int (iI v_91)), (9, .int (iI v_35)), (7, .int (iI k)), (6, .int (iI v_8)), (0, .ref mo), (1, .int (iI sd)), (2, .int (iI rr)), (3, .int (iI n)), (4, .int (iI was)), (5, .int (iI rd))]) F dX7_ringsOnce_246 hl (k := 3) rfl (by decide) rfl (fun ls hl => ?_)
                                      refine z_goto (tgt := 20) F dX7_ringsOnce_249 (by decide) ?_
                                      exact ih20 (jj + 1) I_96 AI_99 H locs ls ⟨by omega, by omega⟩ hv hT wf (by omega) (by omega) hH hS (lv_sub hl [0, 4, 5, 6, 7, 8, 9, 10, 11] rfl)
                                    · refine z_bipush F dX7_ringsOnce_243 (by decide) ?_
                                      exact g_iret F hr hlk hH hS hz ⟨by decide, by decide⟩ ⟨rfl, rfl, rfl, rfl, hv, hT, wf, by first | omega | rfl | (dsimp only; omega)⟩ dX7_ringsOnce_245
                                · refine z_bipush F dX7_ringsOnce_217 (by decide) ?_
                                  exact g_iret F hr hlk hH hS hz ⟨by decide, by decide⟩ ⟨rfl, rfl, rfl, rfl, hv, hT, wf, by first | omega | rfl | (dsimp only; omega)⟩ dX7_ringsOnce_219
                              · refine lv_aload_n F.1 F.2.1 dX7_ringsOnce_187 rfl (lv_at hl 5 rfl) ?_
                                obtain ⟨r_109a, r_109b⟩ : R mo 25 = some (gh 75 0) ∧ gAr g (gh 75 0) 9 9600 := mR hv hm (q := (25, 9600)) (by decide)
                                refine g_getR (ci := 7) (k := 25) F hH rfl (by decide) iX7 hm (by decide) rfl (b := gh 75 0) r_109a k42 dX7_ringsOnce_188 ?_
                                refine z_bipush F dX7_ringsOnce_191 (by decide) ?_
                                refine lv_iload F.1 F.2.1 dX7_ringsOnce_193 (lv_at hl 0 rfl) ?_
                                refine z_imul F dX7_ringsOnce_195 ?_
                                refine lv_aload_n F.1 F.2.1 dX7_ringsOnce_196 rfl (lv_at hl 5 rfl) ?_
                                obtain ⟨r_110a, r_110b⟩ : R mo 27 = some (gh 77 0) ∧ gAr g (gh 77 0) 9 4 := mR hv hm (q := (27, 4)) (by decide)
                                refine g_getR (ci := 7) (k := 27) F hH rfl (by decide) iX7 hm (by decide) rfl (b := gh 77 0) r_110a k45 dX7_ringsOnce_197 ?_
                                refine z_iconst F dX7_ringsOnce_200 ?_
                                refine g_calli (g_runS (As := [.ref (gh 75 0), .int (iI (6 * v_91)), .ref (gh 77 0), .int (iI 0)]) (rest := []) F hl.1 hH hS hz (c_X7_compare l g 9600 4 I_14 R J AI_81 AJ AR (gh 75 0) (6 * v_91) (gh 77 0) 0 ⟨by omega, by omega⟩ ⟨by decide, by decide⟩ r_109b r_110b (by omega) (by omega) (by omega) (by omega)) (va_cwS 4 F.2.2.2.2.1 (good_up gT_X7_compare) rfl rfl rfl hdX7_compare.2 ⟨Nat.le_of_ble_eq_true rfl, Nat.le_of_ble_eq_true rfl⟩) rfl rfl (Nat.le_of_ble_eq_true rfl) dX7_ringsOnce_201 ⟨Nat.zero_le _, Nat.zero_le _⟩) hS (fun v_117 I_111 R_112 J_113 AI_114 AJ_115 AR_116 H locs zv_117 hp_118 hH hS => ?_)
                                dsimp only at hp_118
                                obtain ⟨rfl, rfl, rfl, rfl, rfl, rfl, q_119⟩ := hp_118
                                refine z_if_ne (tgt := 210) F dX7_ringsOnce_204 (by decide) zv_117 (fun c_120 => ?_) (fun c_120 => ?_)
                                · refine lv_iload F.1 F.2.1 dX7_ringsOnce_210 (lv_at hl 10 rfl) ?_
                                  refine z_bipush F dX7_ringsOnce_212 (by decide) ?_
                                  refine z_icmp_le (tgt := 220) F dX7_ringsOnce_214 (by decide) zrd ⟨by decide, by decide⟩ (fun c_121 => ?_) (fun c_121 => ?_)
                                  · refine lv_aload_n F.1 F.2.1 dX7_ringsOnce_220 rfl (lv_at hl 5 rfl) ?_
                                    refine z_iconst F dX7_ringsOnce_221 ?_
                                    refine lv_iload F.1 F.2.1 dX7_ringsOnce_222 (lv_at hl 10 rfl) ?_
                                    refine g_calli (g_runV (As := [.int (iI 1), .int (iI rd)]) (rest := []) (ci := 7) F hl.1 hH hS hz (c_X7_gathers l g gh T I_14 R J AI_81 AJ AR mo 1 rd ⟨by decide, by decide⟩ zrd hv hm hT (by omega)) (cwV 2 F.2.2.2.2.1 (good_up gT_X7_gathers) rfl rfl rfl hdX7_gathers ⟨Nat.le_of_ble_eq_true rfl, Nat.le_of_ble_eq_true rfl⟩) hm (by decide) rfl rfl rfl (Nat.le_of_ble_eq_true rfl) dX7_ringsOnce_224 ⟨Nat.zero_le _, Nat.zero_le _⟩) hS (fun v_128 I_122 R_123 J_124 AI_125 AJ_126 AR_127 H locs zv_128 hp_129 hH hS => ?_)
                                    dsimp only at hp_129
                                    obtain ⟨rfl, rfl, rfl, rfl, hv, hT, wfq, q_130⟩ := hp_129
                                    have wf := wF_t wf wfq
                                    have u_131_2 : (I_122 mo 2).toInt = (I mo 2).toInt := by rw [wf 2 (by decide)]
                                    have u_131_5 : (I_122 mo 5).toInt = (I mo 5).toInt := by rw [wf 5 (by decide)]
                                    have u_131_14 : (I_122 mo 14).toInt = (I mo 14).toInt := by rw [wf 14 (by decide)]
                                    have u_131_16 : (I_122 mo 16).toInt = (I mo 16).toInt := by rw [wf 16 (by decide)]
                                    have u_131_24 : (I_122 mo 24).toInt = (I mo 24).toInt := by rw [wf 24 (by decide)]
                                    refine lv_istore (lv' := [(11, .int (iI v_128)), (10, .int (iI v_91)), (9, .int (iI v_35)), (8, .int (iI jj)), (7, .int (iI k)), (6, .int (iI v_8)), (0, .ref mo), (1, .int (iI sd)), (2, .int (iI rr)), (3, .int (iI n)), (4, .int (iI was)), (5, .int (iI rd))]) F.1 F.2.1 dX7_ringsOnce_227 hl (by decide) rfl (fun ls hl => ?_)
                                    refine lv_iload F.1 F.2.1 dX7_ringsOnce_229 (lv_at hl 0 rfl) ?_
                                    refine z_if_eq (tgt := 246) F dX7_ringsOnce_231 (by decide) zv_128 (fun c_132 => ?_) (fun c_132 => ?_)
                                    · refine z_iinc (lv' := [(8, .int (iI (jj + 1))), (11, .int (iI v_128)), (10, .int (iI v_91)), (9, .int (iI v_35)), (7, .int (iI k)), (6, .int (iI v_8)), (0, .ref mo), (1, .int (iI sd)), (2, .int (iI rr)), (3, .int (iI n)), (4, .int (iI was)), (5, .int (iI rd))]) F dX7_ringsOnce_246 hl (k := 3) rfl (by decide) rfl (fun ls hl => ?_)
                                      refine z_goto (tgt := 20) F dX7_ringsOnce_249 (by decide) ?_
                                      exact ih20 (jj + 1) I_122 AI_125 H locs ls ⟨by omega, by omega⟩ hv hT wf (by omega) (by omega) hH hS (lv_sub hl [0, 4, 5, 6, 7, 8, 9, 10, 11] rfl)
                                    · refine lv_aload_n F.1 F.2.1 dX7_ringsOnce_234 rfl (lv_at hl 6 rfl) ?_
                                      refine g_getI (ci := 7) (k := 26) F hH rfl (by decide) iX7 hm (by decide) rfl k269 dX7_ringsOnce_235 ?_
                                      have b_133 := mJ hv hm
                                      unfold mNum1 at b_133
                                      refine z_bipush F dX7_ringsOnce_238 (by decide) ?_
                                      refine z_icmp_le (tgt := 246) F dX7_ringsOnce_240 (by decide) (zr_t _) ⟨by decide, by decide⟩ (fun c_134 => ?_) (fun c_134 => ?_)
                                      · refine z_iinc (lv' := [(8, .int (iI (jj + 1))), (11, .int (iI v_128)), (10, .int (iI v_91)), (9, .int (iI v_35)), (7, .int (iI k)), (6, .int (iI v_8)), (0, .ref mo), (1, .int (iI sd)), (2, .int (iI rr)), (3, .int (iI n)), (4, .int (iI was)), (5, .int (iI rd))]) F dX7_ringsOnce_246 hl (k := 3) rfl (by decide) rfl (fun ls hl => ?_)
                                        refine z_goto (tgt := 20) F dX7_ringsOnce_249 (by decide) ?_
                                        exact ih20 (jj + 1) I_122 AI_125 H locs ls ⟨by omega, by omega⟩ hv hT wf (by omega) (by omega) hH hS (lv_sub hl [0, 4, 5, 6, 7, 8, 9, 10, 11] rfl)
                                      · refine z_bipush F dX7_ringsOnce_243 (by decide) ?_
                                        exact g_iret F hr hlk hH hS hz ⟨by decide, by decide⟩ ⟨rfl, rfl, rfl, rfl, hv, hT, wf, by first | omega | rfl | (dsimp only; omega)⟩ dX7_ringsOnce_245
                                  · refine z_bipush F dX7_ringsOnce_217 (by decide) ?_
                                    exact g_iret F hr hlk hH hS hz ⟨by decide, by decide⟩ ⟨rfl, rfl, rfl, rfl, hv, hT, wf, by first | omega | rfl | (dsimp only; omega)⟩ dX7_ringsOnce_219
                                · refine z_goto (tgt := 246) F dX7_ringsOnce_207 (by decide) ?_
                                  refine z_iinc (lv' := [(8, .int (iI (jj + 1))), (10, .int (iI v_91)), (9, .int (iI v_35)), (7, .int (iI k)), (6, .int (iI v_8)), (0, .ref mo), (1, .int (iI sd)), (2, .int (iI rr)), (3, .int (iI n)), (4, .int (iI was)), (5, .int (iI rd))]) F dX7_ringsOnce_246 hl (k := 2) rfl (by decide) rfl (fun ls hl => ?_)
                                  refine z_goto (tgt := 20) F dX7_ringsOnce_249 (by decide) ?_
                                  exact ih20 (jj + 1) I_14 AI_81 H locs ls ⟨by omega, by omega⟩ hv hT wf (by omega) (by omega) hH hS (lv_sub hl [0, 3, 4, 5, 6, 7, 8, 9, 10] rfl)
                            · refine lv_aload_n F.1 F.2.1 dX7_ringsOnce_140 rfl (lv_at hl 5 rfl) ?_
                              obtain ⟨r_135a, r_135b⟩ : R mo 28 = some (gh 78 0) ∧ gAr g (gh 78 0) 9 8 := mR hv hm (q := (28, 8)) (by decide)
                              refine g_getR (ci := 7) (k := 28) F hH rfl (by decide) iX7 hm (by decide) rfl (b := gh 78 0) r_135a k48 dX7_ringsOnce_141 ?_
                              refine lv_iload_n F.1 F.2.1 dX7_ringsOnce_144 rfl (lv_at hl 8 rfl) ?_
                              refine lv_iload F.1 F.2.1 dX7_ringsOnce_145 (lv_at hl 0 rfl) ?_
                              refine z_iadd F dX7_ringsOnce_147 ?_
                              refine lv_aload_n F.1 F.2.1 dX7_ringsOnce_148 rfl (lv_at hl 5 rfl) ?_
                              refine g_getR (ci := 7) (k := 6) F hH rfl (by decide) iX7 hm (by decide) rfl (b := gh 56 0) r_38a k24 dX7_ringsOnce_149 ?_
                              refine lv_iload F.1 F.2.1 dX7_ringsOnce_152 (lv_at hl 1 rfl) ?_
                              refine lv_iload F.1 F.2.1 dX7_ringsOnce_154 (lv_at hl 0 rfl) ?_
                              refine z_iadd F dX7_ringsOnce_156 ?_
                              have hx157 : 0 ≤ (v_35 + i) ∧ (v_35 + i) < ((126720 : Nat) : Int) ∧ (v_35 + i) ≤ 2147483647 := ⟨by omega, by omega, by omega⟩
                              refine g_iald F hH r_38b hx157.1 hx157.2.1 hx157.2.2 dX7_ringsOnce_157 ?_
                              refine z_name (fun v_136 ev_136 => ?_)
                              have zv_136 : zr v_136 := by rw [ev_136]; exact zr_t _
                              have hx158 : 0 ≤ (n + i) ∧ (n + i) < ((8 : Nat) : Int) ∧ (n + i) ≤ 2147483647 := ⟨by omega, by omega, by omega⟩
                              refine g_iast F hH hS r_135b hx158.1 hx158.2.1 hx158.2.2 dX7_ringsOnce_158 (fun H locs hH hS => ?_)
                              obtain ⟨AI_137, eAI_137⟩ : ∃ qQ, qQ = gup2 AI_66 (gh 78 0) ((n + i)).toNat (iI (v_136)) := ⟨_, rfl⟩
                              rw [← eAI_137] at hH
                              have kAI_137 : ∀ b, b ≠ (gh 78 0) → AI_137 b = AI_66 b := fun b hb => by rw [eAI_137]; exact funext fun j => gup2_a _ _ hb
                              have t_138 : AI_137 (gh 50 0) = AI_66 (gh 50 0) := mK hv hm (p := (0, 640)) (q := (28, 8)) (by decide) (by decide) (by decide) kAI_137
                              have hv : mInv g gh R I_14 AI_137 := mInv_a hv hm (q := (28, 8)) (by decide) (by decide) kAI_137
                              have hT : AI_137 (gh 50 0) = T := t_138.trans hT
                              refine z_iinc (lv' := [(10, .int (iI (i + 1))), (9, .int (iI v_35)), (8, .int (iI jj)), (7, .int (iI k)), (6, .int (iI v_8)), (0, .ref mo), (1, .int (iI sd)), (2, .int (iI rr)), (3, .int (iI n)), (4, .int (iI was)), (5, .int (iI rd))]) F dX7_ringsOnce_159 hl (k := 0) rfl (by decide) rfl (fun ls hl => ?_)
                              refine z_goto (tgt := 129) F dX7_ringsOnce_162 (by decide) ?_
                              exact ih129 (i + 1) AI_137 H locs ls ⟨by omega, by omega⟩ hv hT (by omega) (by omega) hH hS (lv_sub hl [0, 1, 2, 3, 4, 5, 6, 7, 8, 9, 10] rfl)
                        exact cut_129_66 (((4 - 0) + 1 : Int).toNat) 0 AI_63 H locs ls ⟨by decide, by decide⟩ hv hT (by omega) (by omega) hH hS (lv_sub hl [0, 1, 2, 3, 4, 5, 6, 7, 8, 9, 10] rfl)
                      · refine lv_aload_n F.1 F.2.1 dX7_ringsOnce_101 rfl (lv_at hl 5 rfl) ?_
                        obtain ⟨r_139a, r_139b⟩ : R mo 28 = some (gh 78 0) ∧ gAr g (gh 78 0) 9 8 := mR hv hm (q := (28, 8)) (by decide)
                        refine g_getR (ci := 7) (k := 28) F hH rfl (by decide) iX7 hm (by decide) rfl (b := gh 78 0) r_139a k48 dX7_ringsOnce_102 ?_
                        refine lv_iload F.1 F.2.1 dX7_ringsOnce_105 (lv_at hl 0 rfl) ?_
                        refine lv_aload_n F.1 F.2.1 dX7_ringsOnce_107 rfl (lv_at hl 5 rfl) ?_
                        refine g_getR (ci := 7) (k := 30) F hH rfl (by decide) iX7 hm (by decide) rfl (b := gh 80 0) r_41a k54 dX7_ringsOnce_108 ?_
                        refine z_iconst F dX7_ringsOnce_111 ?_
                        refine lv_iload F.1 F.2.1 dX7_ringsOnce_112 (lv_at hl 3 rfl) ?_
                        refine z_imul F dX7_ringsOnce_114 ?_
                        refine lv_iload F.1 F.2.1 dX7_ringsOnce_115 (lv_at hl 0 rfl) ?_
                        refine z_iadd F dX7_ringsOnce_117 ?_
                        have hx118 : 0 ≤ ((4 * k) + i) ∧ ((4 * k) + i) < ((600 : Nat) : Int) ∧ ((4 * k) + i) ≤ 2147483647 := ⟨by omega, by omega, by omega⟩
                        refine g_iald F hH r_41b hx118.1 hx118.2.1 hx118.2.2 dX7_ringsOnce_118 ?_
                        refine z_name (fun v_140 ev_140 => ?_)
                        have zv_140 : zr v_140 := by rw [ev_140]; exact zr_t _
                        have hx119 : 0 ≤ i ∧ i < ((8 : Nat) : Int) ∧ i ≤ 2147483647 := ⟨by omega, by omega, by omega⟩
                        refine g_iast F hH hS r_139b hx119.1 hx119.2.1 hx119.2.2 dX7_ringsOnce_119 (fun H locs hH hS => ?_)
                        obtain ⟨AI_141, eAI_141⟩ : ∃ qQ, qQ = gup2 AI_63 (gh 78 0) (i).toNat (iI (v_140)) := ⟨_, rfl⟩
                        rw [← eAI_141] at hH
                        have kAI_141 : ∀ b, b ≠ (gh 78 0) → AI_141 b = AI_63 b := fun b hb => by rw [eAI_141]; exact funext fun j => gup2_a _ _ hb
                        have t_142 : AI_141 (gh 50 0) = AI_63 (gh 50 0) := mK hv hm (p := (0, 640)) (q := (28, 8)) (by decide) (by decide) (by decide) kAI_141
                        have hv : mInv g gh R I_14 AI_141 := mInv_a hv hm (q := (28, 8)) (by decide) (by decide) kAI_141
                        have hT : AI_141 (gh 50 0) = T := t_142.trans hT
                        refine z_iinc (lv' := [(10, .int (iI (i + 1))), (9, .int (iI v_35)), (8, .int (iI jj)), (7, .int (iI k)), (6, .int (iI v_8)), (0, .ref mo), (1, .int (iI sd)), (2, .int (iI rr)), (3, .int (iI n)), (4, .int (iI was)), (5, .int (iI rd))]) F dX7_ringsOnce_120 hl (k := 0) rfl (by decide) rfl (fun ls hl => ?_)
                        refine z_goto (tgt := 95) F dX7_ringsOnce_123 (by decide) ?_
                        exact ih95 (i + 1) AI_141 H locs ls ⟨by omega, by omega⟩ hv hT (by omega) (by omega) hH hS (lv_sub hl [0, 1, 2, 3, 4, 5, 6, 7, 8, 9, 10] rfl)
                  exact cut_95_63 (((n - 0) + 1 : Int).toNat) 0 AI_15 H locs ls ⟨by decide, by decide⟩ hv hT (by omega) (by omega) hH hS (lv_sub hl [0, 1, 2, 3, 4, 5, 6, 7, 8, 9, 10] rfl)
                · refine z_goto (tgt := 246) F dX7_ringsOnce_89 (by decide) ?_
                  refine z_iinc (lv' := [(8, .int (iI (jj + 1))), (9, .int (iI v_35)), (7, .int (iI k)), (6, .int (iI v_8)), (0, .ref mo), (1, .int (iI sd)), (2, .int (iI rr)), (3, .int (iI n)), (4, .int (iI was)), (5, .int (iI rd))]) F dX7_ringsOnce_246 hl (k := 1) rfl (by decide) rfl (fun ls hl => ?_)
                  refine z_goto (tgt := 20) F dX7_ringsOnce_249 (by decide) ?_
                  exact ih20 (jj + 1) I_14 AI_15 H locs ls ⟨by omega, by omega⟩ hv hT wf (by omega) (by omega) hH hS (lv_sub hl [0, 2, 3, 4, 5, 6, 7, 8, 9] rfl)
        exact cut_20_15 (((120 - 0) + 1 : Int).toNat) 0 I_10 AI_11 H locs ls ⟨by decide, by decide⟩ hv hT wf (by omega) (by omega) hH hS (lv_sub hl [0, 1, 2, 3, 4, 5, 6, 7, 8] rfl)
  exact cut_10_11 (((was - 0) + 1 : Int).toNat) 0 I AI H locs ls ⟨by decide, by decide⟩ hv hT wf (by omega) (by omega) hH hS (lv_sub hl [0, 1, 2, 3, 4, 5, 6, 7] rfl)

def rmX7_rings : Room := { frames := 4, cells := 0, slots := 0, locals := 102 }
theorem hdX7_rings : yX7_rings.cls = RX7 ∧ yX7_rings.cls ≠ "java/lang/invoke/MethodHandle" ∧ yX7_rings.cls ≠ "java/lang/invoke/VarHandle" ∧ (parseMethodDescriptor yX7_rings.desc).map (fun d => d.parameters.length) = some 2 := by decide +kernel
set_option maxHeartbeats 4000000 in
set_option maxRecDepth 100000 in
/-- a ring -/
theorem c_X7_rings (l : Launch) (g : gG) (gh : gGh) (T : Nat → Int32) (I : gI) (R : gR) (J : gJ) (AI : gI) (AJ : gJ) (AR : gR) (mo : Nat) (sd : Int) (rr : Int) (zsd : zr sd) (zrr : zr rr) (hv : mInv g gh R I AI) (hm : gO g mo 7) (hT : AI (gh 50 0) = T) (hs : 0 ≤ sd ∧ sd ≤ 10) (hr0 : 0 ≤ rr ∧ rr < (I mo 2).toInt) (hk : tI T (40 * rr) = 8) (hw : (I mo 26).toInt = 0) : gMet l g yX7_rings tsX7_rings rmX7_rings [.ref mo, .int (iI sd), .int (iI rr)] (I, R, J, AI, AJ, AR) (gQi g (fun (z : Int) (w : gS) => R = w.2.1 ∧ J = w.2.2.1 ∧ AJ = w.2.2.2.2.1 ∧ AR = w.2.2.2.2.2 ∧ (mInv g gh R (w.1) (w.2.2.2.1)) ∧ ((w.2.2.2.1) (gh 50 0) = T) ∧ (wF mo I (w.1)))) := by
  refine gStart (cc := cX7_rings) (maxL := 9) (ret := (some (.int))) (by decide) rfl (Nat.le_of_ble_eq_true rfl) ?_
  intro p e s m below meth c ls F hr hlk hH hz hS hl
  have hl : lv_has ls 9 [(0, .ref mo), (1, .int (iI sd)), (2, .int (iI rr))] := hl
  have hS : va_S (gA g) s.heap s.heap [] := hS
  obtain ⟨H, hHe⟩ : ∃ H : Heap, H = s.heap := ⟨_, rfl⟩
  obtain ⟨locs, hlo⟩ : ∃ k : List Loc, k = [] := ⟨_, rfl⟩
  have hH : gH g I R J AI AJ AR H := by rw [hHe]; exact hH
  have hS : va_S (gA g) s.heap H locs := by rw [hHe, hlo]; exact hS
  suffices hw : W p l e rmX7_rings s m ([.ref mo, .int (iI sd), .int (iI rr)] : List Value).toArray below meth c H locs 0 0 (MQ below (gQi g (fun (z : Int) (w : gS) => R = w.2.1 ∧ J = w.2.2.1 ∧ AJ = w.2.2.2.2.1 ∧ AR = w.2.2.2.2.2 ∧ (mInv g gh R (w.1) (w.2.2.2.1)) ∧ ((w.2.2.2.1) (gh 50 0) = T) ∧ (wF mo I (w.1)))) ([.ref mo, .int (iI sd), .int (iI rr)] : List Value).toArray s 0 0 (gA g)) (F0 m 0 ls []) by
    rw [hHe, hlo] at hw; exact hw
  clear hHe hlo
  have wf : wF mo I I := wF_r
  have hb0 := mJ hv hm
  unfold mNum1 at hb0
  have x := mRow hv hm hT (z := rr) (by omega) (by omega)
  have xa := x.1
  have xc := x.2.2.1
  have xb := x.2.1 (by omega)
  have x8 := x.2.2.2.2.2.2.2.2.2 (by omega)
  obtain ⟨x8a, x8b, x8c, x8d, x8e, x8f, x8g, x8h⟩ := x8
  have y := mRow hv hm hT (z := tI T (40 * rr + 2)) (by omega) (by omega)
  have ya := y.1
  have yc := y.2.2.1
  have iX7 : ∀ w ∈ u_ws RX7 TX7 32, w ∈ tsX7_rings := fun w h => List.mem_cons_of_mem _ (inTB7 w h)
  have k24 : Cond.fieldLink RX7 24 (TX7 6).1 (TX7 6).2.1 (TX7 6).2.2.1 ∈ tsX7_rings := List.mem_cons_of_mem _ fl_24
  have k51 : Cond.fieldLink RX7 51 (TX7 29).1 (TX7 29).2.1 (TX7 29).2.2.1 ∈ tsX7_rings := List.mem_cons_of_mem _ fl_51
  have k269 : Cond.fieldLink RX7 269 (TX7 26).1 (TX7 26).2.1 (TX7 26).2.2.1 ∈ tsX7_rings := List.mem_cons_of_mem _ fl_269
  have k42 : Cond.fieldLink RX7 42 (TX7 25).1 (TX7 25).2.1 (TX7 25).2.2.1 ∈ tsX7_rings := List.mem_cons_of_mem _ fl_42
  have k54 : Cond.fieldLink RX7 54 (TX7 30).1 (TX7 30).2.1 (TX7 30).2.2.1 ∈ tsX7_rings := List.mem_cons_of_mem _ fl_54
  refine lv_aload_n F.1 F.2.1 dX7_rings_0 rfl (lv_at hl 0 rfl) ?_
  refine lv_iload_n F.1 F.2.1 dX7_rings_1 rfl (lv_at hl 2 rfl) ?_
  have b_1 := mJ hv hm
  unfold mNum1 at b_1
  refine g_calli (g_runV (As := [.int (iI rr)]) (rest := []) (ci := 7) F hl.1 hH hS hz (c_X7_firstOf l g gh T I R J AI AJ AR mo rr zrr hv hm hT (by omega)) (cwV 1 F.2.2.2.2.1 (good_up gT_X7_firstOf) rfl rfl rfl hdX7_firstOf ⟨Nat.le_of_ble_eq_true rfl, Nat.le_of_ble_eq_true rfl⟩) hm (by decide) rfl rfl rfl (Nat.le_of_ble_eq_true rfl) dX7_rings_2 ⟨Nat.zero_le _, Nat.zero_le _⟩) hS (fun v_8 I_2 R_3 J_4 AI_5 AJ_6 AR_7 H locs zv_8 hp_9 hH hS => ?_)
  dsimp only at hp_9
  obtain ⟨rfl, rfl, rfl, rfl, rfl, rfl, qa⟩ := hp_9
  refine lv_istore_n (lv' := [(3, .int (iI v_8)), (0, .ref mo), (1, .int (iI sd)), (2, .int (iI rr))]) F.1 F.2.1 dX7_rings_5 rfl hl (by decide) rfl (fun ls hl => ?_)
  refine lv_aload_n F.1 F.2.1 dX7_rings_6 rfl (lv_at hl 1 rfl) ?_
  refine lv_iload_n F.1 F.2.1 dX7_rings_7 rfl (lv_at hl 0 rfl) ?_
  refine g_calli (g_runV (As := [.int (iI v_8)]) (rest := []) (ci := 7) F hl.1 hH hS hz (c_X7_columnsOf l g gh T I R J AI AJ AR mo v_8 zv_8 hv hm hT (by omega)) (cwV 1 F.2.2.2.2.1 (good_up gT_X7_columnsOf) rfl rfl rfl hdX7_columnsOf ⟨Nat.le_of_ble_eq_true rfl, Nat.le_of_ble_eq_true rfl⟩) hm (by decide) rfl rfl rfl (Nat.le_of_ble_eq_true rfl) dX7_rings_8 ⟨Nat.zero_le _, Nat.zero_le _⟩) hS (fun v_16 I_10 R_11 J_12 AI_13 AJ_14 AR_15 H locs zv_16 hp_17 hH hS => ?_)
  dsimp only at hp_17
  obtain ⟨rfl, rfl, rfl, rfl, rfl, rfl, qn⟩ := hp_17
  refine lv_istore (lv' := [(4, .int (iI v_16)), (3, .int (iI v_8)), (0, .ref mo), (1, .int (iI sd)), (2, .int (iI rr))]) F.1 F.2.1 dX7_rings_11 hl (by decide) rfl (fun ls hl => ?_)
  refine z_iconst F dX7_rings_13 ?_
  refine lv_istore (lv' := [(5, .int (iI 0)), (4, .int (iI v_16)), (3, .int (iI v_8)), (0, .ref mo), (1, .int (iI sd)), (2, .int (iI rr))]) F.1 F.2.1 dX7_rings_14 hl (by decide) rfl (fun ls hl => ?_)
  have cut_16_19 : ∀ (NN : Nat) (i : Int) (I_18 : gI) (AI_19 : gI) (H : Heap) (locs : List Loc) (ls : Array Slot), zr i → (mInv g gh R I_18 AI_19) → (AI_19 (gh 50 0) = T) → (wF mo I I_18) → (0 ≤ i ∧ i ≤ 120 ∧ (I_18 mo 26).toInt ≤ i) → (120 - i) < ((NN : Nat) : Int) → gH g I_18 R J AI_19 AJ AR H → va_S (gA g) s.heap H locs → lv_has ls 9 [(5, .int (iI i)), (4, .int (iI v_16)), (3, .int (iI v_8)), (0, .ref mo), (1, .int (iI sd)), (2, .int (iI rr))] → W p l e rmX7_rings s m ([.ref mo, .int (iI sd), .int (iI rr)] : List Value).toArray below meth c H locs 0 0 (MQ below (gQi g (fun (z : Int) (w : gS) => R = w.2.1 ∧ J = w.2.2.1 ∧ AJ = w.2.2.2.2.1 ∧ AR = w.2.2.2.2.2 ∧ (mInv g gh R (w.1) (w.2.2.2.1)) ∧ ((w.2.2.2.1) (gh 50 0) = T) ∧ (wF mo I (w.1)))) ([.ref mo, .int (iI sd), .int (iI rr)] : List Value).toArray s 0 0 (gA g)) (F0 m 16 ls []) := by
    intro NN16
    induction NN16 with
    | zero =>
      intro i I_18 AI_19 H locs ls zi hv hT wf hi hm16 hH hS hl
      exact absurd hm16 (by omega)
    | succ NN16 ih16 =>
      intro i I_18 AI_19 H locs ls zi hv hT wf hi hm16 hH hS hl
      have uc_2 : (I_18 mo 2).toInt = (I mo 2).toInt := by rw [wf 2 (by decide)]
      have uc_5 : (I_18 mo 5).toInt = (I mo 5).toInt := by rw [wf 5 (by decide)]
      have uc_14 : (I_18 mo 14).toInt = (I mo 14).toInt := by rw [wf 14 (by decide)]
      have uc_16 : (I_18 mo 16).toInt = (I mo 16).toInt := by rw [wf 16 (by decide)]
      have uc_24 : (I_18 mo 24).toInt = (I mo 24).toInt := by rw [wf 24 (by decide)]
      refine lv_iload F.1 F.2.1 dX7_rings_16 (lv_at hl 0 rfl) ?_
      refine lv_aload_n F.1 F.2.1 dX7_rings_18 rfl (lv_at hl 3 rfl) ?_
      refine lv_iload_n F.1 F.2.1 dX7_rings_19 rfl (lv_at hl 4 rfl) ?_
      refine lv_iload_n F.1 F.2.1 dX7_rings_20 rfl (lv_at hl 2 rfl) ?_
      have b_21 := mJ hv hm
      unfold mNum1 at b_21
      refine g_calli (g_runV (As := [.int (iI sd), .int (iI v_8)]) (rest := [.int (iI i)]) (ci := 7) F hl.1 hH hS hz (c_X7_sizeOf l g gh T I_18 R J AI_19 AJ AR mo sd v_8 zsd zv_8 hv hm hT (by omega) (by omega)) (cwV 2 F.2.2.2.2.1 (good_up gT_X7_sizeOf) rfl rfl rfl hdX7_sizeOf ⟨Nat.le_of_ble_eq_true rfl, Nat.le_of_ble_eq_true rfl⟩) hm (by decide) rfl rfl rfl (Nat.le_of_ble_eq_true rfl) dX7_rings_21 ⟨Nat.zero_le _, Nat.zero_le _⟩) hS (fun v_28 I_22 R_23 J_24 AI_25 AJ_26 AR_27 H locs zv_28 hp_29 hH hS => ?_)
      dsimp only at hp_29
      obtain ⟨rfl, rfl, rfl, rfl, rfl, rfl, q_30, q_31⟩ := hp_29
      refine z_icmp_ge (tgt := 72) F dX7_rings_24 (by decide) zi zv_28 (fun c_32 => ?_) (fun c_32 => ?_)
      · refine lv_aload_n F.1 F.2.1 dX7_rings_72 rfl (lv_at hl 3 rfl) ?_
        obtain ⟨r_33a, r_33b⟩ : R mo 29 = some (gh 79 0) ∧ gAr g (gh 79 0) 9 176 := mR hv hm (q := (29, 176)) (by decide)
        refine g_getR (ci := 7) (k := 29) F hH rfl (by decide) iX7 hm (by decide) rfl (b := gh 79 0) r_33a k51 dX7_rings_73 ?_
        refine z_bipush F dX7_rings_76 (by decide) ?_
        refine lv_iload_n F.1 F.2.1 dX7_rings_78 rfl (lv_at hl 4 rfl) ?_
        refine z_imul F dX7_rings_79 ?_
        refine lv_iload_n F.1 F.2.1 dX7_rings_80 rfl (lv_at hl 5 rfl) ?_
        refine z_iadd F dX7_rings_81 ?_
        refine z_iconst F dX7_rings_82 ?_
        have hx83 : 0 ≤ ((16 * sd) + rr) ∧ ((16 * sd) + rr) < ((176 : Nat) : Int) ∧ ((16 * sd) + rr) ≤ 2147483647 := ⟨by omega, by omega, by omega⟩
        refine g_iast F hH hS r_33b hx83.1 hx83.2.1 hx83.2.2 dX7_rings_83 (fun H locs hH hS => ?_)
        obtain ⟨AI_34, eAI_34⟩ : ∃ qQ, qQ = gup2 AI_19 (gh 79 0) (((16 * sd) + rr)).toNat (iI (0)) := ⟨_, rfl⟩
        rw [← eAI_34] at hH
        have kAI_34 : ∀ b, b ≠ (gh 79 0) → AI_34 b = AI_19 b := fun b hb => by rw [eAI_34]; exact funext fun j => gup2_a _ _ hb
        have t_35 : AI_34 (gh 50 0) = AI_19 (gh 50 0) := mK hv hm (p := (0, 640)) (q := (29, 176)) (by decide) (by decide) (by decide) kAI_34
        have hv : mInv g gh R I_18 AI_34 := mInv_a hv hm (q := (29, 176)) (by decide) (by decide) kAI_34
        have hT : AI_34 (gh 50 0) = T := t_35.trans hT
        refine z_iconst F dX7_rings_84 ?_
        refine lv_istore (lv' := [(5, .int (iI 1)), (4, .int (iI v_16)), (3, .int (iI v_8)), (0, .ref mo), (1, .int (iI sd)), (2, .int (iI rr))]) F.1 F.2.1 dX7_rings_85 hl (by decide) rfl (fun ls hl => ?_)
        have cut_87_37 : ∀ (NN : Nat) (rd : Int) (I_36 : gI) (AI_37 : gI) (H : Heap) (locs : List Loc) (ls : Array Slot), zr rd → (mInv g gh R I_36 AI_37) → (AI_37 (gh 50 0) = T) → (wF mo I I_36) → (1 ≤ rd ∧ rd ≤ 41 ∧ (I_36 mo 26).toInt ≤ 120) → (42 - rd) < ((NN : Nat) : Int) → gH g I_36 R J AI_37 AJ AR H → va_S (gA g) s.heap H locs → lv_has ls 9 [(5, .int (iI rd)), (4, .int (iI v_16)), (3, .int (iI v_8)), (0, .ref mo), (1, .int (iI sd)), (2, .int (iI rr))] → W p l e rmX7_rings s m ([.ref mo, .int (iI sd), .int (iI rr)] : List Value).toArray below meth c H locs 0 0 (MQ below (gQi g (fun (z : Int) (w : gS) => R = w.2.1 ∧ J = w.2.2.1 ∧ AJ = w.2.2.2.2.1 ∧ AR = w.2.2.2.2.2 ∧ (mInv g gh R (w.1) (w.2.2.2.1)) ∧ ((w.2.2.2.1) (gh 50 0) = T) ∧ (wF mo I (w.1)))) ([.ref mo, .int (iI sd), .int (iI rr)] : List Value).toArray s 0 0 (gA g)) (F0 m 87 ls []) := by
          intro NN87
          induction NN87 with
          | zero =>
            intro rd I_36 AI_37 H locs ls zrd hv hT wf hrd hm87 hH hS hl
            exact absurd hm87 (by omega)
          | succ NN87 ih87 =>
            intro rd I_36 AI_37 H locs ls zrd hv hT wf hrd hm87 hH hS hl
            have uc_2 : (I_36 mo 2).toInt = (I mo 2).toInt := by rw [wf 2 (by decide)]
            have uc_5 : (I_36 mo 5).toInt = (I mo 5).toInt := by rw [wf 5 (by decide)]
            have uc_14 : (I_36 mo 14).toInt = (I mo 14).toInt := by rw [wf 14 (by decide)]
            have uc_16 : (I_36 mo 16).toInt = (I mo 16).toInt := by rw [wf 16 (by decide)]
            have uc_24 : (I_36 mo 24).toInt = (I mo 24).toInt := by rw [wf 24 (by decide)]
            have hb9 := mJ hv hm
            unfold mNum1 at hb9
            refine z_iconst F dX7_rings_87 ?_
            refine lv_istore (lv' := [(6, .int (iI 0)), (5, .int (iI rd)), (4, .int (iI v_16)), (3, .int (iI v_8)), (0, .ref mo), (1, .int (iI sd)), (2, .int (iI rr))]) F.1 F.2.1 dX7_rings_88 hl (by decide) rfl (fun ls hl => ?_)
            refine z_iconst F dX7_rings_90 ?_
            refine lv_istore (lv' := [(7, .int (iI 0)), (6, .int (iI 0)), (5, .int (iI rd)), (4, .int (iI v_16)), (3, .int (iI v_8)), (0, .ref mo), (1, .int (iI sd)), (2, .int (iI rr))]) F.1 F.2.1 dX7_rings_91 hl (by decide) rfl (fun ls hl => ?_)
            have cut_93_39 : ∀ (NN : Nat) (was k : Int) (AI_39 : gI) (H : Heap) (locs : List Loc) (ls : Array Slot), zr was → zr k → (mInv g gh R I_36 AI_39) → (AI_39 (gh 50 0) = T) → (0 ≤ was ∧ was ≤ k ∧ k ≤ (I_36 mo 26).toInt) → ((I_36 mo 26).toInt - k) < ((NN : Nat) : Int) → gH g I_36 R J AI_39 AJ AR H → va_S (gA g) s.heap H locs → lv_has ls 9 [(7, .int (iI k)), (6, .int (iI was)), (5, .int (iI rd)), (4, .int (iI v_16)), (3, .int (iI v_8)), (0, .ref mo), (1, .int (iI sd)), (2, .int (iI rr))] → W p l e rmX7_rings s m ([.ref mo, .int (iI sd), .int (iI rr)] : List Value).toArray below meth c H locs 0 0 (MQ below (gQi g (fun (z : Int) (w : gS) => R = w.2.1 ∧ J = w.2.2.1 ∧ AJ = w.2.2.2.2.1 ∧ AR = w.2.2.2.2.2 ∧ (mInv g gh R (w.1) (w.2.2.2.1)) ∧ ((w.2.2.2.1) (gh 50 0) = T) ∧ (wF mo I (w.1)))) ([.ref mo, .int (iI sd), .int (iI rr)] : List Value).toArray s 0 0 (gA g)) (F0 m 93 ls []) := by
              intro NN93
              induction NN93 with
              | zero =>
                intro was k AI_39 H locs ls zwas zk hv hT hk1 hm93 hH hS hl
                exact absurd hm93 (by omega)
              | succ NN93 ih93 =>
                intro was k AI_39 H locs ls zwas zk hv hT hk1 hm93 hH hS hl
                refine lv_iload F.1 F.2.1 dX7_rings_93 (lv_at hl 0 rfl) ?_
                refine lv_aload_n F.1 F.2.1 dX7_rings_95 rfl (lv_at hl 5 rfl) ?_
                refine g_getI (ci := 7) (k := 26) F hH rfl (by decide) iX7 hm (by decide) rfl k269 dX7_rings_96 ?_
                have b_41 := mJ hv hm
                unfold mNum1 at b_41
                refine z_icmp_ge (tgt := 173) F dX7_rings_99 (by decide) zk (zr_t _) (fun c_42 => ?_) (fun c_42 => ?_)
                · refine lv_aload_n F.1 F.2.1 dX7_rings_173 rfl (lv_at hl 5 rfl) ?_
                  refine g_getI (ci := 7) (k := 26) F hH rfl (by decide) iX7 hm (by decide) rfl k269 dX7_rings_174 ?_
                  refine lv_istore (lv' := [(7, .int (iI ((I_36 mo 26).toInt))), (6, .int (iI was)), (5, .int (iI rd)), (4, .int (iI v_16)), (3, .int (iI v_8)), (0, .ref mo), (1, .int (iI sd)), (2, .int (iI rr))]) F.1 F.2.1 dX7_rings_177 hl (by decide) rfl (fun ls hl => ?_)
                  refine lv_aload_n F.1 F.2.1 dX7_rings_179 rfl (lv_at hl 5 rfl) ?_
                  refine lv_iload_n F.1 F.2.1 dX7_rings_180 rfl (lv_at hl 6 rfl) ?_
                  refine lv_iload_n F.1 F.2.1 dX7_rings_181 rfl (lv_at hl 7 rfl) ?_
                  refine lv_iload F.1 F.2.1 dX7_rings_182 (lv_at hl 3 rfl) ?_
                  refine lv_iload F.1 F.2.1 dX7_rings_184 (lv_at hl 1 rfl) ?_
                  refine lv_iload F.1 F.2.1 dX7_rings_186 (lv_at hl 2 rfl) ?_
                  refine g_calli (g_runV (As := [.int (iI sd), .int (iI rr), .int (iI v_16), .int (iI was), .int (iI rd)]) (rest := []) (ci := 7) F hl.1 hH hS hz (c_X7_ringsOnce l g gh T I_36 R J AI_39 AJ AR mo sd rr v_16 was rd zsd zrr zv_16 zwas zrd hv hm hT (by omega) (by omega) (by omega) (by rw [qn, qa]) (by omega) (by omega)) (cwV 5 F.2.2.2.2.1 (good_up gT_X7_ringsOnce) rfl rfl rfl hdX7_ringsOnce ⟨Nat.le_of_ble_eq_true rfl, Nat.le_of_ble_eq_true rfl⟩) hm (by decide) rfl rfl rfl (Nat.le_of_ble_eq_true rfl) dX7_rings_188 ⟨Nat.zero_le _, Nat.zero_le _⟩) hS (fun v_49 I_43 R_44 J_45 AI_46 AJ_47 AR_48 H locs zv_49 hp_50 hH hS => ?_)
                  dsimp only at hp_50
                  obtain ⟨rfl, rfl, rfl, rfl, hv, hT, wfq, q_51⟩ := hp_50
                  have wf := wF_t wf wfq
                  have u_52_2 : (I_43 mo 2).toInt = (I mo 2).toInt := by rw [wf 2 (by decide)]
                  have u_52_5 : (I_43 mo 5).toInt = (I mo 5).toInt := by rw [wf 5 (by decide)]
                  have u_52_14 : (I_43 mo 14).toInt = (I mo 14).toInt := by rw [wf 14 (by decide)]
                  have u_52_16 : (I_43 mo 16).toInt = (I mo 16).toInt := by rw [wf 16 (by decide)]
                  have u_52_24 : (I_43 mo 24).toInt = (I mo 24).toInt := by rw [wf 24 (by decide)]
                  refine lv_istore (lv' := [(8, .int (iI v_49)), (7, .int (iI ((I_36 mo 26).toInt))), (6, .int (iI was)), (5, .int (iI rd)), (4, .int (iI v_16)), (3, .int (iI v_8)), (0, .ref mo), (1, .int (iI sd)), (2, .int (iI rr))]) F.1 F.2.1 dX7_rings_191 hl (by decide) rfl (fun ls hl => ?_)
                  refine lv_iload F.1 F.2.1 dX7_rings_193 (lv_at hl 0 rfl) ?_
                  refine z_if_ge (tgt := 201) F dX7_rings_195 (by decide) zv_49 (fun c_53 => ?_) (fun c_53 => ?_)
                  · refine lv_aload_n F.1 F.2.1 dX7_rings_201 rfl (lv_at hl 6 rfl) ?_
                    refine g_getI (ci := 7) (k := 26) F hH rfl (by decide) iX7 hm (by decide) rfl k269 dX7_rings_202 ?_
                    have b_54 := mJ hv hm
                    unfold mNum1 at b_54
                    refine lv_iload F.1 F.2.1 dX7_rings_205 (lv_at hl 1 rfl) ?_
                    refine z_icmp_ne (tgt := 212) F dX7_rings_207 (by decide) (zr_t _) (zr_t _) (fun c_55 => ?_) (fun c_55 => ?_)
                    · refine lv_aload_n F.1 F.2.1 dX7_rings_212 rfl (lv_at hl 6 rfl) ?_
                      refine g_getR (ci := 7) (k := 29) F hH rfl (by decide) iX7 hm (by decide) rfl (b := gh 79 0) r_33a k51 dX7_rings_213 ?_
                      refine z_bipush F dX7_rings_216 (by decide) ?_
                      refine lv_iload_n F.1 F.2.1 dX7_rings_218 rfl (lv_at hl 7 rfl) ?_
                      refine z_imul F dX7_rings_219 ?_
                      refine lv_iload_n F.1 F.2.1 dX7_rings_220 rfl (lv_at hl 8 rfl) ?_
                      refine z_iadd F dX7_rings_221 ?_
                      refine lv_iload F.1 F.2.1 dX7_rings_222 (lv_at hl 3 rfl) ?_
                      have hx224 : 0 ≤ ((16 * sd) + rr) ∧ ((16 * sd) + rr) < ((176 : Nat) : Int) ∧ ((16 * sd) + rr) ≤ 2147483647 := ⟨by omega, by omega, by omega⟩
                      refine g_iast F hH hS r_33b hx224.1 hx224.2.1 hx224.2.2 dX7_rings_224 (fun H locs hH hS => ?_)
                      obtain ⟨AI_56, eAI_56⟩ : ∃ qQ, qQ = gup2 AI_46 (gh 79 0) (((16 * sd) + rr)).toNat (iI (rd)) := ⟨_, rfl⟩
                      rw [← eAI_56] at hH
                      have kAI_56 : ∀ b, b ≠ (gh 79 0) → AI_56 b = AI_46 b := fun b hb => by rw [eAI_56]; exact funext fun j => gup2_a _ _ hb
                      have t_57 : AI_56 (gh 50 0) = AI_46 (gh 50 0) := mK hv hm (p := (0, 640)) (q := (29, 176)) (by decide) (by decide) (by decide) kAI_56
                      have hv : mInv g gh R I_43 AI_56 := mInv_a hv hm (q := (29, 176)) (by decide) (by decide) kAI_56
                      have hT : AI_56 (gh 50 0) = T := t_57.trans hT
                      refine z_iinc (lv' := [(5, .int (iI (rd + 1))), (8, .int (iI v_49)), (7, .int (iI ((I_36 mo 26).toInt))), (6, .int (iI was)), (4, .int (iI v_16)), (3, .int (iI v_8)), (0, .ref mo), (1, .int (iI sd)), (2, .int (iI rr))]) F dX7_rings_225 hl (k := 3) rfl (by decide) rfl (fun ls hl => ?_)
                      refine z_goto (tgt := 87) F dX7_rings_228 (by decide) ?_
                      exact ih87 (rd + 1) I_43 AI_56 H locs ls ⟨by omega, by omega⟩ hv hT wf (by omega) (by omega) hH hS (lv_sub hl [0, 4, 5, 6, 7, 8] rfl)
                    · refine z_iconst F dX7_rings_210 ?_
                      exact g_iret F hr hlk hH hS hz ⟨by decide, by decide⟩ ⟨rfl, rfl, rfl, rfl, hv, hT, wf⟩ dX7_rings_211
                  · refine lv_iload F.1 F.2.1 dX7_rings_198 (lv_at hl 0 rfl) ?_
                    exact g_iret F hr hlk hH hS hz zv_49 ⟨rfl, rfl, rfl, rfl, hv, hT, wf⟩ dX7_rings_200
                · refine lv_aload_n F.1 F.2.1 dX7_rings_102 rfl (lv_at hl 5 rfl) ?_
                  obtain ⟨r_58a, r_58b⟩ : R mo 25 = some (gh 75 0) ∧ gAr g (gh 75 0) 9 9600 := mR hv hm (q := (25, 9600)) (by decide)
                  refine g_getR (ci := 7) (k := 25) F hH rfl (by decide) iX7 hm (by decide) rfl (b := gh 75 0) r_58a k42 dX7_rings_103 ?_
                  refine z_bipush F dX7_rings_106 (by decide) ?_
                  refine lv_iload F.1 F.2.1 dX7_rings_108 (lv_at hl 0 rfl) ?_
                  refine z_imul F dX7_rings_110 ?_
                  refine z_iconst F dX7_rings_111 ?_
                  refine z_iadd F dX7_rings_112 ?_
                  have hx113 : 0 ≤ ((6 * k) + 5) ∧ ((6 * k) + 5) < ((9600 : Nat) : Int) ∧ ((6 * k) + 5) ≤ 2147483647 := ⟨by omega, by omega, by omega⟩
                  refine g_iald F hH r_58b hx113.1 hx113.2.1 hx113.2.2 dX7_rings_113 ?_
                  refine z_name (fun v_59 ev_59 => ?_)
                  have zv_59 : zr v_59 := by rw [ev_59]; exact zr_t _
                  refine lv_iload F.1 F.2.1 dX7_rings_114 (lv_at hl 2 rfl) ?_
                  refine z_iconst F dX7_rings_116 ?_
                  refine z_isub F dX7_rings_117 ?_
                  refine z_icmp_eq (tgt := 124) F dX7_rings_118 (by decide) zv_59 ⟨by omega, by omega⟩ (fun c_60 => ?_) (fun c_60 => ?_)
                  · refine z_iconst F dX7_rings_124 ?_
                    refine lv_istore (lv' := [(8, .int (iI 0)), (7, .int (iI k)), (6, .int (iI was)), (5, .int (iI rd)), (4, .int (iI v_16)), (3, .int (iI v_8)), (0, .ref mo), (1, .int (iI sd)), (2, .int (iI rr))]) F.1 F.2.1 dX7_rings_125 hl (by decide) rfl (fun ls hl => ?_)
                    have cut_127_61 : ∀ (NN : Nat) (i : Int) (AI_61 : gI) (H : Heap) (locs : List Loc) (ls : Array Slot), zr i → (mInv g gh R I_36 AI_61) → (AI_61 (gh 50 0) = T) → (0 ≤ i ∧ i ≤ 4) → (4 - i) < ((NN : Nat) : Int) → gH g I_36 R J AI_61 AJ AR H → va_S (gA g) s.heap H locs → lv_has ls 9 [(8, .int (iI i)), (7, .int (iI k)), (6, .int (iI was)), (5, .int (iI rd)), (4, .int (iI v_16)), (3, .int (iI v_8)), (0, .ref mo), (1, .int (iI sd)), (2, .int (iI rr))] → W p l e rmX7_rings s m ([.ref mo, .int (iI sd), .int (iI rr)] : List Value).toArray below meth c H locs 0 0 (MQ below (gQi g (fun (z : Int) (w : gS) => R = w.2.1 ∧ J = w.2.2.1 ∧ AJ = w.2.2.2.2.1 ∧ AR = w.2.2.2.2.2 ∧ (mInv g gh R (w.1) (w.2.2.2.1)) ∧ ((w.2.2.2.1) (gh 50 0) = T) ∧ (wF mo I (w.1)))) ([.ref mo, .int (iI sd), .int (iI rr)] : List Value).toArray s 0 0 (gA g)) (F0 m 127 ls []) := by
                      intro NN127
                      induction NN127 with
                      | zero =>
                        intro i AI_61 H locs ls zi hv hT hi2 hm127 hH hS hl
                        exact absurd hm127 (by omega)
                      | succ NN127 ih127 =>
                        intro i AI_61 H locs ls zi hv hT hi2 hm127 hH hS hl
                        refine lv_iload F.1 F.2.1 dX7_rings_127 (lv_at hl 0 rfl) ?_
                        refine z_iconst F dX7_rings_129 ?_
                        refine z_icmp_ge (tgt := 164) F dX7_rings_130 (by decide) zi ⟨by decide, by decide⟩ (fun c_63 => ?_) (fun c_63 => ?_)
                        · refine z_iinc (lv' := [(6, .int (iI (was + 1))), (8, .int (iI i)), (7, .int (iI k)), (5, .int (iI rd)), (4, .int (iI v_16)), (3, .int (iI v_8)), (0, .ref mo), (1, .int (iI sd)), (2, .int (iI rr))]) F dX7_rings_164 hl (k := 2) rfl (by decide) rfl (fun ls hl => ?_)
                          refine z_iinc (lv' := [(7, .int (iI (k + 1))), (6, .int (iI (was + 1))), (8, .int (iI i)), (5, .int (iI rd)), (4, .int (iI v_16)), (3, .int (iI v_8)), (0, .ref mo), (1, .int (iI sd)), (2, .int (iI rr))]) F dX7_rings_167 hl (k := 2) rfl (by decide) rfl (fun ls hl => ?_)
                          refine z_goto (tgt := 93) F dX7_rings_170 (by decide) ?_
                          exact ih93 (was + 1) (k + 1) AI_61 H locs ls ⟨by omega, by omega⟩ ⟨by omega, by omega⟩ hv hT (by omega) (by omega) hH hS (lv_sub hl [0, 1, 3, 4, 5, 6, 7, 8] rfl)
                        · refine lv_aload_n F.1 F.2.1 dX7_rings_133 rfl (lv_at hl 6 rfl) ?_
                          obtain ⟨r_64a, r_64b⟩ : R mo 30 = some (gh 80 0) ∧ gAr g (gh 80 0) 9 600 := mR hv hm (q := (30, 600)) (by decide)
                          refine g_getR (ci := 7) (k := 30) F hH rfl (by decide) iX7 hm (by decide) rfl (b := gh 80 0) r_64a k54 dX7_rings_134 ?_
                          refine z_iconst F dX7_rings_137 ?_
                          refine lv_iload F.1 F.2.1 dX7_rings_138 (lv_at hl 2 rfl) ?_
                          refine z_imul F dX7_rings_140 ?_
                          refine lv_iload F.1 F.2.1 dX7_rings_141 (lv_at hl 0 rfl) ?_
                          refine z_iadd F dX7_rings_143 ?_
                          refine lv_aload_n F.1 F.2.1 dX7_rings_144 rfl (lv_at hl 6 rfl) ?_
                          refine g_getR (ci := 7) (k := 25) F hH rfl (by decide) iX7 hm (by decide) rfl (b := gh 75 0) r_58a k42 dX7_rings_145 ?_
                          refine z_bipush F dX7_rings_148 (by decide) ?_
                          refine lv_iload F.1 F.2.1 dX7_rings_150 (lv_at hl 1 rfl) ?_
                          refine z_imul F dX7_rings_152 ?_
                          refine lv_iload F.1 F.2.1 dX7_rings_153 (lv_at hl 0 rfl) ?_
                          refine z_iadd F dX7_rings_155 ?_
                          have hx156 : 0 ≤ ((6 * k) + i) ∧ ((6 * k) + i) < ((9600 : Nat) : Int) ∧ ((6 * k) + i) ≤ 2147483647 := ⟨by omega, by omega, by omega⟩
                          refine g_iald F hH r_58b hx156.1 hx156.2.1 hx156.2.2 dX7_rings_156 ?_
                          refine z_name (fun v_65 ev_65 => ?_)
                          have zv_65 : zr v_65 := by rw [ev_65]; exact zr_t _
                          have hx157 : 0 ≤ ((4 * was) + i) ∧ ((4 * was) + i) < ((600 : Nat) : Int) ∧ ((4 * was) + i) ≤ 2147483647 := ⟨by omega, by omega, by omega⟩
                          refine g_iast F hH hS r_64b hx157.1 hx157.2.1 hx157.2.2 dX7_rings_157 (fun H locs hH hS => ?_)
                          obtain ⟨AI_66, eAI_66⟩ : ∃ qQ, qQ = gup2 AI_61 (gh 80 0) (((4 * was) + i)).toNat (iI (v_65)) := ⟨_, rfl⟩
                          rw [← eAI_66] at hH
                          have kAI_66 : ∀ b, b ≠ (gh 80 0) → AI_66 b = AI_61 b := fun b hb => by rw [eAI_66]; exact funext fun j => gup2_a _ _ hb
                          have t_67 : AI_66 (gh 50 0) = AI_61 (gh 50 0) := mK hv hm (p := (0, 640)) (q := (30, 600)) (by decide) (by decide) (by decide) kAI_66
                          have hv : mInv g gh R I_36 AI_66 := mInv_a hv hm (q := (30, 600)) (by decide) (by decide) kAI_66
                          have hT : AI_66 (gh 50 0) = T := t_67.trans hT
                          refine z_iinc (lv' := [(8, .int (iI (i + 1))), (7, .int (iI k)), (6, .int (iI was)), (5, .int (iI rd)), (4, .int (iI v_16)), (3, .int (iI v_8)), (0, .ref mo), (1, .int (iI sd)), (2, .int (iI rr))]) F dX7_rings_158 hl (k := 0) rfl (by decide) rfl (fun ls hl => ?_)
                          refine z_goto (tgt := 127) F dX7_rings_161 (by decide) ?_
                          exact ih127 (i + 1) AI_66 H locs ls ⟨by omega, by omega⟩ hv hT (by omega) (by omega) hH hS (lv_sub hl [0, 1, 2, 3, 4, 5, 6, 7, 8] rfl)
                    exact cut_127_61 (((4 - 0) + 1 : Int).toNat) 0 AI_39 H locs ls ⟨by decide, by decide⟩ hv hT (by omega) (by omega) hH hS (lv_sub hl [0, 1, 2, 3, 4, 5, 6, 7, 8] rfl)
                  · refine z_goto (tgt := 167) F dX7_rings_121 (by decide) ?_
                    refine z_iinc (lv' := [(7, .int (iI (k + 1))), (6, .int (iI was)), (5, .int (iI rd)), (4, .int (iI v_16)), (3, .int (iI v_8)), (0, .ref mo), (1, .int (iI sd)), (2, .int (iI rr))]) F dX7_rings_167 hl (k := 0) rfl (by decide) rfl (fun ls hl => ?_)
                    refine z_goto (tgt := 93) F dX7_rings_170 (by decide) ?_
                    exact ih93 was (k + 1) AI_39 H locs ls zwas ⟨by omega, by omega⟩ hv hT (by omega) (by omega) hH hS (lv_sub hl [0, 1, 2, 3, 4, 5, 6, 7] rfl)
            exact cut_93_39 ((((I_36 mo 26).toInt - 0) + 1 : Int).toNat) 0 0 AI_37 H locs ls ⟨by decide, by decide⟩ ⟨by decide, by decide⟩ hv hT (by omega) (by omega) hH hS (lv_sub hl [0, 1, 2, 3, 4, 5, 6, 7] rfl)
        exact cut_87_37 (((42 - 1) + 1 : Int).toNat) 1 I_18 AI_34 H locs ls ⟨by decide, by decide⟩ hv hT wf (by omega) (by omega) hH hS (lv_sub hl [0, 1, 2, 3, 4, 5] rfl)
      · refine lv_aload_n F.1 F.2.1 dX7_rings_27 rfl (lv_at hl 3 rfl) ?_
        obtain ⟨r_68a, r_68b⟩ : R mo 6 = some (gh 56 0) ∧ gAr g (gh 56 0) 9 126720 := mR hv hm (q := (6, 126720)) (by decide)
        refine g_getR (ci := 7) (k := 6) F hH rfl (by decide) iX7 hm (by decide) rfl (b := gh 56 0) r_68a k24 dX7_rings_28 ?_
        refine lv_iload_n F.1 F.2.1 dX7_rings_31 rfl (lv_at hl 4 rfl) ?_
        refine lv_iload_n F.1 F.2.1 dX7_rings_32 rfl (lv_at hl 2 rfl) ?_
        refine lv_iload F.1 F.2.1 dX7_rings_33 (lv_at hl 0 rfl) ?_
        refine g_calli (g_runS (As := [.int (iI sd), .int (iI v_8), .int (iI i)]) (rest := [.ref (gh 56 0)]) F hl.1 hH hS hz (c_X7_spot l g  I_18 R J AI_19 AJ AR sd v_8 i zsd zv_8 zi (by omega) (by omega) (by omega)) (va_cwS 3 F.2.2.2.2.1 (good_up gT_X7_spot) rfl rfl rfl hdX7_spot.2 ⟨Nat.le_of_ble_eq_true rfl, Nat.le_of_ble_eq_true rfl⟩) rfl rfl (Nat.le_of_ble_eq_true rfl) dX7_rings_35 ⟨Nat.zero_le _, Nat.zero_le _⟩) hS (fun v_75 I_69 R_70 J_71 AI_72 AJ_73 AR_74 H locs zv_75 hp_76 hH hS => ?_)
        dsimp only at hp_76
        obtain ⟨rfl, rfl, rfl, rfl, rfl, rfl, q_77⟩ := hp_76
        refine z_iconst F dX7_rings_38 ?_
        refine z_iadd F dX7_rings_39 ?_
        have hx40 : 0 ≤ (v_75 + 4) ∧ (v_75 + 4) < ((126720 : Nat) : Int) ∧ (v_75 + 4) ≤ 2147483647 := ⟨by omega, by omega, by omega⟩
        refine g_iald F hH r_68b hx40.1 hx40.2.1 hx40.2.2 dX7_rings_40 ?_
        refine z_name (fun v_78 ev_78 => ?_)
        have zv_78 : zr v_78 := by rw [ev_78]; exact zr_t _
        refine z_if_gt (tgt := 47) F dX7_rings_41 (by decide) zv_78 (fun c_79 => ?_) (fun c_79 => ?_)
        · refine lv_aload_n F.1 F.2.1 dX7_rings_47 rfl (lv_at hl 3 rfl) ?_
          refine lv_iload_n F.1 F.2.1 dX7_rings_48 rfl (lv_at hl 4 rfl) ?_
          refine lv_iload_n F.1 F.2.1 dX7_rings_49 rfl (lv_at hl 2 rfl) ?_
          refine lv_iload F.1 F.2.1 dX7_rings_50 (lv_at hl 0 rfl) ?_
          refine g_calli (g_runS (As := [.int (iI sd), .int (iI v_8), .int (iI i)]) (rest := [.ref mo]) F hl.1 hH hS hz (c_X7_spot l g  I_18 R J AI_19 AJ AR sd v_8 i zsd zv_8 zi (by omega) (by omega) (by omega)) (va_cwS 3 F.2.2.2.2.1 (good_up gT_X7_spot) rfl rfl rfl hdX7_spot.2 ⟨Nat.le_of_ble_eq_true rfl, Nat.le_of_ble_eq_true rfl⟩) rfl rfl (Nat.le_of_ble_eq_true rfl) dX7_rings_52 ⟨Nat.zero_le _, Nat.zero_le _⟩) hS (fun v_86 I_80 R_81 J_82 AI_83 AJ_84 AR_85 H locs zv_86 hp_87 hH hS => ?_)
          dsimp only at hp_87
          obtain ⟨rfl, rfl, rfl, rfl, rfl, rfl, q_88⟩ := hp_87
          refine g_callv (g_runV (As := [.int (iI v_86)]) (rest := []) (ci := 7) F hl.1 hH hS hz (c_X7_takes l g gh T I_18 R J AI_19 AJ AR mo v_86 zv_86 hv hm hT (by omega)) (cwV 1 F.2.2.2.2.1 (good_up gT_X7_takes) rfl rfl rfl hdX7_takes ⟨Nat.le_of_ble_eq_true rfl, Nat.le_of_ble_eq_true rfl⟩) hm (by decide) rfl rfl rfl (Nat.le_of_ble_eq_true rfl) dX7_rings_55 ⟨Nat.zero_le _, Nat.zero_le _⟩) hS (fun I_89 R_90 J_91 AI_92 AJ_93 AR_94 H locs hp_95 hH hS => ?_)
          dsimp only at hp_95
          obtain ⟨rfl, rfl, rfl, rfl, rfl, hv, hT⟩ := hp_95
          refine lv_aload_n F.1 F.2.1 dX7_rings_58 rfl (lv_at hl 3 rfl) ?_
          refine z_iconst F dX7_rings_59 ?_
          refine z_iconst F dX7_rings_60 ?_
          refine g_calli (g_runV (As := [.int (iI 1), .int (iI 0)]) (rest := []) (ci := 7) F hl.1 hH hS hz (c_X7_gathers l g gh T I_18 R J AI_92 AJ AR mo 1 0 ⟨by decide, by decide⟩ ⟨by decide, by decide⟩ hv hm hT (by omega)) (cwV 2 F.2.2.2.2.1 (good_up gT_X7_gathers) rfl rfl rfl hdX7_gathers ⟨Nat.le_of_ble_eq_true rfl, Nat.le_of_ble_eq_true rfl⟩) hm (by decide) rfl rfl rfl (Nat.le_of_ble_eq_true rfl) dX7_rings_61 ⟨Nat.zero_le _, Nat.zero_le _⟩) hS (fun v_102 I_96 R_97 J_98 AI_99 AJ_100 AR_101 H locs zv_102 hp_103 hH hS => ?_)
          dsimp only at hp_103
          obtain ⟨rfl, rfl, rfl, rfl, hv, hT, wfq, q_104⟩ := hp_103
          have wf := wF_t wf wfq
          have u_105_2 : (I_96 mo 2).toInt = (I mo 2).toInt := by rw [wf 2 (by decide)]
          have u_105_5 : (I_96 mo 5).toInt = (I mo 5).toInt := by rw [wf 5 (by decide)]
          have u_105_14 : (I_96 mo 14).toInt = (I mo 14).toInt := by rw [wf 14 (by decide)]
          have u_105_16 : (I_96 mo 16).toInt = (I mo 16).toInt := by rw [wf 16 (by decide)]
          have u_105_24 : (I_96 mo 24).toInt = (I mo 24).toInt := by rw [wf 24 (by decide)]
          refine lv_istore (lv' := [(6, .int (iI v_102)), (5, .int (iI i)), (4, .int (iI v_16)), (3, .int (iI v_8)), (0, .ref mo), (1, .int (iI sd)), (2, .int (iI rr))]) F.1 F.2.1 dX7_rings_64 hl (by decide) rfl (fun ls hl => ?_)
          refine z_iinc (lv' := [(5, .int (iI (i + 1))), (6, .int (iI v_102)), (4, .int (iI v_16)), (3, .int (iI v_8)), (0, .ref mo), (1, .int (iI sd)), (2, .int (iI rr))]) F dX7_rings_66 hl (k := 1) rfl (by decide) rfl (fun ls hl => ?_)
          refine z_goto (tgt := 16) F dX7_rings_69 (by decide) ?_
          exact ih16 (i + 1) I_96 AI_99 H locs ls ⟨by omega, by omega⟩ hv hT wf (by omega) (by omega) hH hS (lv_sub hl [0, 2, 3, 4, 5, 6] rfl)
        · refine z_goto (tgt := 66) F dX7_rings_44 (by decide) ?_
          refine z_iinc (lv' := [(5, .int (iI (i + 1))), (4, .int (iI v_16)), (3, .int (iI v_8)), (0, .ref mo), (1, .int (iI sd)), (2, .int (iI rr))]) F dX7_rings_66 hl (k := 0) rfl (by decide) rfl (fun ls hl => ?_)
          refine z_goto (tgt := 16) F dX7_rings_69 (by decide) ?_
          exact ih16 (i + 1) I_18 AI_19 H locs ls ⟨by omega, by omega⟩ hv hT wf (by omega) (by omega) hH hS (lv_sub hl [0, 1, 2, 3, 4, 5] rfl)
  exact cut_16_19 (((120 - 0) + 1 : Int).toNat) 0 I AI H locs ls ⟨by decide, by decide⟩ hv hT wf (by omega) (by omega) hH hS (lv_sub hl [0, 1, 2, 3, 4, 5] rfl)
