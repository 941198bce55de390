def rmX7_placeOf : Room := { frames := 1, cells := 0, slots := 0, locals := 24 }
theorem hdX7_placeOf : yX7_placeOf.cls = RX7 ∧ yX7_placeOf.cls ≠ "java/lang/invoke/MethodHandle" ∧ yX7_placeOf.cls ≠ "java/lang/invoke/VarHandle" ∧ (parseMethodDescriptor yX7_placeOf.desc).map (fun d => d.parameters.length) = some 0 := by decide +kernel
set_option maxHeartbeats 4000000 in
set_option maxRecDepth 100000 in
/-- the place of the tuple -/
theorem c_X7_placeOf (l : Launch) (g : gG) (gh : gGh) (T : Nat → Int32) (I : gI) (R : gR) (J : gJ) (AI : gI) (AJ : gJ) (AR : gR) (mo : Nat) (hv : mInv g gh R I AI) (hm : gO g mo 7) (hT : AI (gh 50 0) = T) : gMet l g yX7_placeOf tsX7_placeOf rmX7_placeOf [.ref mo] (I, R, J, AI, AJ, AR) (gQi g (fun (z : Int) (w : gS) => I = w.1 ∧ R = w.2.1 ∧ J = w.2.2.1 ∧ AI = w.2.2.2.1 ∧ AJ = w.2.2.2.2.1 ∧ AR = w.2.2.2.2.2 ∧ (0 ≤ z ∧ z ≤ (I mo 26).toInt))) := by
  refine gStart (cc := cX7_placeOf) (maxL := 4) (ret := (some (.int))) (by decide) rfl (Nat.le_of_ble_eq_true rfl) ?_
  intro p e s m below meth c ls F hr hlk hH hz hS hl
  have hl : lv_has ls 4 [(0, .ref mo)] := hl
  have hS : va_S (gA g) s.heap s.heap [] := hS
  obtain ⟨H, hHe⟩ : ∃ H : Heap, H = s.heap := ⟨_, rfl⟩
  obtain ⟨locs, hlo⟩ : ∃ k : List Loc, k = [] := ⟨_, rfl⟩
  have hH : gH g I R J AI AJ AR H := by rw [hHe]; exact hH
  have hS : va_S (gA g) s.heap H locs := by rw [hHe, hlo]; exact hS
  suffices hw : W p l e rmX7_placeOf s m ([.ref mo] : List Value).toArray below meth c H locs 0 0 (MQ below (gQi g (fun (z : Int) (w : gS) => I = w.1 ∧ R = w.2.1 ∧ J = w.2.2.1 ∧ AI = w.2.2.2.1 ∧ AJ = w.2.2.2.2.1 ∧ AR = w.2.2.2.2.2 ∧ (0 ≤ z ∧ z ≤ (I mo 26).toInt))) ([.ref mo] : List Value).toArray s 0 0 (gA g)) (F0 m 0 ls []) by
    rw [hHe, hlo] at hw; exact hw
  clear hHe hlo
  have iX7 : ∀ w ∈ u_ws RX7 TX7 32, w ∈ tsX7_placeOf := fun w h => List.mem_cons_of_mem _ (inTB7 w h)
  have k269 : Cond.fieldLink RX7 269 (TX7 26).1 (TX7 26).2.1 (TX7 26).2.2.1 ∈ tsX7_placeOf := List.mem_cons_of_mem _ fl_269
  have k42 : Cond.fieldLink RX7 42 (TX7 25).1 (TX7 25).2.1 (TX7 25).2.2.1 ∈ tsX7_placeOf := List.mem_cons_of_mem _ fl_42
  have k45 : Cond.fieldLink RX7 45 (TX7 27).1 (TX7 27).2.1 (TX7 27).2.2.1 ∈ tsX7_placeOf := List.mem_cons_of_mem _ fl_45
  refine z_iconst F dX7_placeOf_0 ?_
  refine lv_istore_n (lv' := [(1, .int (iI 0)), (0, .ref mo)]) F.1 F.2.1 dX7_placeOf_1 rfl hl (by decide) rfl (fun ls hl => ?_)
  refine lv_aload_n F.1 F.2.1 dX7_placeOf_2 rfl (lv_at hl 1 rfl) ?_
  refine g_getI (ci := 7) (k := 26) F hH rfl (by decide) iX7 hm (by decide) rfl k269 dX7_placeOf_3 ?_
  have b_1 := mJ hv hm
  unfold mNum1 at b_1
  refine lv_istore_n (lv' := [(2, .int (iI ((I mo 26).toInt))), (1, .int (iI 0)), (0, .ref mo)]) F.1 F.2.1 dX7_placeOf_6 rfl hl (by decide) rfl (fun ls hl => ?_)
  have cut_7_1 : ∀ (NN : Nat) (lo hi : Int) (H : Heap) (locs : List Loc) (ls : Array Slot), zr lo → zr hi → (0 ≤ lo ∧ lo ≤ hi ∧ hi ≤ (I mo 26).toInt) → (hi - lo) < ((NN : Nat) : Int) → gH g I R J AI AJ AR H → va_S (gA g) s.heap H locs → lv_has ls 4 [(2, .int (iI hi)), (1, .int (iI lo)), (0, .ref mo)] → W p l e rmX7_placeOf s m ([.ref mo] : List Value).toArray below meth c H locs 0 0 (MQ below (gQi g (fun (z : Int) (w : gS) => I = w.1 ∧ R = w.2.1 ∧ J = w.2.2.1 ∧ AI = w.2.2.2.1 ∧ AJ = w.2.2.2.2.1 ∧ AR = w.2.2.2.2.2 ∧ (0 ≤ z ∧ z ≤ (I mo 26).toInt))) ([.ref mo] : List Value).toArray s 0 0 (gA g)) (F0 m 7 ls []) := by
    intro NN7
    induction NN7 with
    | zero =>
      intro lo hi H locs ls zlo zhi hh hm7 hH hS hl
      exact absurd hm7 (by omega)
    | succ NN7 ih7 =>
      intro lo hi H locs ls zlo zhi hh hm7 hH hS hl
      refine lv_iload_n F.1 F.2.1 dX7_placeOf_7 rfl (lv_at hl 1 rfl) ?_
      refine lv_iload_n F.1 F.2.1 dX7_placeOf_8 rfl (lv_at hl 0 rfl) ?_
      refine z_icmp_ge (tgt := 49) F dX7_placeOf_9 (by decide) zlo zhi (fun c_3 => ?_) (fun c_3 => ?_)
      · refine lv_iload_n F.1 F.2.1 dX7_placeOf_49 rfl (lv_at hl 1 rfl) ?_
        exact g_iret F hr hlk hH hS hz zlo ⟨rfl, rfl, rfl, rfl, rfl, rfl, by first | omega | rfl | (dsimp only; omega)⟩ dX7_placeOf_50
      · refine lv_iload_n F.1 F.2.1 dX7_placeOf_12 rfl (lv_at hl 1 rfl) ?_
        refine lv_iload_n F.1 F.2.1 dX7_placeOf_13 rfl (lv_at hl 0 rfl) ?_
        refine z_iadd F dX7_placeOf_14 ?_
        refine z_iconst F dX7_placeOf_15 ?_
        refine z_idiv F (by omega) (by omega) (by omega) (by omega) dX7_placeOf_16 ?_
        refine lv_istore_n (lv' := [(3, .int (iI ((lo + hi) / 2))), (2, .int (iI hi)), (1, .int (iI lo)), (0, .ref mo)]) F.1 F.2.1 dX7_placeOf_17 rfl hl (by decide) rfl (fun ls hl => ?_)
        refine lv_aload_n F.1 F.2.1 dX7_placeOf_18 rfl (lv_at hl 3 rfl) ?_
        obtain ⟨r_4a, r_4b⟩ : R mo 25 = some (gh 75 0) ∧ gAr g (gh 75 0) 9 9600 := mR hv hm (q := (25, 9600)) (by decide)
        refine g_getR (ci := 7) (k := 25) F hH rfl (by decide) iX7 hm (by decide) rfl (b := gh 75 0) r_4a k42 dX7_placeOf_19 ?_
        refine z_bipush F dX7_placeOf_22 (by decide) ?_
        refine lv_iload_n F.1 F.2.1 dX7_placeOf_24 rfl (lv_at hl 0 rfl) ?_
        refine z_imul F dX7_placeOf_25 ?_
        refine lv_aload_n F.1 F.2.1 dX7_placeOf_26 rfl (lv_at hl 3 rfl) ?_
        obtain ⟨r_5a, r_5b⟩ : R mo 27 = some (gh 77 0) ∧ gAr g (gh 77 0) 9 4 := mR hv hm (q := (27, 4)) (by decide)
        refine g_getR (ci := 7) (k := 27) F hH rfl (by decide) iX7 hm (by decide) rfl (b := gh 77 0) r_5a k45 dX7_placeOf_27 ?_
        refine z_iconst F dX7_placeOf_30 ?_
        refine g_calli (g_runS (As := [.ref (gh 75 0), .int (iI (6 * ((lo + hi) / 2))), .ref (gh 77 0), .int (iI 0)]) (rest := []) F hl.1 hH hS hz (c_X7_compare l g 9600 4 I R J AI AJ AR (gh 75 0) (6 * ((lo + hi) / 2)) (gh 77 0) 0 ⟨by omega, by omega⟩ ⟨by decide, by decide⟩ r_4b r_5b (by omega) (by omega) (by omega) (by omega)) (va_cwS 4 F.2.2.2.2.1 (good_up gT_X7_compare) rfl rfl rfl hdX7_compare.2 ⟨Nat.le_of_ble_eq_true rfl, Nat.le_of_ble_eq_true rfl⟩) rfl rfl (Nat.le_of_ble_eq_true rfl) dX7_placeOf_31 ⟨Nat.zero_le _, Nat.zero_le _⟩) hS (fun v_12 I_6 R_7 J_8 AI_9 AJ_10 AR_11 H locs zv_12 hp_13 hH hS => ?_)
        dsimp only at hp_13
        obtain ⟨rfl, rfl, rfl, rfl, rfl, rfl, q_14⟩ := hp_13
        refine z_if_ge (tgt := 44) F dX7_placeOf_34 (by decide) zv_12 (fun c_15 => ?_) (fun c_15 => ?_)
        · refine lv_iload_n F.1 F.2.1 dX7_placeOf_44 rfl (lv_at hl 0 rfl) ?_
          refine lv_istore_n (lv' := [(2, .int (iI ((lo + hi) / 2))), (3, .int (iI ((lo + hi) / 2))), (1, .int (iI lo)), (0, .ref mo)]) F.1 F.2.1 dX7_placeOf_45 rfl hl (by decide) rfl (fun ls hl => ?_)
          refine z_goto (tgt := 7) F dX7_placeOf_46 (by decide) ?_
          exact ih7 lo ((lo + hi) / 2) H locs ls zlo ⟨by omega, by omega⟩ (by omega) (by omega) hH hS (lv_sub hl [0, 2, 3] rfl)
        · refine lv_iload_n F.1 F.2.1 dX7_placeOf_37 rfl (lv_at hl 0 rfl) ?_
          refine z_iconst F dX7_placeOf_38 ?_
          refine z_iadd F dX7_placeOf_39 ?_
          refine lv_istore_n (lv' := [(1, .int (iI (((lo + hi) / 2) + 1))), (3, .int (iI ((lo + hi) / 2))), (2, .int (iI hi)), (0, .ref mo)]) F.1 F.2.1 dX7_placeOf_40 rfl hl (by decide) rfl (fun ls hl => ?_)
          refine z_goto (tgt := 46) F dX7_placeOf_41 (by decide) ?_
          refine z_goto (tgt := 7) F dX7_placeOf_46 (by decide) ?_
          exact ih7 (((lo + hi) / 2) + 1) hi H locs ls ⟨by omega, by omega⟩ zhi (by omega) (by omega) hH hS (lv_sub hl [2, 0, 3] rfl)
  exact cut_7_1 (((((I mo 26).toInt) - 0) + 1 : Int).toNat) 0 ((I mo 26).toInt) H locs ls ⟨by decide, by decide⟩ (zr_t _) (by omega) (by omega) hH hS (lv_sub hl [0, 1, 2] rfl)

def rmX7_gathers : Room := { frames := 2, cells := 0, slots := 0, locals := 47 }
theorem hdX7_gathers : yX7_gathers.cls = RX7 ∧ yX7_gathers.cls ≠ "java/lang/invoke/MethodHandle" ∧ yX7_gathers.cls ≠ "java/lang/invoke/VarHandle" ∧ (parseMethodDescriptor yX7_gathers.desc).map (fun d => d.parameters.length) = some 2 := by decide +kernel
set_option maxHeartbeats 4000000 in
set_option maxRecDepth 100000 in
/-- a tuple comes -/
theorem c_X7_gathers (l : Launch) (g : gG) (gh : gGh) (T : Nat → Int32) (I : gI) (R : gR) (J : gJ) (AI : gI) (AJ : gJ) (AR : gR) (mo : Nat) (cn : Int) (rd : Int) (zcn : zr cn) (zrd : zr rd) (hv : mInv g gh R I AI) (hm : gO g mo 7) (hT : AI (gh 50 0) = T) (h0 : (I mo 26).toInt ≤ 1599) : gMet l g yX7_gathers tsX7_gathers rmX7_gathers [.ref mo, .int (iI cn), .int (iI rd)] (I, R, J, AI, AJ, AR) (gQi g (fun (z : Int) (w : gS) => R = w.2.1 ∧ J = w.2.2.1 ∧ AJ = w.2.2.2.2.1 ∧ AR = w.2.2.2.2.2 ∧ (mInv g gh R (w.1) (w.2.2.2.1)) ∧ ((w.2.2.2.1) (gh 50 0) = T) ∧ (wF mo I (w.1)) ∧ ((z = 0 ∧ ((w.1) mo 26).toInt = (I mo 26).toInt) ∨ (z = 1 ∧ ((w.1) mo 26).toInt = (I mo 26).toInt + 1)))) := by
  refine gStart (cc := cX7_gathers) (maxL := 5) (ret := (some (.boolean))) (by decide) rfl (Nat.le_of_ble_eq_true rfl) ?_
  intro p e s m below meth c ls F hr hlk hH hz hS hl
  have hl : lv_has ls 5 [(0, .ref mo), (1, .int (iI cn)), (2, .int (iI rd))] := hl
  have hS : va_S (gA g) s.heap s.heap [] := hS
  obtain ⟨H, hHe⟩ : ∃ H : Heap, H = s.heap := ⟨_, rfl⟩
  obtain ⟨locs, hlo⟩ : ∃ k : List Loc, k = [] := ⟨_, rfl⟩
  have hH : gH g I R J AI AJ AR H := by rw [hHe]; exact hH
  have hS : va_S (gA g) s.heap H locs := by rw [hHe, hlo]; exact hS
  suffices hw : W p l e rmX7_gathers s m ([.ref mo, .int (iI cn), .int (iI rd)] : List Value).toArray below meth c H locs 0 0 (MQ below (gQi g (fun (z : Int) (w : gS) => R = w.2.1 ∧ J = w.2.2.1 ∧ AJ = w.2.2.2.2.1 ∧ AR = w.2.2.2.2.2 ∧ (mInv g gh R (w.1) (w.2.2.2.1)) ∧ ((w.2.2.2.1) (gh 50 0) = T) ∧ (wF mo I (w.1)) ∧ ((z = 0 ∧ ((w.1) mo 26).toInt = (I mo 26).toInt) ∨ (z = 1 ∧ ((w.1) mo 26).toInt = (I mo 26).toInt + 1)))) ([.ref mo, .int (iI cn), .int (iI rd)] : List Value).toArray s 0 0 (gA g)) (F0 m 0 ls []) by
    rw [hHe, hlo] at hw; exact hw
  clear hHe hlo
  have wf : wF mo I I := wF_r
  have iX7 : ∀ w ∈ u_ws RX7 TX7 32, w ∈ tsX7_gathers := fun w h => List.mem_cons_of_mem _ (inTB7 w h)
  have k269 : Cond.fieldLink RX7 269 (TX7 26).1 (TX7 26).2.1 (TX7 26).2.2.1 ∈ tsX7_gathers := List.mem_cons_of_mem _ fl_269
  have k42 : Cond.fieldLink RX7 42 (TX7 25).1 (TX7 25).2.1 (TX7 25).2.2.1 ∈ tsX7_gathers := List.mem_cons_of_mem _ fl_42
  have k45 : Cond.fieldLink RX7 45 (TX7 27).1 (TX7 27).2.1 (TX7 27).2.2.1 ∈ tsX7_gathers := List.mem_cons_of_mem _ fl_45
  refine lv_aload_n F.1 F.2.1 dX7_gathers_0 rfl (lv_at hl 0 rfl) ?_
  have b_1 := mJ hv hm
  unfold mNum1 at b_1
  refine g_calli (g_runV (As := []) (rest := []) (ci := 7) F hl.1 hH hS hz (c_X7_placeOf l g gh T I R J AI AJ AR mo hv hm hT) (cwV 0 F.2.2.2.2.1 (good_up gT_X7_placeOf) rfl rfl rfl hdX7_placeOf ⟨Nat.le_of_ble_eq_true rfl, Nat.le_of_ble_eq_true rfl⟩) hm (by decide) rfl rfl rfl (Nat.le_of_ble_eq_true rfl) dX7_gathers_1 ⟨Nat.zero_le _, Nat.zero_le _⟩) hS (fun v_8 I_2 R_3 J_4 AI_5 AJ_6 AR_7 H locs zv_8 hp_9 hH hS => ?_)
  dsimp only at hp_9
  obtain ⟨rfl, rfl, rfl, rfl, rfl, rfl, q_10⟩ := hp_9
  refine lv_istore_n (lv' := [(3, .int (iI v_8)), (0, .ref mo), (1, .int (iI cn)), (2, .int (iI rd))]) F.1 F.2.1 dX7_gathers_4 rfl hl (by decide) rfl (fun ls hl => ?_)
  refine lv_iload_n F.1 F.2.1 dX7_gathers_5 rfl (lv_at hl 0 rfl) ?_
  refine lv_aload_n F.1 F.2.1 dX7_gathers_6 rfl (lv_at hl 1 rfl) ?_
  refine g_getI (ci := 7) (k := 26) F hH rfl (by decide) iX7 hm (by decide) rfl k269 dX7_gathers_7 ?_
  refine z_icmp_ge (tgt := 49) F dX7_gathers_10 (by decide) zv_8 (zr_t _) (fun c_11 => ?_) (fun c_11 => ?_)
  · refine z_bipush F dX7_gathers_49 (by decide) ?_
    refine lv_aload_n F.1 F.2.1 dX7_gathers_51 rfl (lv_at hl 1 rfl) ?_
    refine g_getI (ci := 7) (k := 26) F hH rfl (by decide) iX7 hm (by decide) rfl k269 dX7_gathers_52 ?_
    refine z_imul F dX7_gathers_55 ?_
    refine z_iconst F dX7_gathers_56 ?_
    refine z_isub F dX7_gathers_57 ?_
    refine lv_istore (lv' := [(4, .int (iI ((6 * ((I mo 26).toInt)) - 1))), (3, .int (iI v_8)), (0, .ref mo), (1, .int (iI cn)), (2, .int (iI rd))]) F.1 F.2.1 dX7_gathers_58 hl (by decide) rfl (fun ls hl => ?_)
    have cut_60_12 : ∀ (NN : Nat) (i : Int) (AI_12 : gI) (H : Heap) (locs : List Loc) (ls : Array Slot), zr i → (mInv g gh R I AI_12) → (AI_12 (gh 50 0) = T) → (6 * v_8 - 1 ≤ i ∧ i ≤ 6 * (I mo 26).toInt - 1) → (i + 1) < ((NN : Nat) : Int) → gH g I R J AI_12 AJ AR H → va_S (gA g) s.heap H locs → lv_has ls 5 [(4, .int (iI i)), (3, .int (iI v_8)), (0, .ref mo), (1, .int (iI cn)), (2, .int (iI rd))] → W p l e rmX7_gathers s m ([.ref mo, .int (iI cn), .int (iI rd)] : List Value).toArray below meth c H locs 0 0 (MQ below (gQi g (fun (z : Int) (w : gS) => R = w.2.1 ∧ J = w.2.2.1 ∧ AJ = w.2.2.2.2.1 ∧ AR = w.2.2.2.2.2 ∧ (mInv g gh R (w.1) (w.2.2.2.1)) ∧ ((w.2.2.2.1) (gh 50 0) = T) ∧ (wF mo I (w.1)) ∧ ((z = 0 ∧ ((w.1) mo 26).toInt = (I mo 26).toInt) ∨ (z = 1 ∧ ((w.1) mo 26).toInt = (I mo 26).toInt + 1)))) ([.ref mo, .int (iI cn), .int (iI rd)] : List Value).toArray s 0 0 (gA g)) (F0 m 60 ls []) := by
      intro NN60
      induction NN60 with
      | zero =>
        intro i AI_12 H locs ls zi hv hT hi hm60 hH hS hl
        exact absurd hm60 (by omega)
      | succ NN60 ih60 =>
        intro i AI_12 H locs ls zi hv hT hi hm60 hH hS hl
        refine lv_iload F.1 F.2.1 dX7_gathers_60 (lv_at hl 0 rfl) ?_
        refine z_bipush F dX7_gathers_62 (by decide) ?_
        refine lv_iload_n F.1 F.2.1 dX7_gathers_64 rfl (lv_at hl 1 rfl) ?_
        refine z_imul F dX7_gathers_65 ?_
        refine z_icmp_lt (tgt := 92) F dX7_gathers_66 (by decide) zi ⟨by omega, by omega⟩ (fun c_14 => ?_) (fun c_14 => ?_)
        · refine z_iconst F dX7_gathers_92 ?_
          refine lv_istore (lv' := [(4, .int (iI 0)), (3, .int (iI v_8)), (0, .ref mo), (1, .int (iI cn)), (2, .int (iI rd))]) F.1 F.2.1 dX7_gathers_93 hl (by decide) rfl (fun ls hl => ?_)
          have cut_95_15 : ∀ (NN : Nat) (i : Int) (AI_15 : gI) (H : Heap) (locs : List Loc) (ls : Array Slot), zr i → (mInv g gh R I AI_15) → (AI_15 (gh 50 0) = T) → (0 ≤ i ∧ i ≤ 4) → (4 - i) < ((NN : Nat) : Int) → gH g I R J AI_15 AJ AR H → va_S (gA g) s.heap H locs → lv_has ls 5 [(4, .int (iI i)), (3, .int (iI v_8)), (0, .ref mo), (1, .int (iI cn)), (2, .int (iI rd))] → W p l e rmX7_gathers s m ([.ref mo, .int (iI cn), .int (iI rd)] : List Value).toArray below meth c H locs 0 0 (MQ below (gQi g (fun (z : Int) (w : gS) => R = w.2.1 ∧ J = w.2.2.1 ∧ AJ = w.2.2.2.2.1 ∧ AR = w.2.2.2.2.2 ∧ (mInv g gh R (w.1) (w.2.2.2.1)) ∧ ((w.2.2.2.1) (gh 50 0) = T) ∧ (wF mo I (w.1)) ∧ ((z = 0 ∧ ((w.1) mo 26).toInt = (I mo 26).toInt) ∨ (z = 1 ∧ ((w.1) mo 26).toInt = (I mo 26).toInt + 1)))) ([.ref mo, .int (iI cn), .int (iI rd)] : List Value).toArray s 0 0 (gA g)) (F0 m 95 ls []) := by
            intro NN95
            induction NN95 with
            | zero =>
              intro i AI_15 H locs ls zi hv hT hi2 hm95 hH hS hl
              exact absurd hm95 (by omega)
            | succ NN95 ih95 =>
              intro i AI_15 H locs ls zi hv hT hi2 hm95 hH hS hl
              refine lv_iload F.1 F.2.1 dX7_gathers_95 (lv_at hl 0 rfl) ?_
              refine z_iconst F dX7_gathers_97 ?_
              refine z_icmp_ge (tgt := 126) F dX7_gathers_98 (by decide) zi ⟨by decide, by decide⟩ (fun c_17 => ?_) (fun c_17 => ?_)
              · refine lv_aload_n F.1 F.2.1 dX7_gathers_126 rfl (lv_at hl 2 rfl) ?_
                obtain ⟨r_18a, r_18b⟩ : R mo 25 = some (gh 75 0) ∧ gAr g (gh 75 0) 9 9600 := mR hv hm (q := (25, 9600)) (by decide)
                refine g_getR (ci := 7) (k := 25) F hH rfl (by decide) iX7 hm (by decide) rfl (b := gh 75 0) r_18a k42 dX7_gathers_127 ?_
                refine z_bipush F dX7_gathers_130 (by decide) ?_
                refine lv_iload_n F.1 F.2.1 dX7_gathers_132 rfl (lv_at hl 1 rfl) ?_
                refine z_imul F dX7_gathers_133 ?_
                refine z_iconst F dX7_gathers_134 ?_
                refine z_iadd F dX7_gathers_135 ?_
                refine lv_iload_n F.1 F.2.1 dX7_gathers_136 rfl (lv_at hl 3 rfl) ?_
                have hx137 : 0 ≤ ((6 * v_8) + 4) ∧ ((6 * v_8) + 4) < ((9600 : Nat) : Int) ∧ ((6 * v_8) + 4) ≤ 2147483647 := ⟨by omega, by omega, by omega⟩
                refine g_iast F hH hS r_18b hx137.1 hx137.2.1 hx137.2.2 dX7_gathers_137 (fun H locs hH hS => ?_)
                obtain ⟨AI_19, eAI_19⟩ : ∃ qQ, qQ = gup2 AI_15 (gh 75 0) (((6 * v_8) + 4)).toNat (iI (cn)) := ⟨_, rfl⟩
                rw [← eAI_19] at hH
                have kAI_19 : ∀ b, b ≠ (gh 75 0) → AI_19 b = AI_15 b := fun b hb => by rw [eAI_19]; exact funext fun j => gup2_a _ _ hb
                have t_20 : AI_19 (gh 50 0) = AI_15 (gh 50 0) := mK hv hm (p := (0, 640)) (q := (25, 9600)) (by decide) (by decide) (by decide) kAI_19
                have hv : mInv g gh R I AI_19 := mInv_a hv hm (q := (25, 9600)) (by decide) (by decide) kAI_19
                have hT : AI_19 (gh 50 0) = T := t_20.trans hT
                refine lv_aload_n F.1 F.2.1 dX7_gathers_138 rfl (lv_at hl 2 rfl) ?_
                refine g_getR (ci := 7) (k := 25) F hH rfl (by decide) iX7 hm (by decide) rfl (b := gh 75 0) r_18a k42 dX7_gathers_139 ?_
                refine z_bipush F dX7_gathers_142 (by decide) ?_
                refine lv_iload_n F.1 F.2.1 dX7_gathers_144 rfl (lv_at hl 1 rfl) ?_
                refine z_imul F dX7_gathers_145 ?_
                refine z_iconst F dX7_gathers_146 ?_
                refine z_iadd F dX7_gathers_147 ?_
                refine lv_iload_n F.1 F.2.1 dX7_gathers_148 rfl (lv_at hl 4 rfl) ?_
                have hx149 : 0 ≤ ((6 * v_8) + 5) ∧ ((6 * v_8) + 5) < ((9600 : Nat) : Int) ∧ ((6 * v_8) + 5) ≤ 2147483647 := ⟨by omega, by omega, by omega⟩
                refine g_iast F hH hS r_18b hx149.1 hx149.2.1 hx149.2.2 dX7_gathers_149 (fun H locs hH hS => ?_)
                obtain ⟨AI_21, eAI_21⟩ : ∃ qQ, qQ = gup2 AI_19 (gh 75 0) (((6 * v_8) + 5)).toNat (iI (rd)) := ⟨_, rfl⟩
                rw [← eAI_21] at hH
                have kAI_21 : ∀ b, b ≠ (gh 75 0) → AI_21 b = AI_19 b := fun b hb => by rw [eAI_21]; exact funext fun j => gup2_a _ _ hb
                have t_22 : AI_21 (gh 50 0) = AI_19 (gh 50 0) := mK hv hm (p := (0, 640)) (q := (25, 9600)) (by decide) (by decide) (by decide) kAI_21
                have hv : mInv g gh R I AI_21 := mInv_a hv hm (q := (25, 9600)) (by decide) (by decide) kAI_21
                have hT : AI_21 (gh 50 0) = T := t_22.trans hT
                refine lv_aload_n F.1 F.2.1 dX7_gathers_150 rfl (lv_at hl 2 rfl) ?_
                refine lv_dup F.1 F.2.1 dX7_gathers_151 rfl ?_
                refine g_getI (ci := 7) (k := 26) F hH rfl (by decide) iX7 hm (by decide) rfl k269 dX7_gathers_152 ?_
                refine z_iconst F dX7_gathers_155 ?_
                refine z_iadd F dX7_gathers_156 ?_
                refine g_putI (ci := 7) (k := 26) F hH hS rfl (by decide) iX7 hm (by decide) tyX7 tyX7_ok nmX7 rfl rfl rfl k269 dX7_gathers_157 (fun H locs hH hS => ?_)
                obtain ⟨I_23, eI_23⟩ : ∃ qQ, qQ = gup2 I mo 26 (iI (((I mo 26).toInt) + 1)) := ⟨_, rfl⟩
                rw [← eI_23] at hH
                have kI_23 : ∀ b, b ≠ mo → I_23 b = I b := fun b hb => by rw [eI_23]; exact funext fun j => gup2_a _ _ hb
                have w_24 : (I_23 mo 26).toInt = ((I mo 26).toInt) + 1 := by rw [eI_23, gup2_s]; exact iI_val ⟨by omega, by omega⟩
                have hv : mInv g gh R I_23 AI_21 := by rw [eI_23]; exact mP26 hv hm (by omega) (by omega)
                have wf : wF mo I I_23 := wF_t wf (by rw [eI_23]; exact wF_p)
                have u_25_2 : (I_23 mo 2).toInt = (I mo 2).toInt := by rw [wf 2 (by decide)]
                have u_25_5 : (I_23 mo 5).toInt = (I mo 5).toInt := by rw [wf 5 (by decide)]
                have u_25_14 : (I_23 mo 14).toInt = (I mo 14).toInt := by rw [wf 14 (by decide)]
                have u_25_16 : (I_23 mo 16).toInt = (I mo 16).toInt := by rw [wf 16 (by decide)]
                have u_25_24 : (I_23 mo 24).toInt = (I mo 24).toInt := by rw [wf 24 (by decide)]
                refine z_iconst F dX7_gathers_160 ?_
                exact g_zret F hr hlk hH hS hz (by omega) ⟨rfl, rfl, rfl, rfl, hv, hT, wf, by first | omega | rfl | (dsimp only; omega)⟩ dX7_gathers_161
              · refine lv_aload_n F.1 F.2.1 dX7_gathers_101 rfl (lv_at hl 2 rfl) ?_
                obtain ⟨r_26a, r_26b⟩ : R mo 25 = some (gh 75 0) ∧ gAr g (gh 75 0) 9 9600 := mR hv hm (q := (25, 9600)) (by decide)
                refine g_getR (ci := 7) (k := 25) F hH rfl (by decide) iX7 hm (by decide) rfl (b := gh 75 0) r_26a k42 dX7_gathers_102 ?_
                refine z_bipush F dX7_gathers_105 (by decide) ?_
                refine lv_iload_n F.1 F.2.1 dX7_gathers_107 rfl (lv_at hl 1 rfl) ?_
                refine z_imul F dX7_gathers_108 ?_
                refine lv_iload F.1 F.2.1 dX7_gathers_109 (lv_at hl 0 rfl) ?_
                refine z_iadd F dX7_gathers_111 ?_
                refine lv_aload_n F.1 F.2.1 dX7_gathers_112 rfl (lv_at hl 2 rfl) ?_
                obtain ⟨r_27a, r_27b⟩ : R mo 27 = some (gh 77 0) ∧ gAr g (gh 77 0) 9 4 := mR hv hm (q := (27, 4)) (by decide)
                refine g_getR (ci := 7) (k := 27) F hH rfl (by decide) iX7 hm (by decide) rfl (b := gh 77 0) r_27a k45 dX7_gathers_113 ?_
                refine lv_iload F.1 F.2.1 dX7_gathers_116 (lv_at hl 0 rfl) ?_
                have hx118 : 0 ≤ i ∧ i < ((4 : Nat) : Int) ∧ i ≤ 2147483647 := ⟨by omega, by omega, by omega⟩
                refine g_iald F hH r_27b hx118.1 hx118.2.1 hx118.2.2 dX7_gathers_118 ?_
                refine z_name (fun v_28 ev_28 => ?_)
                have zv_28 : zr v_28 := by rw [ev_28]; exact zr_t _
                have hx119 : 0 ≤ ((6 * v_8) + i) ∧ ((6 * v_8) + i) < ((9600 : Nat) : Int) ∧ ((6 * v_8) + i) ≤ 2147483647 := ⟨by omega, by omega, by omega⟩
                refine g_iast F hH hS r_26b hx119.1 hx119.2.1 hx119.2.2 dX7_gathers_119 (fun H locs hH hS => ?_)
                obtain ⟨AI_29, eAI_29⟩ : ∃ qQ, qQ = gup2 AI_15 (gh 75 0) (((6 * v_8) + i)).toNat (iI (v_28)) := ⟨_, rfl⟩
                rw [← eAI_29] at hH
                have kAI_29 : ∀ b, b ≠ (gh 75 0) → AI_29 b = AI_15 b := fun b hb => by rw [eAI_29]; exact funext fun j => gup2_a _ _ hb
                have t_30 : AI_29 (gh 50 0) = AI_15 (gh 50 0) := mK hv hm (p := (0, 640)) (q := (25, 9600)) (by decide) (by decide) (by decide) kAI_29
                have hv : mInv g gh R I AI_29 := mInv_a hv hm (q := (25, 9600)) (by decide) (by decide) kAI_29
                have hT : AI_29 (gh 50 0) = T := t_30.trans hT
                refine z_iinc (lv' := [(4, .int (iI (i + 1))), (3, .int (iI v_8)), (0, .ref mo), (1, .int (iI cn)), (2, .int (iI rd))]) F dX7_gathers_120 hl (k := 0) rfl (by decide) rfl (fun ls hl => ?_)
                refine z_goto (tgt := 95) F dX7_gathers_123 (by decide) ?_
                exact ih95 (i + 1) AI_29 H locs ls ⟨by omega, by omega⟩ hv hT (by omega) (by omega) hH hS (lv_sub hl [0, 1, 2, 3, 4] rfl)
          exact cut_95_15 (((4 - 0) + 1 : Int).toNat) 0 AI_12 H locs ls ⟨by decide, by decide⟩ hv hT (by omega) (by omega) hH hS (lv_sub hl [0, 1, 2, 3, 4] rfl)
        · refine lv_aload_n F.1 F.2.1 dX7_gathers_69 rfl (lv_at hl 2 rfl) ?_
          obtain ⟨r_31a, r_31b⟩ : R mo 25 = some (gh 75 0) ∧ gAr g (gh 75 0) 9 9600 := mR hv hm (q := (25, 9600)) (by decide)
          refine g_getR (ci := 7) (k := 25) F hH rfl (by decide) iX7 hm (by decide) rfl (b := gh 75 0) r_31a k42 dX7_gathers_70 ?_
          refine lv_iload F.1 F.2.1 dX7_gathers_73 (lv_at hl 0 rfl) ?_
          refine z_bipush F dX7_gathers_75 (by decide) ?_
          refine z_iadd F dX7_gathers_77 ?_
          refine lv_aload_n F.1 F.2.1 dX7_gathers_78 rfl (lv_at hl 2 rfl) ?_
          refine g_getR (ci := 7) (k := 25) F hH rfl (by decide) iX7 hm (by decide) rfl (b := gh 75 0) r_31a k42 dX7_gathers_79 ?_
          refine lv_iload F.1 F.2.1 dX7_gathers_82 (lv_at hl 0 rfl) ?_
          have hx84 : 0 ≤ i ∧ i < ((9600 : Nat) : Int) ∧ i ≤ 2147483647 := ⟨by omega, by omega, by omega⟩
          refine g_iald F hH r_31b hx84.1 hx84.2.1 hx84.2.2 dX7_gathers_84 ?_
          refine z_name (fun v_32 ev_32 => ?_)
          have zv_32 : zr v_32 := by rw [ev_32]; exact zr_t _
          have hx85 : 0 ≤ (i + 6) ∧ (i + 6) < ((9600 : Nat) : Int) ∧ (i + 6) ≤ 2147483647 := ⟨by omega, by omega, by omega⟩
          refine g_iast F hH hS r_31b hx85.1 hx85.2.1 hx85.2.2 dX7_gathers_85 (fun H locs hH hS => ?_)
          obtain ⟨AI_33, eAI_33⟩ : ∃ qQ, qQ = gup2 AI_12 (gh 75 0) ((i + 6)).toNat (iI (v_32)) := ⟨_, rfl⟩
          rw [← eAI_33] at hH
          have kAI_33 : ∀ b, b ≠ (gh 75 0) → AI_33 b = AI_12 b := fun b hb => by rw [eAI_33]; exact funext fun j => gup2_a _ _ hb
          have t_34 : AI_33 (gh 50 0) = AI_12 (gh 50 0) := mK hv hm (p := (0, 640)) (q := (25, 9600)) (by decide) (by decide) (by decide) kAI_33
          have hv : mInv g gh R I AI_33 := mInv_a hv hm (q := (25, 9600)) (by decide) (by decide) kAI_33
          have hT : AI_33 (gh 50 0) = T := t_34.trans hT
          refine z_iinc (lv' := [(4, .int (iI (i + (-1)))), (3, .int (iI v_8)), (0, .ref mo), (1, .int (iI cn)), (2, .int (iI rd))]) F dX7_gathers_86 hl (k := 0) rfl (by decide) rfl (fun ls hl => ?_)
          refine z_goto (tgt := 60) F dX7_gathers_89 (by decide) ?_
          exact ih60 (i + (-1)) AI_33 H locs ls ⟨by omega, by omega⟩ hv hT (by omega) (by omega) hH hS (lv_sub hl [0, 1, 2, 3, 4] rfl)
    exact cut_60_12 (((((6 * ((I mo 26).toInt)) - 1) + 1) + 1 : Int).toNat) ((6 * ((I mo 26).toInt)) - 1) AI H locs ls ⟨by omega, by omega⟩ hv hT (by omega) (by omega) hH hS (lv_sub hl [0, 1, 2, 3, 4] rfl)
  · refine lv_aload_n F.1 F.2.1 dX7_gathers_13 rfl (lv_at hl 1 rfl) ?_
    obtain ⟨r_35a, r_35b⟩ : R mo 25 = some (gh 75 0) ∧ gAr g (gh 75 0) 9 9600 := mR hv hm (q := (25, 9600)) (by decide)
    refine g_getR (ci := 7) (k := 25) F hH rfl (by decide) iX7 hm (by decide) rfl (b := gh 75 0) r_35a k42 dX7_gathers_14 ?_
    refine z_bipush F dX7_gathers_17 (by decide) ?_
    refine lv_iload_n F.1 F.2.1 dX7_gathers_19 rfl (lv_at hl 0 rfl) ?_
    refine z_imul F dX7_gathers_20 ?_
    refine lv_aload_n F.1 F.2.1 dX7_gathers_21 rfl (lv_at hl 1 rfl) ?_
    obtain ⟨r_36a, r_36b⟩ : R mo 27 = some (gh 77 0) ∧ gAr g (gh 77 0) 9 4 := mR hv hm (q := (27, 4)) (by decide)
    refine g_getR (ci := 7) (k := 27) F hH rfl (by decide) iX7 hm (by decide) rfl (b := gh 77 0) r_36a k45 dX7_gathers_22 ?_
    refine z_iconst F dX7_gathers_25 ?_
    refine g_calli (g_runS (As := [.ref (gh 75 0), .int (iI (6 * v_8)), .ref (gh 77 0), .int (iI 0)]) (rest := []) F hl.1 hH hS hz (c_X7_compare l g 9600 4 I R J AI AJ AR (gh 75 0) (6 * v_8) (gh 77 0) 0 ⟨by omega, by omega⟩ ⟨by decide, by decide⟩ r_35b r_36b (by omega) (by omega) (by omega) (by omega)) (va_cwS 4 F.2.2.2.2.1 (good_up gT_X7_compare) rfl rfl rfl hdX7_compare.2 ⟨Nat.le_of_ble_eq_true rfl, Nat.le_of_ble_eq_true rfl⟩) rfl rfl (Nat.le_of_ble_eq_true rfl) dX7_gathers_26 ⟨Nat.zero_le _, Nat.zero_le _⟩) hS (fun v_43 I_37 R_38 J_39 AI_40 AJ_41 AR_42 H locs zv_43 hp_44 hH hS => ?_)
    dsimp only at hp_44
    obtain ⟨rfl, rfl, rfl, rfl, rfl, rfl, q_45⟩ := hp_44
    refine z_if_ne (tgt := 49) F dX7_gathers_29 (by decide) zv_43 (fun c_46 => ?_) (fun c_46 => ?_)
    · refine z_bipush F dX7_gathers_49 (by decide) ?_
      refine lv_aload_n F.1 F.2.1 dX7_gathers_51 rfl (lv_at hl 1 rfl) ?_
      refine g_getI (ci := 7) (k := 26) F hH rfl (by decide) iX7 hm (by decide) rfl k269 dX7_gathers_52 ?_
      refine z_imul F dX7_gathers_55 ?_
      refine z_iconst F dX7_gathers_56 ?_
      refine z_isub F dX7_gathers_57 ?_
      refine lv_istore (lv' := [(4, .int (iI ((6 * ((I mo 26).toInt)) - 1))), (3, .int (iI v_8)), (0, .ref mo), (1, .int (iI cn)), (2, .int (iI rd))]) F.1 F.2.1 dX7_gathers_58 hl (by decide) rfl (fun ls hl => ?_)
      have cut_60_47 : ∀ (NN : Nat) (i : Int) (AI_47 : gI) (H : Heap) (locs : List Loc) (ls : Array Slot), zr i → (mInv g gh R I AI_47) → (AI_47 (gh 50 0) = T) → (6 * v_8 - 1 ≤ i ∧ i ≤ 6 * (I mo 26).toInt - 1) → (i + 1) < ((NN : Nat) : Int) → gH g I R J AI_47 AJ AR H → va_S (gA g) s.heap H locs → lv_has ls 5 [(4, .int (iI i)), (3, .int (iI v_8)), (0, .ref mo), (1, .int (iI cn)), (2, .int (iI rd))] → W p l e rmX7_gathers s m ([.ref mo, .int (iI cn), .int (iI rd)] : List Value).toArray below meth c H locs 0 0 (MQ below (gQi g (fun (z : Int) (w : gS) => R = w.2.1 ∧ J = w.2.2.1 ∧ AJ = w.2.2.2.2.1 ∧ AR = w.2.2.2.2.2 ∧ (mInv g gh R (w.1) (w.2.2.2.1)) ∧ ((w.2.2.2.1) (gh 50 0) = T) ∧ (wF mo I (w.1)) ∧ ((z = 0 ∧ ((w.1) mo 26).toInt = (I mo 26).toInt) ∨ (z = 1 ∧ ((w.1) mo 26).toInt = (I mo 26).toInt + 1)))) ([.ref mo, .int (iI cn), .int (iI rd)] : List Value).toArray s 0 0 (gA g)) (F0 m 60 ls []) := by
        intro NN60
        induction NN60 with
        | zero =>
          intro i AI_47 H locs ls zi hv hT hi hm60 hH hS hl
          exact absurd hm60 (by omega)
        | succ NN60 ih60 =>
          intro i AI_47 H locs ls zi hv hT hi hm60 hH hS hl
          refine lv_iload F.1 F.2.1 dX7_gathers_60 (lv_at hl 0 rfl) ?_
          refine z_bipush F dX7_gathers_62 (by decide) ?_
          refine lv_iload_n F.1 F.2.1 dX7_gathers_64 rfl (lv_at hl 1 rfl) ?_
          refine z_imul F dX7_gathers_65 ?_
          refine z_icmp_lt (tgt := 92) F dX7_gathers_66 (by decide) zi ⟨by omega, by omega⟩ (fun c_49 => ?_) (fun c_49 => ?_)
          · refine z_iconst F dX7_gathers_92 ?_
            refine lv_istore (lv' := [(4, .int (iI 0)), (3, .int (iI v_8)), (0, .ref mo), (1, .int (iI cn)), (2, .int (iI rd))]) F.1 F.2.1 dX7_gathers_93 hl (by decide) rfl (fun ls hl => ?_)
            have cut_95_50 : ∀ (NN : Nat) (i : Int) (AI_50 : gI) (H : Heap) (locs : List Loc) (ls : Array Slot), zr i → (mInv g gh R I AI_50) → (AI_50 (gh 50 0) = T) → (0 ≤ i ∧ i ≤ 4) → (4 - i) < ((NN : Nat) : Int) → gH g I R J AI_50 AJ AR H → va_S (gA g) s.heap H locs → lv_has ls 5 [(4, .int (iI i)), (3, .int (iI v_8)), (0, .ref mo), (1, .int (iI cn)), (2, .int (iI rd))] → W p l e rmX7_gathers s m ([.ref mo, .int (iI cn), .int (iI rd)] : List Value).toArray below meth c H locs 0 0 (MQ below (gQi g (fun (z : Int) (w : gS) => R = w.2.1 ∧ J = w.2.2.1 ∧ AJ = w.2.2.2.2.1 ∧ AR = w.2.2.2.2.2 ∧ (mInv g gh R (w.1) (w.2.2.2.1)) ∧ ((w.2.2.2.1) (gh 50 0) = T) ∧ (wF mo I (w.1)) ∧ ((z = 0 ∧ ((w.1) mo 26).toInt = (I mo 26).toInt) ∨ (z = 1 ∧ ((w.1) mo 26).toInt = (I mo 26).toInt + 1)))) ([.ref mo, .int (iI cn), .int (iI rd)] : List Value).toArray s 0 0 (gA g)) (F0 m 95 ls []) := by
              intro NN95
              induction NN95 with
              | zero =>
                intro i AI_50 H locs ls zi hv hT hi2 hm95 hH hS hl
                exact absurd hm95 (by omega)
              | succ NN95 ih95 =>
                intro i AI_50 H locs ls zi hv hT hi2 hm95 hH hS hl
                refine lv_iload F.1 F.2.1 dX7_gathers_95 (lv_at hl 0 rfl) ?_
                refine z_iconst F dX7_gathers_97 ?_
                refine z_icmp_ge (tgt := 126) F dX7_gathers_98 (by decide) zi ⟨by decide, by decide⟩ (fun c_52 => ?_) (fun c_52 => ?_)
                · refine lv_aload_n F.1 F.2.1 dX7_gathers_126 rfl (lv_at hl 2 rfl) ?_
                  refine g_getR (ci := 7) (k := 25) F hH rfl (by decide) iX7 hm (by decide) rfl (b := gh 75 0) r_35a k42 dX7_gathers_127 ?_
                  refine z_bipush F dX7_gathers_130 (by decide) ?_
                  refine lv_iload_n F.1 F.2.1 dX7_gathers_132 rfl (lv_at hl 1 rfl) ?_
                  refine z_imul F dX7_gathers_133 ?_
                  refine z_iconst F dX7_gathers_134 ?_
                  refine z_iadd F dX7_gathers_135 ?_
                  refine lv_iload_n F.1 F.2.1 dX7_gathers_136 rfl (lv_at hl 3 rfl) ?_
                  have hx137 : 0 ≤ ((6 * v_8) + 4) ∧ ((6 * v_8) + 4) < ((9600 : Nat) : Int) ∧ ((6 * v_8) + 4) ≤ 2147483647 := ⟨by omega, by omega, by omega⟩
                  refine g_iast F hH hS r_35b hx137.1 hx137.2.1 hx137.2.2 dX7_gathers_137 (fun H locs hH hS => ?_)
                  obtain ⟨AI_53, eAI_53⟩ : ∃ qQ, qQ = gup2 AI_50 (gh 75 0) (((6 * v_8) + 4)).toNat (iI (cn)) := ⟨_, rfl⟩
                  rw [← eAI_53] at hH
                  have kAI_53 : ∀ b, b ≠ (gh 75 0) → AI_53 b = AI_50 b := fun b hb => by rw [eAI_53]; exact funext fun j => gup2_a _ _ hb
                  have t_54 : AI_53 (gh 50 0) = AI_50 (gh 50 0) := mK hv hm (p := (0, 640)) (q := (25, 9600)) (by decide) (by decide) (by decide) kAI_53
                  have hv : mInv g gh R I AI_53 := mInv_a hv hm (q := (25, 9600)) (by decide) (by decide) kAI_53
                  have hT : AI_53 (gh 50 0) = T := t_54.trans hT
                  refine lv_aload_n F.1 F.2.1 dX7_gathers_138 rfl (lv_at hl 2 rfl) ?_
                  refine g_getR (ci := 7) (k := 25) F hH rfl (by decide) iX7 hm (by decide) rfl (b := gh 75 0) r_35a k42 dX7_gathers_139 ?_
                  refine z_bipush F dX7_gathers_142 (by decide) ?_
                  refine lv_iload_n F.1 F.2.1 dX7_gathers_144 rfl (lv_at hl 1 rfl) ?_
                  refine z_imul F dX7_gathers_145 ?_
                  refine z_iconst F dX7_gathers_146 ?_
                  refine z_iadd F dX7_gathers_147 ?_
                  refine lv_iload_n F.1 F.2.1 dX7_gathers_148 rfl (lv_at hl 4 rfl) ?_
                  have hx149 : 0 ≤ ((6 * v_8) + 5) ∧ ((6 * v_8) + 5) < ((9600 : Nat) : Int) ∧ ((6 * v_8) + 5) ≤ 2147483647 := ⟨by omega, by omega, by omega⟩
                  refine g_iast F hH hS r_35b hx149.1 hx149.2.1 hx149.2.2 dX7_gathers_149 (fun H locs hH hS => ?_)
                  obtain ⟨AI_55, eAI_55⟩ : ∃ qQ, qQ = gup2 AI_53 (gh 75 0) (((6 * v_8) + 5)).toNat (iI (rd)) := ⟨_, rfl⟩
                  rw [← eAI_55] at hH
                  have kAI_55 : ∀ b, b ≠ (gh 75 0) → AI_55 b = AI_53 b := fun b hb => by rw [eAI_55]; exact funext fun j => gup2_a _ _ hb
                  have t_56 : AI_55 (gh 50 0) = AI_53 (gh 50 0) := mK hv hm (p := (0, 640)) (q := (25, 9600)) (by decide) (by decide) (by decide) kAI_55
                  have hv : mInv g gh R I AI_55 := mInv_a hv hm (q := (25, 9600)) (by decide) (by decide) kAI_55
                  have hT : AI_55 (gh 50 0) = T := t_56.trans hT
                  refine lv_aload_n F.1 F.2.1 dX7_gathers_150 rfl (lv_at hl 2 rfl) ?_
                  refine lv_dup F.1 F.2.1 dX7_gathers_151 rfl ?_
                  refine g_getI (ci := 7) (k := 26) F hH rfl (by decide) iX7 hm (by decide) rfl k269 dX7_gathers_152 ?_
                  refine z_iconst F dX7_gathers_155 ?_
                  refine z_iadd F dX7_gathers_156 ?_
                  refine g_putI (ci := 7) (k := 26) F hH hS rfl (by decide) iX7 hm (by decide) tyX7 tyX7_ok nmX7 rfl rfl rfl k269 dX7_gathers_157 (fun H locs hH hS => ?_)
                  obtain ⟨I_57, eI_57⟩ : ∃ qQ, qQ = gup2 I mo 26 (iI (((I mo 26).toInt) + 1)) := ⟨_, rfl⟩
                  rw [← eI_57] at hH
                  have kI_57 : ∀ b, b ≠ mo → I_57 b = I b := fun b hb => by rw [eI_57]; exact funext fun j => gup2_a _ _ hb
                  have w_58 : (I_57 mo 26).toInt = ((I mo 26).toInt) + 1 := by rw [eI_57, gup2_s]; exact iI_val ⟨by omega, by omega⟩
                  have hv : mInv g gh R I_57 AI_55 := by rw [eI_57]; exact mP26 hv hm (by omega) (by omega)
                  have wf : wF mo I I_57 := wF_t wf (by rw [eI_57]; exact wF_p)
                  have u_59_2 : (I_57 mo 2).toInt = (I mo 2).toInt := by rw [wf 2 (by decide)]
                  have u_59_5 : (I_57 mo 5).toInt = (I mo 5).toInt := by rw [wf 5 (by decide)]
                  have u_59_14 : (I_57 mo 14).toInt = (I mo 14).toInt := by rw [wf 14 (by decide)]
                  have u_59_16 : (I_57 mo 16).toInt = (I mo 16).toInt := by rw [wf 16 (by decide)]
                  have u_59_24 : (I_57 mo 24).toInt = (I mo 24).toInt := by rw [wf 24 (by decide)]
                  refine z_iconst F dX7_gathers_160 ?_
                  exact g_zret F hr hlk hH hS hz (by omega) ⟨rfl, rfl, rfl, rfl, hv, hT, wf, by first | omega | rfl | (dsimp only; omega)⟩ dX7_gathers_161
                · refine lv_aload_n F.1 F.2.1 dX7_gathers_101 rfl (lv_at hl 2 rfl) ?_
                  refine g_getR (ci := 7) (k := 25) F hH rfl (by decide) iX7 hm (by decide) rfl (b := gh 75 0) r_35a k42 dX7_gathers_102 ?_
                  refine z_bipush F dX7_gathers_105 (by decide) ?_
                  refine lv_iload_n F.1 F.2.1 dX7_gathers_107 rfl (lv_at hl 1 rfl) ?_
                  refine z_imul F dX7_gathers_108 ?_
                  refine lv_iload F.1 F.2.1 dX7_gathers_109 (lv_at hl 0 rfl) ?_
                  refine z_iadd F dX7_gathers_111 ?_
                  refine lv_aload_n F.1 F.2.1 dX7_gathers_112 rfl (lv_at hl 2 rfl) ?_
                  refine g_getR (ci := 7) (k := 27) F hH rfl (by decide) iX7 hm (by decide) rfl (b := gh 77 0) r_36a k45 dX7_gathers_113 ?_
                  refine lv_iload F.1 F.2.1 dX7_gathers_116 (lv_at hl 0 rfl) ?_
                  have hx118 : 0 ≤ i ∧ i < ((4 : Nat) : Int) ∧ i ≤ 2147483647 := ⟨by omega, by omega, by omega⟩
                  refine g_iald F hH r_36b hx118.1 hx118.2.1 hx118.2.2 dX7_gathers_118 ?_
                  refine z_name (fun v_60 ev_60 => ?_)
                  have zv_60 : zr v_60 := by rw [ev_60]; exact zr_t _
                  have hx119 : 0 ≤ ((6 * v_8) + i) ∧ ((6 * v_8) + i) < ((9600 : Nat) : Int) ∧ ((6 * v_8) + i) ≤ 2147483647 := ⟨by omega, by omega, by omega⟩
                  refine g_iast F hH hS r_35b hx119.1 hx119.2.1 hx119.2.2 dX7_gathers_119 (fun H locs hH hS => ?_)
                  obtain ⟨AI_61, eAI_61⟩ : ∃ qQ, qQ = gup2 AI_50 (gh 75 0) (((6 * v_8) + i)).toNat (iI (v_60)) := ⟨_, rfl⟩
                  rw [← eAI_61] at hH
                  have kAI_61 : ∀ b, b ≠ (gh 75 0) → AI_61 b = AI_50 b := fun b hb => by rw [eAI_61]; exact funext fun j => gup2_a _ _ hb
                  have t_62 : AI_61 (gh 50 0) = AI_50 (gh 50 0) := mK hv hm (p := (0, 640)) (q := (25, 9600)) (by decide) (by decide) (by decide) kAI_61
                  have hv : mInv g gh R I AI_61 := mInv_a hv hm (q := (25, 9600)) (by decide) (by decide) kAI_61
                  have hT : AI_61 (gh 50 0) = T := t_62.trans hT
                  refine z_iinc (lv' := [(4, .int (iI (i + 1))), (3, .int (iI v_8)), (0, .ref mo), (1, .int (iI cn)), (2, .int (iI rd))]) F dX7_gathers_120 hl (k := 0) rfl (by decide) rfl (fun ls hl => ?_)
                  refine z_goto (tgt := 95) F dX7_gathers_123 (by decide) ?_
                  exact ih95 (i + 1) AI_61 H locs ls ⟨by omega, by omega⟩ hv hT (by omega) (by omega) hH hS (lv_sub hl [0, 1, 2, 3, 4] rfl)
            exact cut_95_50 (((4 - 0) + 1 : Int).toNat) 0 AI_47 H locs ls ⟨by decide, by decide⟩ hv hT (by omega) (by omega) hH hS (lv_sub hl [0, 1, 2, 3, 4] rfl)
          · refine lv_aload_n F.1 F.2.1 dX7_gathers_69 rfl (lv_at hl 2 rfl) ?_
            refine g_getR (ci := 7) (k := 25) F hH rfl (by decide) iX7 hm (by decide) rfl (b := gh 75 0) r_35a k42 dX7_gathers_70 ?_
            refine lv_iload F.1 F.2.1 dX7_gathers_73 (lv_at hl 0 rfl) ?_
            refine z_bipush F dX7_gathers_75 (by decide) ?_
            refine z_iadd F dX7_gathers_77 ?_
            refine lv_aload_n F.1 F.2.1 dX7_gathers_78 rfl (lv_at hl 2 rfl) ?_
            refine g_getR (ci := 7) (k := 25) F hH rfl (by decide) iX7 hm (by decide) rfl (b := gh 75 0) r_35a k42 dX7_gathers_79 ?_
            refine lv_iload F.1 F.2.1 dX7_gathers_82 (lv_at hl 0 rfl) ?_
            have hx84 : 0 ≤ i ∧ i < ((9600 : Nat) : Int) ∧ i ≤ 2147483647 := ⟨by omega, by omega, by omega⟩
            refine g_iald F hH r_35b hx84.1 hx84.2.1 hx84.2.2 dX7_gathers_84 ?_
            refine z_name (fun v_63 ev_63 => ?_)
            have zv_63 : zr v_63 := by rw [ev_63]; exact zr_t _
            have hx85 : 0 ≤ (i + 6) ∧ (i + 6) < ((9600 : Nat) : Int) ∧ (i + 6) ≤ 2147483647 := ⟨by omega, by omega, by omega⟩
            refine g_iast F hH hS r_35b hx85.1 hx85.2.1 hx85.2.2 dX7_gathers_85 (fun H locs hH hS => ?_)
            obtain ⟨AI_64, eAI_64⟩ : ∃ qQ, qQ = gup2 AI_47 (gh 75 0) ((i + 6)).toNat (iI (v_63)) := ⟨_, rfl⟩
            rw [← eAI_64] at hH
            have kAI_64 : ∀ b, b ≠ (gh 75 0) → AI_64 b = AI_47 b := fun b hb => by rw [eAI_64]; exact funext fun j => gup2_a _ _ hb
            have t_65 : AI_64 (gh 50 0) = AI_47 (gh 50 0) := mK hv hm (p := (0, 640)) (q := (25, 9600)) (by decide) (by decide) (by decide) kAI_64
            have hv : mInv g gh R I AI_64 := mInv_a hv hm (q := (25, 9600)) (by decide) (by decide) kAI_64
            have hT : AI_64 (gh 50 0) = T := t_65.trans hT
            refine z_iinc (lv' := [(4, .int (iI (i + (-1)))), (3, .int (iI v_8)), (0, .ref mo), (1, .int (iI cn)), (2, .int (iI rd))]) F dX7_gathers_86 hl (k := 0) rfl (by decide) rfl (fun ls hl => ?_)
            refine z_goto (tgt := 60) F dX7_gathers_89 (by decide) ?_
            exact ih60 (i + (-1)) AI_64 H locs ls ⟨by omega, by omega⟩ hv hT (by omega) (by omega) hH hS (lv_sub hl [0, 1, 2, 3, 4] rfl)
      exact cut_60_47 (((((6 * ((I mo 26).toInt)) - 1) + 1) + 1 : Int).toNat) ((6 * ((I mo 26).toInt)) - 1) AI H locs ls ⟨by omega, by omega⟩ hv hT (by omega) (by omega) hH hS (lv_sub hl [0, 1, 2, 3, 4] rfl)
    · refine lv_aload_n F.1 F.2.1 dX7_gathers_32 rfl (lv_at hl 1 rfl) ?_
      refine g_getR (ci := 7) (k := 25) F hH rfl (by decide) iX7 hm (by decide) rfl (b := gh 75 0) r_35a k42 dX7_gathers_33 ?_
      refine z_bipush F dX7_gathers_36 (by decide) ?_
      refine lv_iload_n F.1 F.2.1 dX7_gathers_38 rfl (lv_at hl 0 rfl) ?_
      refine z_imul F dX7_gathers_39 ?_
      refine z_iconst F dX7_gathers_40 ?_
      refine z_iadd F dX7_gathers_41 ?_
      refine lv_dup2_11 F.1 F.2.1 dX7_gathers_42 rfl rfl ?_
      have hx43 : 0 ≤ ((6 * v_8) + 4) ∧ ((6 * v_8) + 4) < ((9600 : Nat) : Int) ∧ ((6 * v_8) + 4) ≤ 2147483647 := ⟨by omega, by omega, by omega⟩
      refine g_iald F hH r_35b hx43.1 hx43.2.1 hx43.2.2 dX7_gathers_43 ?_
      refine z_name (fun v_66 ev_66 => ?_)
      have zv_66 : zr v_66 := by rw [ev_66]; exact zr_t _
      refine lv_iload_n F.1 F.2.1 dX7_gathers_44 rfl (lv_at hl 2 rfl) ?_
      refine z_iadd F dX7_gathers_45 ?_
      refine z_norm (fun v_67 zv_67 ev_67 => ?_)
      have hx46 : 0 ≤ ((6 * v_8) + 4) ∧ ((6 * v_8) + 4) < ((9600 : Nat) : Int) ∧ ((6 * v_8) + 4) ≤ 2147483647 := ⟨by omega, by omega, by omega⟩
      refine g_iast F hH hS r_35b hx46.1 hx46.2.1 hx46.2.2 dX7_gathers_46 (fun H locs hH hS => ?_)
      obtain ⟨AI_68, eAI_68⟩ : ∃ qQ, qQ = gup2 AI (gh 75 0) (((6 * v_8) + 4)).toNat (iI (v_67)) := ⟨_, rfl⟩
      rw [← eAI_68] at hH
      have kAI_68 : ∀ b, b ≠ (gh 75 0) → AI_68 b = AI b := fun b hb => by rw [eAI_68]; exact funext fun j => gup2_a _ _ hb
      have t_69 : AI_68 (gh 50 0) = AI (gh 50 0) := mK hv hm (p := (0, 640)) (q := (25, 9600)) (by decide) (by decide) (by decide) kAI_68
      have hv : mInv g gh R I AI_68 := mInv_a hv hm (q := (25, 9600)) (by decide) (by decide) kAI_68
      have hT : AI_68 (gh 50 0) = T := t_69.trans hT
      refine z_iconst F dX7_gathers_47 ?_
      exact g_zret F hr hlk hH hS hz (by omega) ⟨rfl, rfl, rfl, rfl, hv, hT, wf, by first | omega | rfl | (dsimp only; omega)⟩ dX7_gathers_48

def rmX7_lays : Room := { frames := 1, cells := 0, slots := 0, locals := 22 }
theorem hdX7_lays : yX7_lays.cls = RX7 ∧ yX7_lays.cls ≠ "java/lang/invoke/MethodHandle" ∧ yX7_lays.cls ≠ "java/lang/invoke/VarHandle" ∧ (parseMethodDescriptor yX7_lays.desc).map (fun d => d.parameters.length) = some 2 := by decide +kernel
set_option maxHeartbeats 4000000 in
set_option maxRecDepth 100000 in
/-- the bag is laid -/
theorem c_X7_lays (l : Launch) (g : gG) (gh : gGh) (T : Nat → Int32) (I : gI) (R : gR) (J : gJ) (AI : gI) (AJ : gJ) (AR : gR) (mo : Nat) (sd : Int) (rr : Int) (zsd : zr sd) (zrr : zr rr) (hv : mInv g gh R I AI) (hm : gO g mo 7) (hT : AI (gh 50 0) = T) (hs : 0 ≤ sd ∧ sd ≤ 10) (hr0 : 0 ≤ rr ∧ rr ≤ 15) : gMet l g yX7_lays tsX7_lays rmX7_lays [.ref mo, .int (iI sd), .int (iI rr)] (I, R, J, AI, AJ, AR) (gQi g (fun (z : Int) (w : gS) => I = w.1 ∧ R = w.2.1 ∧ J = w.2.2.1 ∧ AJ = w.2.2.2.2.1 ∧ AR = w.2.2.2.2.2 ∧ (mInv g gh R I (w.2.2.2.1)) ∧ ((w.2.2.2.1) (gh 50 0) = T) ∧ ((w.2.2.2.1) (gh 75 0) = AI (gh 75 0)))) := by
  refine gStart (cc := cX7_lays) (maxL := 7) (ret := (some (.int))) (by decide) rfl (Nat.le_of_ble_eq_true rfl) ?_
  intro p e s m below meth c ls F hr hlk hH hz hS hl
  have hl : lv_has ls 7 [(0, .ref mo), (1, .int (iI sd)), (2, .int (iI rr))] := hl
  have hS : va_S (gA g) s.heap s.heap [] := hS
  obtain ⟨H, hHe⟩ : ∃ H : Heap, H = s.heap := ⟨_, rfl⟩
  obtain ⟨locs, hlo⟩ : ∃ k : List Loc, k = [] := ⟨_, rfl⟩
  have hH : gH g I R J AI AJ AR H := by rw [hHe]; exact hH
  have hS : va_S (gA g) s.heap H locs := by rw [hHe, hlo]; exact hS
  suffices hw : W p l e rmX7_lays s m ([.ref mo, .int (iI sd), .int (iI rr)] : List Value).toArray below meth c H locs 0 0 (MQ below (gQi g (fun (z : Int) (w : gS) => I = w.1 ∧ R = w.2.1 ∧ J = w.2.2.1 ∧ AJ = w.2.2.2.2.1 ∧ AR = w.2.2.2.2.2 ∧ (mInv g gh R I (w.2.2.2.1)) ∧ ((w.2.2.2.1) (gh 50 0) = T) ∧ ((w.2.2.2.1) (gh 75 0) = AI (gh 75 0)))) ([.ref mo, .int (iI sd), .int (iI rr)] : List Value).toArray s 0 0 (gA g)) (F0 m 0 ls []) by
    rw [hHe, hlo] at hw; exact hw
  clear hHe hlo
  have ha25 : AI (gh 75 0) = AI (gh 75 0) := rfl
  have hb0 := mJ hv hm
  unfold mNum1 at hb0
  have iX7 : ∀ w ∈ u_ws RX7 TX7 32, w ∈ tsX7_lays := fun w h => List.mem_cons_of_mem _ (inTB7 w h)
  have k269 : Cond.fieldLink RX7 269 (TX7 26).1 (TX7 26).2.1 (TX7 26).2.2.1 ∈ tsX7_lays := List.mem_cons_of_mem _ fl_269
  have k42 : Cond.fieldLink RX7 42 (TX7 25).1 (TX7 25).2.1 (TX7 25).2.2.1 ∈ tsX7_lays := List.mem_cons_of_mem _ fl_42
  have k24 : Cond.fieldLink RX7 24 (TX7 6).1 (TX7 6).2.1 (TX7 6).2.2.1 ∈ tsX7_lays := List.mem_cons_of_mem _ fl_24
  have k27 : Cond.fieldLink RX7 27 (TX7 7).1 (TX7 7).2.1 (TX7 7).2.2.1 ∈ tsX7_lays := List.mem_cons_of_mem _ fl_27
  refine z_iconst F dX7_lays_0 ?_
  refine lv_istore_n (lv' := [(3, .int (iI 0)), (0, .ref mo), (1, .int (iI sd)), (2, .int (iI rr))]) F.1 F.2.1 dX7_lays_1 rfl hl (by decide) rfl (fun ls hl => ?_)
  refine z_iconst F dX7_lays_2 ?_
  refine lv_istore (lv' := [(4, .int (iI 0)), (3, .int (iI 0)), (0, .ref mo), (1, .int (iI sd)), (2, .int (iI rr))]) F.1 F.2.1 dX7_lays_3 hl (by decide) rfl (fun ls hl => ?_)
  have cut_5_0 : ∀ (NN : Nat) (n k : Int) (H : Heap) (locs : List Loc) (ls : Array Slot), zr n → zr k → (0 ≤ k ∧ k ≤ (I mo 26).toInt) → (n = wCnt (AI (gh 75 0)) k.toNat) → ((I mo 26).toInt - k) < ((NN : Nat) : Int) → gH g I R J AI AJ AR H → va_S (gA g) s.heap H locs → lv_has ls 7 [(4, .int (iI k)), (3, .int (iI n)), (0, .ref mo), (1, .int (iI sd)), (2, .int (iI rr))] → W p l e rmX7_lays s m ([.ref mo, .int (iI sd), .int (iI rr)] : List Value).toArray below meth c H locs 0 0 (MQ below (gQi g (fun (z : Int) (w : gS) => I = w.1 ∧ R = w.2.1 ∧ J = w.2.2.1 ∧ AJ = w.2.2.2.2.1 ∧ AR = w.2.2.2.2.2 ∧ (mInv g gh R I (w.2.2.2.1)) ∧ ((w.2.2.2.1) (gh 50 0) = T) ∧ ((w.2.2.2.1) (gh 75 0) = AI (gh 75 0)))) ([.ref mo, .int (iI sd), .int (iI rr)] : List Value).toArray s 0 0 (gA g)) (F0 m 5 ls []) := by
    intro NN5
    induction NN5 with
    | zero =>
      intro n k H locs ls zn zk hk hn hm5 hH hS hl
      exact absurd hm5 (by omega)
    | succ NN5 ih5 =>
      intro n k H locs ls zn zk hk hn hm5 hH hS hl
      have hn2 := wCnt_u (f := (AI (gh 75 0))) (a := k.toNat)
      have hn1 := wCnt_0 (f := (AI (gh 75 0))) (a := k.toNat)
      refine lv_iload F.1 F.2.1 dX7_lays_5 (lv_at hl 0 rfl) ?_
      refine lv_aload_n F.1 F.2.1 dX7_lays_7 rfl (lv_at hl 2 rfl) ?_
      refine g_getI (ci := 7) (k := 26) F hH rfl (by decide) iX7 hm (by decide) rfl k269 dX7_lays_8 ?_
      have b_2 := mJ hv hm
      unfold mNum1 at b_2
      refine z_icmp_ge (tgt := 38) F dX7_lays_11 (by decide) zk (zr_t _) (fun c_3 => ?_) (fun c_3 => ?_)
      · have hx : n = wCnt (AI (gh 75 0)) (I mo 26).toInt.toNat := by rw [← (show k = (I mo 26).toInt by omega)]; exact hn
        have hn0 := wCnt_0 (f := (AI (gh 75 0))) (a := (I mo 26).toInt.toNat)
        refine lv_iload_n F.1 F.2.1 dX7_lays_38 rfl (lv_at hl 1 rfl) ?_
        refine z_bipush F dX7_lays_39 (by decide) ?_
        refine z_icmp_le (tgt := 47) F dX7_lays_41 (by decide) zn ⟨by decide, by decide⟩ (fun c_4 => ?_) (fun c_4 => ?_)
        · refine lv_iload_n F.1 F.2.1 dX7_lays_47 rfl (lv_at hl 3 rfl) ?_
          refine lv_iload_n F.1 F.2.1 dX7_lays_48 rfl (lv_at hl 4 rfl) ?_
          refine z_iconst F dX7_lays_49 ?_
          refine g_calli (g_runS (As := [.int (iI sd), .int (iI rr), .int (iI 0)]) (rest := []) F hl.1 hH hS hz (c_X7_spot l g  I R J AI AJ AR sd rr 0 zsd zrr ⟨by decide, by decide⟩ (by omega) (by omega) (by omega)) (va_cwS 3 F.2.2.2.2.1 (good_up gT_X7_spot) rfl rfl rfl hdX7_spot.2 ⟨Nat.le_of_ble_eq_true rfl, Nat.le_of_ble_eq_true rfl⟩) rfl rfl (Nat.le_of_ble_eq_true rfl) dX7_lays_50 ⟨Nat.zero_le _, Nat.zero_le _⟩) hS (fun v_11 I_5 R_6 J_7 AI_8 AJ_9 AR_10 H locs zv_11 hp_12 hH hS => ?_)
          dsimp only at hp_12
          obtain ⟨rfl, rfl, rfl, rfl, rfl, rfl, q_13⟩ := hp_12
          refine lv_istore (lv' := [(4, .int (iI v_11)), (3, .int (iI n)), (0, .ref mo), (1, .int (iI sd)), (2, .int (iI rr))]) F.1 F.2.1 dX7_lays_53 hl (by decide) rfl (fun ls hl => ?_)
          refine z_iconst F dX7_lays_55 ?_
          refine lv_istore (lv' := [(5, .int (iI 0)), (4, .int (iI v_11)), (3, .int (iI n)), (0, .ref mo), (1, .int (iI sd)), (2, .int (iI rr))]) F.1 F.2.1 dX7_lays_56 hl (by decide) rfl (fun ls hl => ?_)
          have cut_58_14 : ∀ (NN : Nat) (to k2 : Int) (AI_14 : gI) (H : Heap) (locs : List Loc) (ls : Array Slot), zr to → zr k2 → (mInv g gh R I AI_14) → (AI_14 (gh 50 0) = T) → (AI_14 (gh 75 0) = AI (gh 75 0)) → (0 ≤ k2 ∧ k2 ≤ (I mo 26).toInt) → (to = 11520 * sd + 720 * rr + 6 * wCnt (AI (gh 75 0)) k2.toNat) → ((I mo 26).toInt - k2) < ((NN : Nat) : Int) → gH g I R J AI_14 AJ AR H → va_S (gA g) s.heap H locs → lv_has ls 7 [(5, .int (iI k2)), (4, .int (iI to)), (3, .int (iI n)), (0, .ref mo), (1, .int (iI sd)), (2, .int (iI rr))] → W p l e rmX7_lays s m ([.ref mo, .int (iI sd), .int (iI rr)] : List Value).toArray below meth c H locs 0 0 (MQ below (gQi g (fun (z : Int) (w : gS) => I = w.1 ∧ R = w.2.1 ∧ J = w.2.2.1 ∧ AJ = w.2.2.2.2.1 ∧ AR = w.2.2.2.2.2 ∧ (mInv g gh R I (w.2.2.2.1)) ∧ ((w.2.2.2.1) (gh 50 0) = T) ∧ ((w.2.2.2.1) (gh 75 0) = AI (gh 75 0)))) ([.ref mo, .int (iI sd), .int (iI rr)] : List Value).toArray s 0 0 (gA g)) (F0 m 58 ls []) := by
            intro NN58
            induction NN58 with
            | zero =>
              intro to k2 AI_14 H locs ls zto zk2 hv hT ha25 hk2 hto hm58 hH hS hl
              exact absurd hm58 (by omega)
            | succ NN58 ih58 =>
              intro to k2 AI_14 H locs ls zto zk2 hv hT ha25 hk2 hto hm58 hH hS hl
              refine lv_iload F.1 F.2.1 dX7_lays_58 (lv_at hl 0 rfl) ?_
              refine lv_aload_n F.1 F.2.1 dX7_lays_60 rfl (lv_at hl 3 rfl) ?_
              refine g_getI (ci := 7) (k := 26) F hH rfl (by decide) iX7 hm (by decide) rfl k269 dX7_lays_61 ?_
              refine z_icmp_ge (tgt := 133) F dX7_lays_64 (by decide) zk2 (zr_t _) (fun c_16 => ?_) (fun c_16 => ?_)
              · refine lv_aload_n F.1 F.2.1 dX7_lays_133 rfl (lv_at hl 3 rfl) ?_
                obtain ⟨r_17a, r_17b⟩ : R mo 7 = some (gh 57 0) ∧ gAr g (gh 57 0) 9 176 := mR hv hm (q := (7, 176)) (by decide)
                refine g_getR (ci := 7) (k := 7) F hH rfl (by decide) iX7 hm (by decide) rfl (b := gh 57 0) r_17a k27 dX7_lays_134 ?_
                refine z_bipush F dX7_lays_137 (by decide) ?_
                refine lv_iload_n F.1 F.2.1 dX7_lays_139 rfl (lv_at hl 4 rfl) ?_
                refine z_imul F dX7_lays_140 ?_
                refine lv_iload_n F.1 F.2.1 dX7_lays_141 rfl (lv_at hl 5 rfl) ?_
                refine z_iadd F dX7_lays_142 ?_
                refine lv_iload_n F.1 F.2.1 dX7_lays_143 rfl (lv_at hl 2 rfl) ?_
                have hx144 : 0 ≤ ((16 * sd) + rr) ∧ ((16 * sd) + rr) < ((176 : Nat) : Int) ∧ ((16 * sd) + rr) ≤ 2147483647 := ⟨by omega, by omega, by omega⟩
                refine g_iast F hH hS r_17b hx144.1 hx144.2.1 hx144.2.2 dX7_lays_144 (fun H locs hH hS => ?_)
                obtain ⟨AI_18, eAI_18⟩ : ∃ qQ, qQ = gup2 AI_14 (gh 57 0) (((16 * sd) + rr)).toNat (iI (n)) := ⟨_, rfl⟩
                rw [← eAI_18] at hH
                have kAI_18 : ∀ b, b ≠ (gh 57 0) → AI_18 b = AI_14 b := fun b hb => by rw [eAI_18]; exact funext fun j => gup2_a _ _ hb
                have t_19 : AI_18 (gh 50 0) = AI_14 (gh 50 0) := mK hv hm (p := (0, 640)) (q := (7, 176)) (by decide) (by decide) (by decide) kAI_18
                have t_19_25 : AI_18 (gh 75 0) = AI_14 (gh 75 0) := mK hv hm (p := (25, 9600)) (q := (7, 176)) (by decide) (by decide) (by decide) kAI_18
                have ha25 : AI_18 (gh 75 0) = AI (gh 75 0) := t_19_25.trans ha25
                have hv : mInv g gh R I AI_18 := mInv_sizes1 hv hm eAI_18 (by omega) (by omega)
                have hT : AI_18 (gh 50 0) = T := t_19.trans hT
                refine z_iconst F dX7_lays_145 ?_
                exact g_iret F hr hlk hH hS hz ⟨by decide, by decide⟩ ⟨rfl, rfl, rfl, rfl, rfl, hv, hT, ha25⟩ dX7_lays_146
              · refine lv_aload_n F.1 F.2.1 dX7_lays_67 rfl (lv_at hl 3 rfl) ?_
                obtain ⟨r_20a, r_20b⟩ : R mo 25 = some (gh 75 0) ∧ gAr g (gh 75 0) 9 9600 := mR hv hm (q := (25, 9600)) (by decide)
                refine g_getR (ci := 7) (k := 25) F hH rfl (by decide) iX7 hm (by decide) rfl (b := gh 75 0) r_20a k42 dX7_lays_68 ?_
                refine z_bipush F dX7_lays_71 (by decide) ?_
                refine lv_iload F.1 F.2.1 dX7_lays_73 (lv_at hl 0 rfl) ?_
                refine z_imul F dX7_lays_75 ?_
                refine z_iconst F dX7_lays_76 ?_
                refine z_iadd F dX7_lays_77 ?_
                have hx78 : 0 ≤ ((6 * k2) + 4) ∧ ((6 * k2) + 4) < ((9600 : Nat) : Int) ∧ ((6 * k2) + 4) ≤ 2147483647 := ⟨by omega, by omega, by omega⟩
                refine g_iald F hH r_20b hx78.1 hx78.2.1 hx78.2.2 dX7_lays_78 ?_
                refine z_name (fun v_21 ev_21 => ?_)
                have zv_21 : zr v_21 := by rw [ev_21]; exact zr_t _
                have hw78 : v_21 = tI (AI (gh 75 0)) (6 * k2 + 4) := by rw [← ha25]; exact ev_21
                refine z_if_ne (tgt := 85) F dX7_lays_79 (by decide) zv_21 (fun c_22 => ?_) (fun c_22 => ?_)
                · have s1 := wCnt_s (f := (AI (gh 75 0))) (k := k2) (by omega) (by omega)
                  have s2 := wCnt_le (f := (AI (gh 75 0))) (a := (k2 + 1).toNat) (b := (I mo 26).toInt.toNat) (by omega)
                  have s3 := wCnt_0 (f := (AI (gh 75 0))) (a := k2.toNat)
                  refine z_iconst F dX7_lays_85 ?_
                  refine lv_istore (lv' := [(6, .int (iI 0)), (5, .int (iI k2)), (4, .int (iI to)), (3, .int (iI n)), (0, .ref mo), (1, .int (iI sd)), (2, .int (iI rr))]) F.1 F.2.1 dX7_lays_86 hl (by decide) rfl (fun ls hl => ?_)
                  have cut_88_23 : ∀ (NN : Nat) (i : Int) (AI_23 : gI) (H : Heap) (locs : List Loc) (ls : Array Slot), zr i → (mInv g gh R I AI_23) → (AI_23 (gh 50 0) = T) → (AI_23 (gh 75 0) = AI (gh 75 0)) → (0 ≤ i ∧ i ≤ 6) → (6 - i) < ((NN : Nat) : Int) → gH g I R J AI_23 AJ AR H → va_S (gA g) s.heap H locs → lv_has ls 7 [(6, .int (iI i)), (5, .int (iI k2)), (4, .int (iI to)), (3, .int (iI n)), (0, .ref mo), (1, .int (iI sd)), (2, .int (iI rr))] → W p l e rmX7_lays s m ([.ref mo, .int (iI sd), .int (iI rr)] : List Value).toArray below meth c H locs 0 0 (MQ below (gQi g (fun (z : Int) (w : gS) => I = w.1 ∧ R = w.2.1 ∧ J = w.2.2.1 ∧ AJ = w.2.2.2.2.1 ∧ AR = w.2.2.2.2.2 ∧ (mInv g gh R I (w.2.2.2.1)) ∧ ((w.2.2.2.1) (gh 50 0) = T) ∧ ((w.2.2.2.1) (gh 75 0) = AI (gh 75 0)))) ([.ref mo, .int (iI sd), .int (iI rr)] : List Value).toArray s 0 0 (gA g)) (F0 m 88 ls []) := by
                    intro NN88
                    induction NN88 with
                    | zero =>
                      intro i AI_23 H locs ls zi hv hT ha25 hi hm88 hH hS hl
                      exact absurd hm88 (by omega)
                    | succ NN88 ih88 =>
                      intro i AI_23 H locs ls zi hv hT ha25 hi hm88 hH hS hl
                      refine lv_iload F.1 F.2.1 dX7_lays_88 (lv_at hl 0 rfl) ?_
                      refine z_bipush F dX7_lays_90 (by decide) ?_
                      refine z_icmp_ge (tgt := 124) F dX7_lays_92 (by decide) zi ⟨by decide, by decide⟩ (fun c_25 => ?_) (fun c_25 => ?_)
                      · refine z_iinc (lv' := [(4, .int (iI (to + 6))), (6, .int (iI i)), (5, .int (iI k2)), (3, .int (iI n)), (0, .ref mo), (1, .int (iI sd)), (2, .int (iI rr))]) F dX7_lays_124 hl (k := 2) rfl (by decide) rfl (fun ls hl => ?_)
                        refine z_iinc (lv' := [(5, .int (iI (k2 + 1))), (4, .int (iI (to + 6))), (6, .int (iI i)), (3, .int (iI n)), (0, .ref mo), (1, .int (iI sd)), (2, .int (iI rr))]) F dX7_lays_127 hl (k := 2) rfl (by decide) rfl (fun ls hl => ?_)
                        refine z_goto (tgt := 58) F dX7_lays_130 (by decide) ?_
                        exact ih58 (to + 6) (k2 + 1) AI_23 H locs ls ⟨by omega, by omega⟩ ⟨by omega, by omega⟩ hv hT ha25 (by omega) (by first | (rw [wCnt_z (by omega) (by omega)]; omega) | (rw [wCnt_s (by omega) (by omega)]; omega) | (show _ = _ + 6 * (0 : Int); omega)) (by omega) hH hS (lv_sub hl [0, 1, 3, 4, 5, 6] rfl)
                      · refine lv_aload_n F.1 F.2.1 dX7_lays_95 rfl (lv_at hl 4 rfl) ?_
                        obtain ⟨r_26a, r_26b⟩ : R mo 6 = some (gh 56 0) ∧ gAr g (gh 56 0) 9 126720 := mR hv hm (q := (6, 126720)) (by decide)
                        refine g_getR (ci := 7) (k := 6) F hH rfl (by decide) iX7 hm (by decide) rfl (b := gh 56 0) r_26a k24 dX7_lays_96 ?_
                        refine lv_iload F.1 F.2.1 dX7_lays_99 (lv_at hl 2 rfl) ?_
                        refine lv_iload F.1 F.2.1 dX7_lays_101 (lv_at hl 0 rfl) ?_
                        refine z_iadd F dX7_lays_103 ?_
                        refine lv_aload_n F.1 F.2.1 dX7_lays_104 rfl (lv_at hl 4 rfl) ?_
                        refine g_getR (ci := 7) (k := 25) F hH rfl (by decide) iX7 hm (by decide) rfl (b := gh 75 0) r_20a k42 dX7_lays_105 ?_
                        refine z_bipush F dX7_lays_108 (by decide) ?_
                        refine lv_iload F.1 F.2.1 dX7_lays_110 (lv_at hl 1 rfl) ?_
                        refine z_imul F dX7_lays_112 ?_
                        refine lv_iload F.1 F.2.1 dX7_lays_113 (lv_at hl 0 rfl) ?_
                        refine z_iadd F dX7_lays_115 ?_
                        have hx116 : 0 ≤ ((6 * k2) + i) ∧ ((6 * k2) + i) < ((9600 : Nat) : Int) ∧ ((6 * k2) + i) ≤ 2147483647 := ⟨by omega, by omega, by omega⟩
                        refine g_iald F hH r_20b hx116.1 hx116.2.1 hx116.2.2 dX7_lays_116 ?_
                        refine z_name (fun v_27 ev_27 => ?_)
                        have zv_27 : zr v_27 := by rw [ev_27]; exact zr_t _
                        have hx117 : 0 ≤ (to + i) ∧ (to + i) < ((126720 : Nat) : Int) ∧ (to + i) ≤ 2147483647 := ⟨by omega, by omega, by omega⟩
                        refine g_iast F hH hS r_26b hx117.1 hx117.2.1 hx117.2.2 dX7_lays_117 (fun H locs hH hS => ?_)
                        obtain ⟨AI_28, eAI_28⟩ : ∃ qQ, qQ = gup2 AI_23 (gh 56 0) ((to + i)).toNat (iI (v_27)) := ⟨_, rfl⟩
                        rw [← eAI_28] at hH
                        have kAI_28 : ∀ b, b ≠ (gh 56 0) → AI_28 b = AI_23 b := fun b hb => by rw [eAI_28]; exact funext fun j => gup2_a _ _ hb
                        have t_29 : AI_28 (gh 50 0) = AI_23 (gh 50 0) := mK hv hm (p := (0, 640)) (q := (6, 126720)) (by decide) (by decide) (by decide) kAI_28
                        have t_29_25 : AI_28 (gh 75 0) = AI_23 (gh 75 0) := mK hv hm (p := (25, 9600)) (q := (6, 126720)) (by decide) (by decide) (by decide) kAI_28
                        have ha25 : AI_28 (gh 75 0) = AI (gh 75 0) := t_29_25.trans ha25
                        have hv : mInv g gh R I AI_28 := mInv_a hv hm (q := (6, 126720)) (by decide) (by decide) kAI_28
                        have hT : AI_28 (gh 50 0) = T := t_29.trans hT
                        refine z_iinc (lv' := [(6, .int (iI (i + 1))), (5, .int (iI k2)), (4, .int (iI to)), (3, .int (iI n)), (0, .ref mo), (1, .int (iI sd)), (2, .int (iI rr))]) F dX7_lays_118 hl (k := 0) rfl (by decide) rfl (fun ls hl => ?_)
                        refine z_goto (tgt := 88) F dX7_lays_121 (by decide) ?_
                        exact ih88 (i + 1) AI_28 H locs ls ⟨by omega, by omega⟩ hv hT ha25 (by omega) (by omega) hH hS (lv_sub hl [0, 1, 2, 3, 4, 5, 6] rfl)
                  exact cut_88_23 (((6 - 0) + 1 : Int).toNat) 0 AI_14 H locs ls ⟨by decide, by decide⟩ hv hT ha25 (by omega) (by omega) hH hS (lv_sub hl [0, 1, 2, 3, 4, 5, 6] rfl)
                · refine z_goto (tgt := 127) F dX7_lays_82 (by decide) ?_
                  refine z_iinc (lv' := [(5, .int (iI (k2 + 1))), (4, .int (iI to)), (3, .int (iI n)), (0, .ref mo), (1, .int (iI sd)), (2, .int (iI rr))]) F dX7_lays_127 hl (k := 0) rfl (by decide) rfl (fun ls hl => ?_)
                  refine z_goto (tgt := 58) F dX7_lays_130 (by decide) ?_
                  exact ih58 to (k2 + 1) AI_14 H locs ls zto ⟨by omega, by omega⟩ hv hT ha25 (by omega) (by first | (rw [wCnt_z (by omega) (by omega)]; omega) | (rw [wCnt_s (by omega) (by omega)]; omega) | (show _ = _ + 6 * (0 : Int); omega)) (by omega) hH hS (lv_sub hl [0, 1, 2, 3, 4, 5] rfl)
          exact cut_58_14 ((((I mo 26).toInt - 0) + 1 : Int).toNat) v_11 0 AI H locs ls zv_11 ⟨by decide, by decide⟩ hv hT ha25 (by omega) (by first | (rw [wCnt_z (by omega) (by omega)]; omega) | (rw [wCnt_s (by omega) (by omega)]; omega) | (show _ = _ + 6 * (0 : Int); omega)) (by omega) hH hS (lv_sub hl [0, 1, 2, 3, 4, 5] rfl)
        · refine z_bipush F dX7_lays_44 (by decide) ?_
          exact g_iret F hr hlk hH hS hz ⟨by decide, by decide⟩ ⟨rfl, rfl, rfl, rfl, rfl, hv, hT, ha25⟩ dX7_lays_46
      · refine lv_aload_n F.1 F.2.1 dX7_lays_14 rfl (lv_at hl 2 rfl) ?_
        obtain ⟨r_30a, r_30b⟩ : R mo 25 = some (gh 75 0) ∧ gAr g (gh 75 0) 9 9600 := mR hv hm (q := (25, 9600)) (by decide)
        refine g_getR (ci := 7) (k := 25) F hH rfl (by decide) iX7 hm (by decide) rfl (b := gh 75 0) r_30a k42 dX7_lays_15 ?_
        refine z_bipush F dX7_lays_18 (by decide) ?_
        refine lv_iload F.1 F.2.1 dX7_lays_20 (lv_at hl 0 rfl) ?_
        refine z_imul F dX7_lays_22 ?_
        refine z_iconst F dX7_lays_23 ?_
        refine z_iadd F dX7_lays_24 ?_
        have hx25 : 0 ≤ ((6 * k) + 4) ∧ ((6 * k) + 4) < ((9600 : Nat) : Int) ∧ ((6 * k) + 4) ≤ 2147483647 := ⟨by omega, by omega, by omega⟩
        refine g_iald F hH r_30b hx25.1 hx25.2.1 hx25.2.2 dX7_lays_25 ?_
        refine z_name (fun v_31 ev_31 => ?_)
        have zv_31 : zr v_31 := by rw [ev_31]; exact zr_t _
        have hw25 : v_31 = tI (AI (gh 75 0)) (6 * k + 4) := by rw [← ha25]; exact ev_31
        refine z_if_eq (tgt := 32) F dX7_lays_26 (by decide) zv_31 (fun c_32 => ?_) (fun c_32 => ?_)
        · refine z_iinc (lv' := [(4, .int (iI (k + 1))), (3, .int (iI n)), (0, .ref mo), (1, .int (iI sd)), (2, .int (iI rr))]) F dX7_lays_32 hl (k := 0) rfl (by decide) rfl (fun ls hl => ?_)
          refine z_goto (tgt := 5) F dX7_lays_35 (by decide) ?_
          exact ih5 n (k + 1) H locs ls zn ⟨by omega, by omega⟩ (by omega) (by first | rfl | (rw [wCnt_z (by omega) (by omega)]; omega) | (rw [wCnt_s (by omega) (by omega)]; omega)) (by omega) hH hS (lv_sub hl [0, 1, 2, 3, 4] rfl)
        · refine z_iinc (lv' := [(3, .int (iI (n + 1))), (4, .int (iI k)), (0, .ref mo), (1, .int (iI sd)), (2, .int (iI rr))]) F dX7_lays_29 hl (k := 1) rfl (by decide) rfl (fun ls hl => ?_)
          refine z_iinc (lv' := [(4, .int (iI (k + 1))), (3, .int (iI (n + 1))), (0, .ref mo), (1, .int (iI sd)), (2, .int (iI rr))]) F dX7_lays_32 hl (k := 1) rfl (by decide) rfl (fun ls hl => ?_)
          refine z_goto (tgt := 5) F dX7_lays_35 (by decide) ?_
          exact ih5 (n + 1) (k + 1) H locs ls ⟨by omega, by omega⟩ ⟨by omega, by omega⟩ (by omega) (by first | rfl | (rw [wCnt_z (by omega) (by omega)]; omega) | (rw [wCnt_s (by omega) (by omega)]; omega)) (by omega) hH hS (lv_sub hl [0, 1, 2, 3, 4] rfl)
  exact cut_5_0 ((((I mo 26).toInt - 0) + 1 : Int).toNat) 0 0 H locs ls ⟨by decide, by decide⟩ ⟨by decide, by decide⟩ (by omega) (by first | rfl | (rw [wCnt_z (by omega) (by omega)]; omega) | (rw [wCnt_s (by omega) (by omega)]; omega)) (by omega) hH hS (lv_sub hl [0, 1, 2, 3, 4] rfl)

def rmX7_takes : Room := { frames := 0, cells := 0, slots := 0, locals := 0 }
theorem hdX7_takes : yX7_takes.cls = RX7 ∧ yX7_takes.cls ≠ "java/lang/invoke/MethodHandle" ∧ yX7_takes.cls ≠ "java/lang/invoke/VarHandle" ∧ (parseMethodDescriptor yX7_takes.desc).map (fun d => d.parameters.length) = some 1 := by decide +kernel
set_option maxHeartbeats 4000000 in
set_option maxRecDepth 100000 in
/-- takes a tuple -/
theorem c_X7_takes (l : Launch) (g : gG) (gh : gGh) (T : Nat → Int32) (I : gI) (R : gR) (J : gJ) (AI : gI) (AJ : gJ) (AR : gR) (mo : Nat) (fm : Int) (zfm : zr fm) (hv : mInv g gh R I AI) (hm : gO g mo 7) (hT : AI (gh 50 0) = T) (h0 : 0 ≤ fm ∧ fm + 4 ≤ 126720) : gMet l g yX7_takes tsX7_takes rmX7_takes [.ref mo, .int (iI fm)] (I, R, J, AI, AJ, AR) (gQv g (fun w : gS => I = w.1 ∧ R = w.2.1 ∧ J = w.2.2.1 ∧ AJ = w.2.2.2.2.1 ∧ AR = w.2.2.2.2.2 ∧ (mInv g gh R I (w.2.2.2.1)) ∧ ((w.2.2.2.1) (gh 50 0) = T))) := by
  refine gStart (cc := cX7_takes) (maxL := 3) (ret := none) (by decide) rfl (Nat.le_of_ble_eq_true rfl) ?_
  intro p e s m below meth c ls F hr hlk hH hz hS hl
  have hl : lv_has ls 3 [(0, .ref mo), (1, .int (iI fm))] := hl
  have hS : va_S (gA g) s.heap s.heap [] := hS
  obtain ⟨H, hHe⟩ : ∃ H : Heap, H = s.heap := ⟨_, rfl⟩
  obtain ⟨locs, hlo⟩ : ∃ k : List Loc, k = [] := ⟨_, rfl⟩
  have hH : gH g I R J AI AJ AR H := by rw [hHe]; exact hH
  have hS : va_S (gA g) s.heap H locs := by rw [hHe, hlo]; exact hS
  suffices hw : W p l e rmX7_takes s m ([.ref mo, .int (iI fm)] : List Value).toArray below meth c H locs 0 0 (MQ below (gQv g (fun w : gS => I = w.1 ∧ R = w.2.1 ∧ J = w.2.2.1 ∧ AJ = w.2.2.2.2.1 ∧ AR = w.2.2.2.2.2 ∧ (mInv g gh R I (w.2.2.2.1)) ∧ ((w.2.2.2.1) (gh 50 0) = T))) ([.ref mo, .int (iI fm)] : List Value).toArray s 0 0 (gA g)) (F0 m 0 ls []) by
    rw [hHe, hlo] at hw; exact hw
  clear hHe hlo
  have iX7 : ∀ w ∈ u_ws RX7 TX7 32, w ∈ tsX7_takes := fun w h => List.mem_cons_of_mem _ (inTB7 w h)
  have k45 : Cond.fieldLink RX7 45 (TX7 27).1 (TX7 27).2.1 (TX7 27).2.2.1 ∈ tsX7_takes := List.mem_cons_of_mem _ fl_45
  have k24 : Cond.fieldLink RX7 24 (TX7 6).1 (TX7 6).2.1 (TX7 6).2.2.1 ∈ tsX7_takes := List.mem_cons_of_mem _ fl_24
  refine z_iconst F dX7_takes_0 ?_
  refine lv_istore_n (lv' := [(2, .int (iI 0)), (0, .ref mo), (1, .int (iI fm))]) F.1 F.2.1 dX7_takes_1 rfl hl (by decide) rfl (fun ls hl => ?_)
  have cut_2_1 : ∀ (NN : Nat) (i : Int) (AI_1 : gI) (H : Heap) (locs : List Loc) (ls : Array Slot), zr i → (mInv g gh R I AI_1) → (AI_1 (gh 50 0) = T) → (0 ≤ i ∧ i ≤ 4) → (4 - i) < ((NN : Nat) : Int) → gH g I R J AI_1 AJ AR H → va_S (gA g) s.heap H locs → lv_has ls 3 [(2, .int (iI i)), (0, .ref mo), (1, .int (iI fm))] → W p l e rmX7_takes s m ([.ref mo, .int (iI fm)] : List Value).toArray below meth c H locs 0 0 (MQ below (gQv g (fun w : gS => I = w.1 ∧ R = w.2.1 ∧ J = w.2.2.1 ∧ AJ = w.2.2.2.2.1 ∧ AR = w.2.2.2.2.2 ∧ (mInv g gh R I (w.2.2.2.1)) ∧ ((w.2.2.2.1) (gh 50 0) = T))) ([.ref mo, .int (iI fm)] : List Value).toArray s 0 0 (gA g)) (F0 m 2 ls []) := by
    intro NN2
    induction NN2 with
    | zero =>
      intro i AI_1 H locs ls zi hv hT hi hm2 hH hS hl
      exact absurd hm2 (by omega)
    | succ NN2 ih2 =>
      intro i AI_1 H locs ls zi hv hT hi hm2 hH hS hl
      refine lv_iload_n F.1 F.2.1 dX7_takes_2 rfl (lv_at hl 0 rfl) ?_
      refine z_iconst F dX7_takes_3 ?_
      refine z_icmp_ge (tgt := 27) F dX7_takes_4 (by decide) zi ⟨by decide, by decide⟩ (fun c_3 => ?_) (fun c_3 => ?_)
      · exact g_vret F hr hlk hH hS hz ⟨rfl, rfl, rfl, rfl, rfl, hv, hT⟩ dX7_takes_27
      · refine lv_aload_n F.1 F.2.1 dX7_takes_7 rfl (lv_at hl 1 rfl) ?_
        obtain ⟨r_4a, r_4b⟩ : R mo 27 = some (gh 77 0) ∧ gAr g (gh 77 0) 9 4 := mR hv hm (q := (27, 4)) (by decide)
        refine g_getR (ci := 7) (k := 27) F hH rfl (by decide) iX7 hm (by decide) rfl (b := gh 77 0) r_4a k45 dX7_takes_8 ?_
        refine lv_iload_n F.1 F.2.1 dX7_takes_11 rfl (lv_at hl 0 rfl) ?_
        refine lv_aload_n F.1 F.2.1 dX7_takes_12 rfl (lv_at hl 1 rfl) ?_
        obtain ⟨r_5a, r_5b⟩ : R mo 6 = some (gh 56 0) ∧ gAr g (gh 56 0) 9 126720 := mR hv hm (q := (6, 126720)) (by decide)
        refine g_getR (ci := 7) (k := 6) F hH rfl (by decide) iX7 hm (by decide) rfl (b := gh 56 0) r_5a k24 dX7_takes_13 ?_
        refine lv_iload_n F.1 F.2.1 dX7_takes_16 rfl (lv_at hl 2 rfl) ?_
        refine lv_iload_n F.1 F.2.1 dX7_takes_17 rfl (lv_at hl 0 rfl) ?_
        refine z_iadd F dX7_takes_18 ?_
        have hx19 : 0 ≤ (fm + i) ∧ (fm + i) < ((126720 : Nat) : Int) ∧ (fm + i) ≤ 2147483647 := ⟨by omega, by omega, by omega⟩
        refine g_iald F hH r_5b hx19.1 hx19.2.1 hx19.2.2 dX7_takes_19 ?_
        refine z_name (fun v_6 ev_6 => ?_)
        have zv_6 : zr v_6 := by rw [ev_6]; exact zr_t _
        have hx20 : 0 ≤ i ∧ i < ((4 : Nat) : Int) ∧ i ≤ 2147483647 := ⟨by omega, by omega, by omega⟩
        refine g_iast F hH hS r_4b hx20.1 hx20.2.1 hx20.2.2 dX7_takes_20 (fun H locs hH hS => ?_)
        obtain ⟨AI_7, eAI_7⟩ : ∃ qQ, qQ = gup2 AI_1 (gh 77 0) (i).toNat (iI (v_6)) := ⟨_, rfl⟩
        rw [← eAI_7] at hH
        have kAI_7 : ∀ b, b ≠ (gh 77 0) → AI_7 b = AI_1 b := fun b hb => by rw [eAI_7]; exact funext fun j => gup2_a _ _ hb
        have t_8 : AI_7 (gh 50 0) = AI_1 (gh 50 0) := mK hv hm (p := (0, 640)) (q := (27, 4)) (by decide) (by decide) (by decide) kAI_7
        have hv : mInv g gh R I AI_7 := mInv_a hv hm (q := (27, 4)) (by decide) (by decide) kAI_7
        have hT : AI_7 (gh 50 0) = T := t_8.trans hT
        refine z_iinc (lv' := [(2, .int (iI (i + 1))), (0, .ref mo), (1, .int (iI fm))]) F dX7_takes_21 hl (k := 0) rfl (by decide) rfl (fun ls hl => ?_)
        refine z_goto (tgt := 2) F dX7_takes_24 (by decide) ?_
        exact ih2 (i + 1) AI_7 H locs ls ⟨by omega, by omega⟩ hv hT (by omega) (by omega) hH hS (lv_sub hl [0, 1, 2] rfl)
  exact cut_2_1 (((4 - 0) + 1 : Int).toNat) 0 AI H locs ls ⟨by decide, by decide⟩ hv hT (by omega) (by omega) hH hS (lv_sub hl [0, 1, 2] rfl)

def rmX7_holds : Room := { frames := 1, cells := 0, slots := 0, locals := 23 }
theorem hdX7_holds : yX7_holds.cls = RX7 ∧ yX7_holds.cls ≠ "java/lang/invoke/MethodHandle" ∧ yX7_holds.cls ≠ "java/lang/invoke/VarHandle" ∧ (parseMethodDescriptor yX7_holds.desc).map (fun d => d.parameters.length) = some 2 := by decide +kernel
set_option maxHeartbeats 4000000 in
set_option maxRecDepth 100000 in
/-- holds -/
theorem c_X7_holds (l : Launch) (g : gG) (gh : gGh) (T : Nat → Int32) (I : gI) (R : gR) (J : gJ) (AI : gI) (AJ : gJ) (AR : gR) (mo : Nat) (rr : Int) (fm : Int) (zrr : zr rr) (zfm : zr fm) (hv : mInv g gh R I AI) (hm : gO g mo 7) (hT : AI (gh 50 0) = T) (hr0 : 0 ≤ rr ∧ rr < (I mo 2).toInt) (hk : tI T (40 * rr) = 1) (h0 : 0 ≤ fm ∧ fm + 4 ≤ 126720) : gMet l g yX7_holds tsX7_holds rmX7_holds [.ref mo, .int (iI rr), .int (iI fm)] (I, R, J, AI, AJ, AR) (gQi g (fun (z : Int) (w : gS) => I = w.1 ∧ R = w.2.1 ∧ J = w.2.2.1 ∧ AI = w.2.2.2.1 ∧ AJ = w.2.2.2.2.1 ∧ AR = w.2.2.2.2.2 ∧ (z = 0 ∨ z = 1))) := by
  refine gStart (cc := cX7_holds) (maxL := 7) (ret := (some (.boolean))) (by decide) rfl (Nat.le_of_ble_eq_true rfl) ?_
  intro p e s m below meth c ls F hr hlk hH hz hS hl
  have hl : lv_has ls 7 [(0, .ref mo), (1, .int (iI rr)), (2, .int (iI fm))] := hl
  have hS : va_S (gA g) s.heap s.heap [] := hS
  obtain ⟨H, hHe⟩ : ∃ H : Heap, H = s.heap := ⟨_, rfl⟩
  obtain ⟨locs, hlo⟩ : ∃ k : List Loc, k = [] := ⟨_, rfl⟩
  have hH : gH g I R J AI AJ AR H := by rw [hHe]; exact hH
  have hS : va_S (gA g) s.heap H locs := by rw [hHe, hlo]; exact hS
  suffices hw : W p l e rmX7_holds s m ([.ref mo, .int (iI rr), .int (iI fm)] : List Value).toArray below meth c H locs 0 0 (MQ below (gQi g (fun (z : Int) (w : gS) => I = w.1 ∧ R = w.2.1 ∧ J = w.2.2.1 ∧ AI = w.2.2.2.1 ∧ AJ = w.2.2.2.2.1 ∧ AR = w.2.2.2.2.2 ∧ (z = 0 ∨ z = 1))) ([.ref mo, .int (iI rr), .int (iI fm)] : List Value).toArray s 0 0 (gA g)) (F0 m 0 ls []) by
    rw [hHe, hlo] at hw; exact hw
  clear hHe hlo
  have hb0 := mJ hv hm
  unfold mNum1 at hb0
  have x := mRow hv hm hT (z := rr) (by omega) (by omega)
  have xa := x.1
  have xc := x.2.2.1
  have xb := x.2.1 (by omega)
  have x1 := x.2.2.2.2.1 (by omega)
  have iX7 : ∀ w ∈ u_ws RX7 TX7 32, w ∈ tsX7_holds := fun w h => List.mem_cons_of_mem _ (inTB7 w h)
  have k24 : Cond.fieldLink RX7 24 (TX7 6).1 (TX7 6).2.1 (TX7 6).2.2.1 ∈ tsX7_holds := List.mem_cons_of_mem _ fl_24
  refine z_iconst F dX7_holds_0 ?_
  refine lv_istore_n (lv' := [(3, .int (iI 0)), (0, .ref mo), (1, .int (iI rr)), (2, .int (iI fm))]) F.1 F.2.1 dX7_holds_1 rfl hl (by decide) rfl (fun ls hl => ?_)
  have cut_2_0 : ∀ (NN : Nat) (k : Int) (H : Heap) (locs : List Loc) (ls : Array Slot), zr k → (0 ≤ k ∧ k ≤ tI T (40 * rr + 4)) → (8 - k) < ((NN : Nat) : Int) → gH g I R J AI AJ AR H → va_S (gA g) s.heap H locs → lv_has ls 7 [(3, .int (iI k)), (0, .ref mo), (1, .int (iI rr)), (2, .int (iI fm))] → W p l e rmX7_holds s m ([.ref mo, .int (iI rr), .int (iI fm)] : List Value).toArray below meth c H locs 0 0 (MQ below (gQi g (fun (z : Int) (w : gS) => I = w.1 ∧ R = w.2.1 ∧ J = w.2.2.1 ∧ AI = w.2.2.2.1 ∧ AJ = w.2.2.2.2.1 ∧ AR = w.2.2.2.2.2 ∧ (z = 0 ∨ z = 1))) ([.ref mo, .int (iI rr), .int (iI fm)] : List Value).toArray s 0 0 (gA g)) (F0 m 2 ls []) := by
    intro NN2
    induction NN2 with
    | zero =>
      intro k H locs ls zk hk1 hm2 hH hS hl
      exact absurd hm2 (by omega)
    | succ NN2 ih2 =>
      intro k H locs ls zk hk1 hm2 hH hS hl
      refine lv_iload_n F.1 F.2.1 dX7_holds_2 rfl (lv_at hl 0 rfl) ?_
      refine lv_aload_n F.1 F.2.1 dX7_holds_3 rfl (lv_at hl 1 rfl) ?_
      refine lv_iload_n F.1 F.2.1 dX7_holds_4 rfl (lv_at hl 2 rfl) ?_
      have b_2 := mJ hv hm
      unfold mNum1 at b_2
      refine g_calli (g_runV (As := [.int (iI rr)]) (rest := [.int (iI k)]) (ci := 7) F hl.1 hH hS hz (c_X7_partsOf l g gh T I R J AI AJ AR mo rr zrr hv hm hT (by omega)) (cwV 1 F.2.2.2.2.1 (good_up gT_X7_partsOf) rfl rfl rfl hdX7_partsOf ⟨Nat.le_of_ble_eq_true rfl, Nat.le_of_ble_eq_true rfl⟩) hm (by decide) rfl rfl rfl (Nat.le_of_ble_eq_true rfl) dX7_holds_5 ⟨Nat.zero_le _, Nat.zero_le _⟩) hS (fun v_9 I_3 R_4 J_5 AI_6 AJ_7 AR_8 H locs zv_9 hp_10 hH hS => ?_)
      dsimp only at hp_10
      obtain ⟨rfl, rfl, rfl, rfl, rfl, rfl, q_11⟩ := hp_10
      refine z_icmp_ge (tgt := 119) F dX7_holds_8 (by decide) zk zv_9 (fun c_12 => ?_) (fun c_12 => ?_)
      · refine z_iconst F dX7_holds_119 ?_
        exact g_zret F hr hlk hH hS hz (by omega) ⟨rfl, rfl, rfl, rfl, rfl, rfl, by first | omega | rfl | (dsimp only; omega)⟩ dX7_holds_120
      · have q1 := x1 k (by omega) (by omega)
        refine lv_aload_n F.1 F.2.1 dX7_holds_11 rfl (lv_at hl 1 rfl) ?_
        obtain ⟨r_13a, r_13b⟩ : R mo 6 = some (gh 56 0) ∧ gAr g (gh 56 0) 9 126720 := mR hv hm (q := (6, 126720)) (by decide)
        refine g_getR (ci := 7) (k := 6) F hH rfl (by decide) iX7 hm (by decide) rfl (b := gh 56 0) r_13a k24 dX7_holds_12 ?_
        refine lv_iload_n F.1 F.2.1 dX7_holds_15 rfl (lv_at hl 3 rfl) ?_
        refine lv_aload_n F.1 F.2.1 dX7_holds_16 rfl (lv_at hl 1 rfl) ?_
        refine lv_iload_n F.1 F.2.1 dX7_holds_17 rfl (lv_at hl 2 rfl) ?_
        refine lv_iload_n F.1 F.2.1 dX7_holds_18 rfl (lv_at hl 0 rfl) ?_
        refine z_iconst F dX7_holds_19 ?_
        refine g_calli (g_runV (As := [.int (iI rr), .int (iI k), .int (iI 0)]) (rest := [.int (iI fm), .ref (gh 56 0)]) (ci := 7) F hl.1 hH hS hz (c_X7_part l g gh T I R J AI AJ AR mo rr k 0 zrr zk ⟨by decide, by decide⟩ hv hm hT (by omega) (by omega) (by omega)) (cwV 3 F.2.2.2.2.1 (good_up gT_X7_part) rfl rfl rfl hdX7_part ⟨Nat.le_of_ble_eq_true rfl, Nat.le_of_ble_eq_true rfl⟩) hm (by decide) rfl rfl rfl (Nat.le_of_ble_eq_true rfl) dX7_holds_20 ⟨Nat.zero_le _, Nat.zero_le _⟩) hS (fun v_20 I_14 R_15 J_16 AI_17 AJ_18 AR_19 H locs zv_20 hp_21 hH hS => ?_)
        dsimp only at hp_21
        obtain ⟨rfl, rfl, rfl, rfl, rfl, rfl, q_22⟩ := hp_21
        refine z_iadd F dX7_holds_23 ?_
        have hx24 : 0 ≤ (fm + v_20) ∧ (fm + v_20) < ((126720 : Nat) : Int) ∧ (fm + v_20) ≤ 2147483647 := ⟨by omega, by omega, by omega⟩
        refine g_iald F hH r_13b hx24.1 hx24.2.1 hx24.2.2 dX7_holds_24 ?_
        refine z_name (fun v_23 ev_23 => ?_)
        have zv_23 : zr v_23 := by rw [ev_23]; exact zr_t _
        refine lv_istore (lv' := [(4, .int (iI v_23)), (3, .int (iI k)), (0, .ref mo), (1, .int (iI rr)), (2, .int (iI fm))]) F.1 F.2.1 dX7_holds_25 hl (by decide) rfl (fun ls hl => ?_)
        refine lv_aload_n F.1 F.2.1 dX7_holds_27 rfl (lv_at hl 2 rfl) ?_
        refine lv_iload_n F.1 F.2.1 dX7_holds_28 rfl (lv_at hl 3 rfl) ?_
        refine lv_iload_n F.1 F.2.1 dX7_holds_29 rfl (lv_at hl 1 rfl) ?_
        refine z_iconst F dX7_holds_30 ?_
        refine g_calli (g_runV (As := [.int (iI rr), .int (iI k), .int (iI 2)]) (rest := []) (ci := 7) F hl.1 hH hS hz (c_X7_part l g gh T I R J AI AJ AR mo rr k 2 zrr zk ⟨by decide, by decide⟩ hv hm hT (by omega) (by omega) (by omega)) (cwV 3 F.2.2.2.2.1 (good_up gT_X7_part) rfl rfl rfl hdX7_part ⟨Nat.le_of_ble_eq_true rfl, Nat.le_of_ble_eq_true rfl⟩) hm (by decide) rfl rfl rfl (Nat.le_of_ble_eq_true rfl) dX7_holds_31 ⟨Nat.zero_le _, Nat.zero_le _⟩) hS (fun v_30 I_24 R_25 J_26 AI_27 AJ_28 AR_29 H locs zv_30 hp_31 hH hS => ?_)
        dsimp only at hp_31
        obtain ⟨rfl, rfl, rfl, rfl, rfl, rfl, q_32⟩ := hp_31
        refine z_iconst F dX7_holds_34 ?_
        refine z_icmp_ne (tgt := 55) F dX7_holds_35 (by decide) zv_30 ⟨by decide, by decide⟩ (fun c_33 => ?_) (fun c_33 => ?_)
        · refine lv_aload_n F.1 F.2.1 dX7_holds_55 rfl (lv_at hl 2 rfl) ?_
          refine lv_iload_n F.1 F.2.1 dX7_holds_56 rfl (lv_at hl 3 rfl) ?_
          refine lv_iload_n F.1 F.2.1 dX7_holds_57 rfl (lv_at hl 1 rfl) ?_
          refine z_iconst F dX7_holds_58 ?_
          refine g_calli (g_runV (As := [.int (iI rr), .int (iI k), .int (iI 3)]) (rest := []) (ci := 7) F hl.1 hH hS hz (c_X7_part l g gh T I R J AI AJ AR mo rr k 3 zrr zk ⟨by decide, by decide⟩ hv hm hT (by omega) (by omega) (by omega)) (cwV 3 F.2.2.2.2.1 (good_up gT_X7_part) rfl rfl rfl hdX7_part ⟨Nat.le_of_ble_eq_true rfl, Nat.le_of_ble_eq_true rfl⟩) hm (by decide) rfl rfl rfl (Nat.le_of_ble_eq_true rfl) dX7_holds_59 ⟨Nat.zero_le _, Nat.zero_le _⟩) hS (fun v_40 I_34 R_35 J_36 AI_37 AJ_38 AR_39 H locs zv_40 hp_41 hH hS => ?_)
          dsimp only at hp_41
          obtain ⟨rfl, rfl, rfl, rfl, rfl, rfl, q_42⟩ := hp_41
          refine lv_istore (lv' := [(5, .int (iI v_40)), (4, .int (iI v_23)), (3, .int (iI k)), (0, .ref mo), (1, .int (iI rr)), (2, .int (iI fm))]) F.1 F.2.1 dX7_holds_62 hl (by decide) rfl (fun ls hl => ?_)
          refine lv_aload_n F.1 F.2.1 dX7_holds_64 rfl (lv_at hl 3 rfl) ?_
          refine lv_iload_n F.1 F.2.1 dX7_holds_65 rfl (lv_at hl 4 rfl) ?_
          refine lv_iload_n F.1 F.2.1 dX7_holds_66 rfl (lv_at hl 2 rfl) ?_
          refine z_iconst F dX7_holds_67 ?_
          refine g_calli (g_runV (As := [.int (iI rr), .int (iI k), .int (iI 1)]) (rest := []) (ci := 7) F hl.1 hH hS hz (c_X7_part l g gh T I R J AI AJ AR mo rr k 1 zrr zk ⟨by decide, by decide⟩ hv hm hT (by omega) (by omega) (by omega)) (cwV 3 F.2.2.2.2.1 (good_up gT_X7_part) rfl rfl rfl hdX7_part ⟨Nat.le_of_ble_eq_true rfl, Nat.le_of_ble_eq_true rfl⟩) hm (by decide) rfl rfl rfl (Nat.le_of_ble_eq_true rfl) dX7_holds_68 ⟨Nat.zero_le _, Nat.zero_le _⟩) hS (fun v_49 I_43 R_44 J_45 AI_46 AJ_47 AR_48 H locs zv_49 hp_50 hH hS => ?_)
          dsimp only at hp_50
          obtain ⟨rfl, rfl, rfl, rfl, rfl, rfl, q_51⟩ := hp_50
          refine lv_istore (lv' := [(6, .int (iI v_49)), (5, .int (iI v_40)), (4, .int (iI v_23)), (3, .int (iI k)), (0, .ref mo), (1, .int (iI rr)), (2, .int (iI fm))]) F.1 F.2.1 dX7_holds_71 hl (by decide) rfl (fun ls hl => ?_)
          refine lv_iload F.1 F.2.1 dX7_holds_73 (lv_at hl 0 rfl) ?_
          refine z_if_ne (tgt := 88) F dX7_holds_75 (by decide) zv_49 (fun c_52 => ?_) (fun c_52 => ?_)
          · refine lv_iload F.1 F.2.1 dX7_holds_88 (lv_at hl 0 rfl) ?_
            refine z_iconst F dX7_holds_90 ?_
            refine z_icmp_ne (tgt := 104) F dX7_holds_91 (by decide) zv_49 ⟨by decide, by decide⟩ (fun c_53 => ?_) (fun c_53 => ?_)
            · refine lv_iload F.1 F.2.1 dX7_holds_104 (lv_at hl 2 rfl) ?_
              refine lv_iload F.1 F.2.1 dX7_holds_106 (lv_at hl 1 rfl) ?_
              refine z_icmp_gt (tgt := 113) F dX7_holds_108 (by decide) zv_23 zv_40 (fun c_54 => ?_) (fun c_54 => ?_)
              · refine z_iinc (lv' := [(3, .int (iI (k + 1))), (6, .int (iI v_49)), (5, .int (iI v_40)), (4, .int (iI v_23)), (0, .ref mo), (1, .int (iI rr)), (2, .int (iI fm))]) F dX7_holds_113 hl (k := 3) rfl (by decide) rfl (fun ls hl => ?_)
                refine z_goto (tgt := 2) F dX7_holds_116 (by decide) ?_
                exact ih2 (k + 1) H locs ls ⟨by omega, by omega⟩ (by omega) (by omega) hH hS (lv_sub hl [0, 4, 5, 6] rfl)
              · refine z_iconst F dX7_holds_111 ?_
                exact g_zret F hr hlk hH hS hz (by omega) ⟨rfl, rfl, rfl, rfl, rfl, rfl, by first | omega | rfl | (dsimp only; omega)⟩ dX7_holds_112
            · refine lv_iload F.1 F.2.1 dX7_holds_94 (lv_at hl 2 rfl) ?_
              refine lv_iload F.1 F.2.1 dX7_holds_96 (lv_at hl 1 rfl) ?_
              refine z_icmp_lt (tgt := 113) F dX7_holds_98 (by decide) zv_23 zv_40 (fun c_55 => ?_) (fun c_55 => ?_)
              · refine z_iinc (lv' := [(3, .int (iI (k + 1))), (6, .int (iI v_49)), (5, .int (iI v_40)), (4, .int (iI v_23)), (0, .ref mo), (1, .int (iI rr)), (2, .int (iI fm))]) F dX7_holds_113 hl (k := 3) rfl (by decide) rfl (fun ls hl => ?_)
                refine z_goto (tgt := 2) F dX7_holds_116 (by decide) ?_
                exact ih2 (k + 1) H locs ls ⟨by omega, by omega⟩ (by omega) (by omega) hH hS (lv_sub hl [0, 4, 5, 6] rfl)
              · refine z_goto (tgt := 111) F dX7_holds_101 (by decide) ?_
                refine z_iconst F dX7_holds_111 ?_
                exact g_zret F hr hlk hH hS hz (by omega) ⟨rfl, rfl, rfl, rfl, rfl, rfl, by first | omega | rfl | (dsimp only; omega)⟩ dX7_holds_112
          · refine lv_iload F.1 F.2.1 dX7_holds_78 (lv_at hl 2 rfl) ?_
            refine lv_iload F.1 F.2.1 dX7_holds_80 (lv_at hl 1 rfl) ?_
            refine z_icmp_eq (tgt := 113) F dX7_holds_82 (by decide) zv_23 zv_40 (fun c_56 => ?_) (fun c_56 => ?_)
            · refine z_iinc (lv' := [(3, .int (iI (k + 1))), (6, .int (iI v_49)), (5, .int (iI v_40)), (4, .int (iI v_23)), (0, .ref mo), (1, .int (iI rr)), (2, .int (iI fm))]) F dX7_holds_113 hl (k := 3) rfl (by decide) rfl (fun ls hl => ?_)
              refine z_goto (tgt := 2) F dX7_holds_116 (by decide) ?_
              exact ih2 (k + 1) H locs ls ⟨by omega, by omega⟩ (by omega) (by omega) hH hS (lv_sub hl [0, 4, 5, 6] rfl)
            · refine z_goto (tgt := 111) F dX7_holds_85 (by decide) ?_
              refine z_iconst F dX7_holds_111 ?_
              exact g_zret F hr hlk hH hS hz (by omega) ⟨rfl, rfl, rfl, rfl, rfl, rfl, by first | omega | rfl | (dsimp only; omega)⟩ dX7_holds_112
        · refine lv_aload_n F.1 F.2.1 dX7_holds_38 rfl (lv_at hl 2 rfl) ?_
          refine g_getR (ci := 7) (k := 6) F hH rfl (by decide) iX7 hm (by decide) rfl (b := gh 56 0) r_13a k24 dX7_holds_39 ?_
          refine lv_iload_n F.1 F.2.1 dX7_holds_42 rfl (lv_at hl 4 rfl) ?_
          refine lv_aload_n F.1 F.2.1 dX7_holds_43 rfl (lv_at hl 2 rfl) ?_
          refine lv_iload_n F.1 F.2.1 dX7_holds_44 rfl (lv_at hl 3 rfl) ?_
          refine lv_iload_n F.1 F.2.1 dX7_holds_45 rfl (lv_at hl 1 rfl) ?_
          refine z_iconst F dX7_holds_46 ?_
          refine g_calli (g_runV (As := [.int (iI rr), .int (iI k), .int (iI 3)]) (rest := [.int (iI fm), .ref (gh 56 0)]) (ci := 7) F hl.1 hH hS hz (c_X7_part l g gh T I R J AI AJ AR mo rr k 3 zrr zk ⟨by decide, by decide⟩ hv hm hT (by omega) (by omega) (by omega)) (cwV 3 F.2.2.2.2.1 (good_up gT_X7_part) rfl rfl rfl hdX7_part ⟨Nat.le_of_ble_eq_true rfl, Nat.le_of_ble_eq_true rfl⟩) hm (by decide) rfl rfl rfl (Nat.le_of_ble_eq_true rfl) dX7_holds_47 ⟨Nat.zero_le _, Nat.zero_le _⟩) hS (fun v_63 I_57 R_58 J_59 AI_60 AJ_61 AR_62 H locs zv_63 hp_64 hH hS => ?_)
          dsimp only at hp_64
          obtain ⟨rfl, rfl, rfl, rfl, rfl, rfl, q_65⟩ := hp_64
          refine z_iadd F dX7_holds_50 ?_
          have hx51 : 0 ≤ (fm + v_63) ∧ (fm + v_63) < ((126720 : Nat) : Int) ∧ (fm + v_63) ≤ 2147483647 := ⟨by omega, by omega, by omega⟩
          refine g_iald F hH r_13b hx51.1 hx51.2.1 hx51.2.2 dX7_holds_51 ?_
          refine z_name (fun v_66 ev_66 => ?_)
          have zv_66 : zr v_66 := by rw [ev_66]; exact zr_t _
          refine z_goto (tgt := 62) F dX7_holds_52 (by decide) ?_
          refine lv_istore (lv' := [(5, .int (iI v_66)), (4, .int (iI v_23)), (3, .int (iI k)), (0, .ref mo), (1, .int (iI rr)), (2, .int (iI fm))]) F.1 F.2.1 dX7_holds_62 hl (by decide) rfl (fun ls hl => ?_)
          refine lv_aload_n F.1 F.2.1 dX7_holds_64 rfl (lv_at hl 3 rfl) ?_
          refine lv_iload_n F.1 F.2.1 dX7_holds_65 rfl (lv_at hl 4 rfl) ?_
          refine lv_iload_n F.1 F.2.1 dX7_holds_66 rfl (lv_at hl 2 rfl) ?_
          refine z_iconst F dX7_holds_67 ?_
          refine g_calli (g_runV (As := [.int (iI rr), .int (iI k), .int (iI 1)]) (rest := []) (ci := 7) F hl.1 hH hS hz (c_X7_part l g gh T I R J AI AJ AR mo rr k 1 zrr zk ⟨by decide, by decide⟩ hv hm hT (by omega) (by omega) (by omega)) (cwV 3 F.2.2.2.2.1 (good_up gT_X7_part) rfl rfl rfl hdX7_part ⟨Nat.le_of_ble_eq_true rfl, Nat.le_of_ble_eq_true rfl⟩) hm (by decide) rfl rfl rfl (Nat.le_of_ble_eq_true rfl) dX7_holds_68 ⟨Nat.zero_le _, Nat.zero_le _⟩) hS (fun v_73 I_67 R_68 J_69 AI_70 AJ_71 AR_72 H locs zv_73 hp_74 hH hS => ?_)
          dsimp only at hp_74
          obtain ⟨rfl, rfl, rfl, rfl, rfl, rfl, q_75⟩ := hp_74
          refine lv_istore (lv' := [(6, .int (iI v_73)), (5, .int (iI v_66)), (4, .int (iI v_23)), (3, .int (iI k)), (0, .ref mo), (1, .int (iI rr)), (2, .int (iI fm))]) F.1 F.2.1 dX7_holds_71 hl (by decide) rfl (fun ls hl => ?_)
          refine lv_iload F.1 F.2.1 dX7_holds_73 (lv_at hl 0 rfl) ?_
          refine z_if_ne (tgt := 88) F dX7_holds_75 (by decide) zv_73 (fun c_76 => ?_) (fun c_76 => ?_)
          · refine lv_iload F.1 F.2.1 dX7_holds_88 (lv_at hl 0 rfl) ?_
            refine z_iconst F dX7_holds_90 ?_
            refine z_icmp_ne (tgt := 104) F dX7_holds_91 (by decide) zv_73 ⟨by decide, by decide⟩ (fun c_77 => ?_) (fun c_77 => ?_)
            · refine lv_iload F.1 F.2.1 dX7_holds_104 (lv_at hl 2 rfl) ?_
              refine lv_iload F.1 F.2.1 dX7_holds_106 (lv_at hl 1 rfl) ?_
              refine z_icmp_gt (tgt := 113) F dX7_holds_108 (by decide) zv_23 zv_66 (fun c_78 => ?_) (fun c_78 => ?_)
              · refine z_iinc (lv' := [(3, .int (iI (k + 1))), (6, .int (iI v_73)), (5, .int (iI v_66)), (4, .int (iI v_23)), (0, .ref mo), (1, .int (iI rr)), (2, .int (iI fm))]) F dX7_holds_113 hl (k := 3) rfl (by decide) rfl (fun ls hl => ?_)
                refine z_goto (tgt := 2) F dX7_holds_116 (by decide) ?_
                exact ih2 (k + 1) H locs ls ⟨by omega, by omega⟩ (by omega) (by omega) hH hS (lv_sub hl [0, 4, 5, 6] rfl)
              · refine z_iconst F dX7_holds_111 ?_
                exact g_zret F hr hlk hH hS hz (by omega) ⟨rfl, rfl, rfl, rfl, rfl, rfl, by first | omega | rfl | (dsimp only; omega)⟩ dX7_holds_112
            · refine lv_iload F.1 F.2.1 dX7_holds_94 (lv_at hl 2 rfl) ?_
              refine lv_iload F.1 F.2.1 dX7_holds_96 (lv_at hl 1 rfl) ?_
              refine z_icmp_lt (tgt := 113) F dX7_holds_98 (by decide) zv_23 zv_66 (fun c_79 => ?_) (fun c_79 => ?_)
              · refine z_iinc (lv' := [(3, .int (iI (k + 1))), (6, .int (iI v_73)), (5, .int (iI v_66)), (4, .int (iI v_23)), (0, .ref mo), (1, .int (iI rr)), (2, .int (iI fm))]) F dX7_holds_113 hl (k := 3) rfl (by decide) rfl (fun ls hl => ?_)
                refine z_goto (tgt := 2) F dX7_holds_116 (by decide) ?_
                exact ih2 (k + 1) H locs ls ⟨by omega, by omega⟩ (by omega) (by omega) hH hS (lv_sub hl [0, 4, 5, 6] rfl)
              · refine z_goto (tgt := 111) F dX7_holds_101 (by decide) ?_
                refine z_iconst F dX7_holds_111 ?_
                exact g_zret F hr hlk hH hS hz (by omega) ⟨rfl, rfl, rfl, rfl, rfl, rfl, by first | omega | rfl | (dsimp only; omega)⟩ dX7_holds_112
          · refine lv_iload F.1 F.2.1 dX7_holds_78 (lv_at hl 2 rfl) ?_
            refine lv_iload F.1 F.2.1 dX7_holds_80 (lv_at hl 1 rfl) ?_
            refine z_icmp_eq (tgt := 113) F dX7_holds_82 (by decide) zv_23 zv_66 (fun c_80 => ?_) (fun c_80 => ?_)
            · refine z_iinc (lv' := [(3, .int (iI (k + 1))), (6, .int (iI v_73)), (5, .int (iI v_66)), (4, .int (iI v_23)), (0, .ref mo), (1, .int (iI rr)), (2, .int (iI fm))]) F dX7_holds_113 hl (k := 3) rfl (by decide) rfl (fun ls hl => ?_)
              refine z_goto (tgt := 2) F dX7_holds_116 (by decide) ?_
              exact ih2 (k + 1) H locs ls ⟨by omega, by omega⟩ (by omega) (by omega) hH hS (lv_sub hl [0, 4, 5, 6] rfl)
            · refine z_goto (tgt := 111) F dX7_holds_85 (by decide) ?_
              refine z_iconst F dX7_holds_111 ?_
              exact g_zret F hr hlk hH hS hz (by omega) ⟨rfl, rfl, rfl, rfl, rfl, rfl, by first | omega | rfl | (dsimp only; omega)⟩ dX7_holds_112
  exact cut_2_0 (((8 - 0) + 1 : Int).toNat) 0 H locs ls ⟨by decide, by decide⟩ (by omega) (by omega) hH hS (lv_sub hl [0, 1, 2, 3] rfl)

def rmX7_terms : Room := { frames := 1, cells := 0, slots := 0, locals := 23 }
theorem hdX7_terms : yX7_terms.cls = RX7 ∧ yX7_terms.cls ≠ "java/lang/invoke/MethodHandle" ∧ yX7_terms.cls ≠ "java/lang/invoke/VarHandle" ∧ (parseMethodDescriptor yX7_terms.desc).map (fun d => d.parameters.length) = some 3 := by decide +kernel
set_option maxHeartbeats 4000000 in
set_option maxRecDepth 100000 in
/-- terms -/
theorem c_X7_terms (l : Launch) (g : gG) (gh : gGh) (T : Nat → Int32) (I : gI) (R : gR) (J : gJ) (AI : gI) (AJ : gJ) (AR : gR) (mo : Nat) (rr : Int) (fm : Int) (n : Int) (zrr : zr rr) (zfm : zr fm) (zn : zr n) (hv : mInv g gh R I AI) (hm : gO g mo 7) (hT : AI (gh 50 0) = T) (hr0 : 0 ≤ rr ∧ rr ≤ 15) (h0 : 0 ≤ fm ∧ fm ≤ 1) (hq : ∀ k : Int, 0 ≤ k → k < 4 → k < n → mP T rr (fm + k) 0 ≤ 3) : gMet l g yX7_terms tsX7_terms rmX7_terms [.ref mo, .int (iI rr), .int (iI fm), .int (iI n)] (I, R, J, AI, AJ, AR) (gQv g (fun w : gS => I = w.1 ∧ R = w.2.1 ∧ J = w.2.2.1 ∧ AJ = w.2.2.2.2.1 ∧ AR = w.2.2.2.2.2 ∧ (mInv g gh R I (w.2.2.2.1)) ∧ ((w.2.2.2.1) (gh 50 0) = T))) := by
  refine gStart (cc := cX7_terms) (maxL := 5) (ret := none) (by decide) rfl (Nat.le_of_ble_eq_true rfl) ?_
  intro p e s m below meth c ls F hr hlk hH hz hS hl
  have hl : lv_has ls 5 [(0, .ref mo), (1, .int (iI rr)), (2, .int (iI fm)), (3, .int (iI n))] := hl
  have hS : va_S (gA g) s.heap s.heap [] := hS
  obtain ⟨H, hHe⟩ : ∃ H : Heap, H = s.heap := ⟨_, rfl⟩
  obtain ⟨locs, hlo⟩ : ∃ k : List Loc, k = [] := ⟨_, rfl⟩
  have hH : gH g I R J AI AJ AR H := by rw [hHe]; exact hH
  have hS : va_S (gA g) s.heap H locs := by rw [hHe, hlo]; exact hS
  suffices hw : W p l e rmX7_terms s m ([.ref mo, .int (iI rr), .int (iI fm), .int (iI n)] : List Value).toArray below meth c H locs 0 0 (MQ below (gQv g (fun w : gS => I = w.1 ∧ R = w.2.1 ∧ J = w.2.2.1 ∧ AJ = w.2.2.2.2.1 ∧ AR = w.2.2.2.2.2 ∧ (mInv g gh R I (w.2.2.2.1)) ∧ ((w.2.2.2.1) (gh 50 0) = T))) ([.ref mo, .int (iI rr), .int (iI fm), .int (iI n)] : List Value).toArray s 0 0 (gA g)) (F0 m 0 ls []) by
    rw [hHe, hlo] at hw; exact hw
  clear hHe hlo
  have iX7 : ∀ w ∈ u_ws RX7 TX7 32, w ∈ tsX7_terms := fun w h => List.mem_cons_of_mem _ (inTB7 w h)
  have k45 : Cond.fieldLink RX7 45 (TX7 27).1 (TX7 27).2.1 (TX7 27).2.2.1 ∈ tsX7_terms := List.mem_cons_of_mem _ fl_45
  have k48 : Cond.fieldLink RX7 48 (TX7 28).1 (TX7 28).2.1 (TX7 28).2.2.1 ∈ tsX7_terms := List.mem_cons_of_mem _ fl_48
  refine z_iconst F dX7_terms_0 ?_
  refine lv_istore (lv' := [(4, .int (iI 0)), (0, .ref mo), (1, .int (iI rr)), (2, .int (iI fm)), (3, .int (iI n))]) F.1 F.2.1 dX7_terms_1 hl (by decide) rfl (fun ls hl => ?_)
  have cut_3_1 : ∀ (NN : Nat) (k : Int) (AI_1 : gI) (H : Heap) (locs : List Loc) (ls : Array Slot), zr k → (mInv g gh R I AI_1) → (AI_1 (gh 50 0) = T) → (0 ≤ k ∧ k ≤ 4) → (4 - k) < ((NN : Nat) : Int) → gH g I R J AI_1 AJ AR H → va_S (gA g) s.heap H locs → lv_has ls 5 [(4, .int (iI k)), (0, .ref mo), (1, .int (iI rr)), (2, .int (iI fm)), (3, .int (iI n))] → W p l e rmX7_terms s m ([.ref mo, .int (iI rr), .int (iI fm), .int (iI n)] : List Value).toArray below meth c H locs 0 0 (MQ below (gQv g (fun w : gS => I = w.1 ∧ R = w.2.1 ∧ J = w.2.2.1 ∧ AJ = w.2.2.2.2.1 ∧ AR = w.2.2.2.2.2 ∧ (mInv g gh R I (w.2.2.2.1)) ∧ ((w.2.2.2.1) (gh 50 0) = T))) ([.ref mo, .int (iI rr), .int (iI fm), .int (iI n)] : List Value).toArray s 0 0 (gA g)) (F0 m 3 ls []) := by
    intro NN3
    induction NN3 with
    | zero =>
      intro k AI_1 H locs ls zk hv hT hk1 hm3 hH hS hl
      exact absurd hm3 (by omega)
    | succ NN3 ih3 =>
      intro k AI_1 H locs ls zk hv hT hk1 hm3 hH hS hl
      refine lv_iload F.1 F.2.1 dX7_terms_3 (lv_at hl 0 rfl) ?_
      refine z_iconst F dX7_terms_5 ?_
      refine z_icmp_ge (tgt := 91) F dX7_terms_6 (by decide) zk ⟨by decide, by decide⟩ (fun c_3 => ?_) (fun c_3 => ?_)
      · exact g_vret F hr hlk hH hS hz ⟨rfl, rfl, rfl, rfl, rfl, hv, hT⟩ dX7_terms_91
      · refine lv_iload F.1 F.2.1 dX7_terms_9 (lv_at hl 0 rfl) ?_
        refine lv_iload_n F.1 F.2.1 dX7_terms_11 rfl (lv_at hl 4 rfl) ?_
        refine z_icmp_lt (tgt := 26) F dX7_terms_12 (by decide) zk zn (fun c_4 => ?_) (fun c_4 => ?_)
        · have q1 := hq k (by omega) (by omega) (by omega)
          refine lv_aload_n F.1 F.2.1 dX7_terms_26 rfl (lv_at hl 1 rfl) ?_
          obtain ⟨r_5a, r_5b⟩ : R mo 27 = some (gh 77 0) ∧ gAr g (gh 77 0) 9 4 := mR hv hm (q := (27, 4)) (by decide)
          refine g_getR (ci := 7) (k := 27) F hH rfl (by decide) iX7 hm (by decide) rfl (b := gh 77 0) r_5a k45 dX7_terms_27 ?_
          refine lv_iload F.1 F.2.1 dX7_terms_30 (lv_at hl 0 rfl) ?_
          refine lv_aload_n F.1 F.2.1 dX7_terms_32 rfl (lv_at hl 1 rfl) ?_
          refine lv_iload_n F.1 F.2.1 dX7_terms_33 rfl (lv_at hl 2 rfl) ?_
          refine lv_iload_n F.1 F.2.1 dX7_terms_34 rfl (lv_at hl 3 rfl) ?_
          refine lv_iload F.1 F.2.1 dX7_terms_35 (lv_at hl 0 rfl) ?_
          refine z_iadd F dX7_terms_37 ?_
          refine z_iconst F dX7_terms_38 ?_
          have b_6 := mJ hv hm
          unfold mNum1 at b_6
          refine g_calli (g_runV (As := [.int (iI rr), .int (iI (fm + k)), .int (iI 0)]) (rest := [.int (iI k), .ref (gh 77 0)]) (ci := 7) F hl.1 hH hS hz (c_X7_part l g gh T I R J AI_1 AJ AR mo rr (fm + k) 0 zrr ⟨by omega, by omega⟩ ⟨by decide, by decide⟩ hv hm hT (by omega) (by omega) (by omega)) (cwV 3 F.2.2.2.2.1 (good_up gT_X7_part) rfl rfl rfl hdX7_part ⟨Nat.le_of_ble_eq_true rfl, Nat.le_of_ble_eq_true rfl⟩) hm (by decide) rfl rfl rfl (Nat.le_of_ble_eq_true rfl) dX7_terms_39 ⟨Nat.zero_le _, Nat.zero_le _⟩) hS (fun v_13 I_7 R_8 J_9 AI_10 AJ_11 AR_12 H locs zv_13 hp_14 hH hS => ?_)
          dsimp only at hp_14
          obtain ⟨rfl, rfl, rfl, rfl, rfl, rfl, q_15⟩ := hp_14
          refine z_if_ge (tgt := 58) F dX7_terms_42 (by decide) zv_13 (fun c_16 => ?_) (fun c_16 => ?_)
          · refine lv_aload_n F.1 F.2.1 dX7_terms_58 rfl (lv_at hl 1 rfl) ?_
            obtain ⟨r_17a, r_17b⟩ : R mo 28 = some (gh 78 0) ∧ gAr g (gh 78 0) 9 8 := mR hv hm (q := (28, 8)) (by decide)
            refine g_getR (ci := 7) (k := 28) F hH rfl (by decide) iX7 hm (by decide) rfl (b := gh 78 0) r_17a k48 dX7_terms_59 ?_
            refine lv_aload_n F.1 F.2.1 dX7_terms_62 rfl (lv_at hl 1 rfl) ?_
            refine lv_iload_n F.1 F.2.1 dX7_terms_63 rfl (lv_at hl 2 rfl) ?_
            refine lv_iload_n F.1 F.2.1 dX7_terms_64 rfl (lv_at hl 3 rfl) ?_
            refine lv_iload F.1 F.2.1 dX7_terms_65 (lv_at hl 0 rfl) ?_
            refine z_iadd F dX7_terms_67 ?_
            refine z_iconst F dX7_terms_68 ?_
            refine g_calli (g_runV (As := [.int (iI rr), .int (iI (fm + k)), .int (iI 0)]) (rest := [.ref (gh 78 0), .int (iI k), .ref (gh 77 0)]) (ci := 7) F hl.1 hH hS hz (c_X7_part l g gh T I R J AI_1 AJ AR mo rr (fm + k) 0 zrr ⟨by omega, by omega⟩ ⟨by decide, by decide⟩ hv hm hT (by omega) (by omega) (by omega)) (cwV 3 F.2.2.2.2.1 (good_up gT_X7_part) rfl rfl rfl hdX7_part ⟨Nat.le_of_ble_eq_true rfl, Nat.le_of_ble_eq_true rfl⟩) hm (by decide) rfl rfl rfl (Nat.le_of_ble_eq_true rfl) dX7_terms_69 ⟨Nat.zero_le _, Nat.zero_le _⟩) hS (fun v_24 I_18 R_19 J_20 AI_21 AJ_22 AR_23 H locs zv_24 hp_25 hH hS => ?_)
            dsimp only at hp_25
            obtain ⟨rfl, rfl, rfl, rfl, rfl, rfl, q_26⟩ := hp_25
            have hx72 : 0 ≤ v_24 ∧ v_24 < ((8 : Nat) : Int) ∧ v_24 ≤ 2147483647 := ⟨by omega, by omega, by omega⟩
            refine g_iald F hH r_17b hx72.1 hx72.2.1 hx72.2.2 dX7_terms_72 ?_
            refine z_name (fun v_27 ev_27 => ?_)
            have zv_27 : zr v_27 := by rw [ev_27]; exact zr_t _
            refine lv_aload_n F.1 F.2.1 dX7_terms_73 rfl (lv_at hl 1 rfl) ?_
            refine lv_iload_n F.1 F.2.1 dX7_terms_74 rfl (lv_at hl 2 rfl) ?_
            refine lv_iload_n F.1 F.2.1 dX7_terms_75 rfl (lv_at hl 3 rfl) ?_
            refine lv_iload F.1 F.2.1 dX7_terms_76 (lv_at hl 0 rfl) ?_
            refine z_iadd F dX7_terms_78 ?_
            refine z_iconst F dX7_terms_79 ?_
            refine g_calli (g_runV (As := [.int (iI rr), .int (iI (fm + k)), .int (iI 1)]) (rest := [.int (iI v_27), .int (iI k), .ref (gh 77 0)]) (ci := 7) F hl.1 hH hS hz (c_X7_part l g gh T I R J AI_1 AJ AR mo rr (fm + k) 1 zrr ⟨by omega, by omega⟩ ⟨by decide, by decide⟩ hv hm hT (by omega) (by omega) (by omega)) (cwV 3 F.2.2.2.2.1 (good_up gT_X7_part) rfl rfl rfl hdX7_part ⟨Nat.le_of_ble_eq_true rfl, Nat.le_of_ble_eq_true rfl⟩) hm (by decide) rfl rfl rfl (Nat.le_of_ble_eq_true rfl) dX7_terms_80 ⟨Nat.zero_le _, Nat.zero_le _⟩) hS (fun v_34 I_28 R_29 J_30 AI_31 AJ_32 AR_33 H locs zv_34 hp_35 hH hS => ?_)
            dsimp only at hp_35
            obtain ⟨rfl, rfl, rfl, rfl, rfl, rfl, q_36⟩ := hp_35
            refine z_iadd F dX7_terms_83 ?_
            refine z_norm (fun v_37 zv_37 ev_37 => ?_)
            have hx84 : 0 ≤ k ∧ k < ((4 : Nat) : Int) ∧ k ≤ 2147483647 := ⟨by omega, by omega, by omega⟩
            refine g_iast F hH hS r_5b hx84.1 hx84.2.1 hx84.2.2 dX7_terms_84 (fun H locs hH hS => ?_)
            obtain ⟨AI_38, eAI_38⟩ : ∃ qQ, qQ = gup2 AI_1 (gh 77 0) (k).toNat (iI (v_37)) := ⟨_, rfl⟩
            rw [← eAI_38] at hH
            have kAI_38 : ∀ b, b ≠ (gh 77 0) → AI_38 b = AI_1 b := fun b hb => by rw [eAI_38]; exact funext fun j => gup2_a _ _ hb
            have t_39 : AI_38 (gh 50 0) = AI_1 (gh 50 0) := mK hv hm (p := (0, 640)) (q := (27, 4)) (by decide) (by decide) (by decide) kAI_38
            have hv : mInv g gh R I AI_38 := mInv_a hv hm (q := (27, 4)) (by decide) (by decide) kAI_38
            have hT : AI_38 (gh 50 0) = T := t_39.trans hT
            refine z_iinc (lv' := [(4, .int (iI (k + 1))), (0, .ref mo), (1, .int (iI rr)), (2, .int (iI fm)), (3, .int (iI n))]) F dX7_terms_85 hl (k := 0) rfl (by decide) rfl (fun ls hl => ?_)
            refine z_goto (tgt := 3) F dX7_terms_88 (by decide) ?_
            exact ih3 (k + 1) AI_38 H locs ls ⟨by omega, by omega⟩ hv hT (by omega) (by omega) hH hS (lv_sub hl [0, 1, 2, 3, 4] rfl)
          · refine lv_aload_n F.1 F.2.1 dX7_terms_45 rfl (lv_at hl 1 rfl) ?_
            refine lv_iload_n F.1 F.2.1 dX7_terms_46 rfl (lv_at hl 2 rfl) ?_
            refine lv_iload_n F.1 F.2.1 dX7_terms_47 rfl (lv_at hl 3 rfl) ?_
            refine lv_iload F.1 F.2.1 dX7_terms_48 (lv_at hl 0 rfl) ?_
            refine z_iadd F dX7_terms_50 ?_
            refine z_iconst F dX7_terms_51 ?_
            refine g_calli (g_runV (As := [.int (iI rr), .int (iI (fm + k)), .int (iI 1)]) (rest := [.int (iI k), .ref (gh 77 0)]) (ci := 7) F hl.1 hH hS hz (c_X7_part l g gh T I R J AI_1 AJ AR mo rr (fm + k) 1 zrr ⟨by omega, by omega⟩ ⟨by decide, by decide⟩ hv hm hT (by omega) (by omega) (by omega)) (cwV 3 F.2.2.2.2.1 (good_up gT_X7_part) rfl rfl rfl hdX7_part ⟨Nat.le_of_ble_eq_true rfl, Nat.le_of_ble_eq_true rfl⟩) hm (by decide) rfl rfl rfl (Nat.le_of_ble_eq_true rfl) dX7_terms_52 ⟨Nat.zero_le _, Nat.zero_le _⟩) hS (fun v_46 I_40 R_41 J_42 AI_43 AJ_44 AR_45 H locs zv_46 hp_47 hH hS => ?_)
            dsimp only at hp_47
            obtain ⟨rfl, rfl, rfl, rfl, rfl, rfl, q_48⟩ := hp_47
            refine z_goto (tgt := 84) F dX7_terms_55 (by decide) ?_
            have hx84 : 0 ≤ k ∧ k < ((4 : Nat) : Int) ∧ k ≤ 2147483647 := ⟨by omega, by omega, by omega⟩
            refine g_iast F hH hS r_5b hx84.1 hx84.2.1 hx84.2.2 dX7_terms_84 (fun H locs hH hS => ?_)
            obtain ⟨AI_49, eAI_49⟩ : ∃ qQ, qQ = gup2 AI_1 (gh 77 0) (k).toNat (iI (v_46)) := ⟨_, rfl⟩
            rw [← eAI_49] at hH
            have kAI_49 : ∀ b, b ≠ (gh 77 0) → AI_49 b = AI_1 b := fun b hb => by rw [eAI_49]; exact funext fun j => gup2_a _ _ hb
            have t_50 : AI_49 (gh 50 0) = AI_1 (gh 50 0) := mK hv hm (p := (0, 640)) (q := (27, 4)) (by decide) (by decide) (by decide) kAI_49
            have hv : mInv g gh R I AI_49 := mInv_a hv hm (q := (27, 4)) (by decide) (by decide) kAI_49
            have hT : AI_49 (gh 50 0) = T := t_50.trans hT
            refine z_iinc (lv' := [(4, .int (iI (k + 1))), (0, .ref mo), (1, .int (iI rr)), (2, .int (iI fm)), (3, .int (iI n))]) F dX7_terms_85 hl (k := 0) rfl (by decide) rfl (fun ls hl => ?_)
            refine z_goto (tgt := 3) F dX7_terms_88 (by decide) ?_
            exact ih3 (k + 1) AI_49 H locs ls ⟨by omega, by omega⟩ hv hT (by omega) (by omega) hH hS (lv_sub hl [0, 1, 2, 3, 4] rfl)
        · refine lv_aload_n F.1 F.2.1 dX7_terms_15 rfl (lv_at hl 1 rfl) ?_
          obtain ⟨r_51a, r_51b⟩ : R mo 27 = some (gh 77 0) ∧ gAr g (gh 77 0) 9 4 := mR hv hm (q := (27, 4)) (by decide)
          refine g_getR (ci := 7) (k := 27) F hH rfl (by decide) iX7 hm (by decide) rfl (b := gh 77 0) r_51a k45 dX7_terms_16 ?_
          refine lv_iload F.1 F.2.1 dX7_terms_19 (lv_at hl 0 rfl) ?_
          refine z_iconst F dX7_terms_21 ?_
          have hx22 : 0 ≤ k ∧ k < ((4 : Nat) : Int) ∧ k ≤ 2147483647 := ⟨by omega, by omega, by omega⟩
          refine g_iast F hH hS r_51b hx22.1 hx22.2.1 hx22.2.2 dX7_terms_22 (fun H locs hH hS => ?_)
          obtain ⟨AI_52, eAI_52⟩ : ∃ qQ, qQ = gup2 AI_1 (gh 77 0) (k).toNat (iI (0)) := ⟨_, rfl⟩
          rw [← eAI_52] at hH
          have kAI_52 : ∀ b, b ≠ (gh 77 0) → AI_52 b = AI_1 b := fun b hb => by rw [eAI_52]; exact funext fun j => gup2_a _ _ hb
          have t_53 : AI_52 (gh 50 0) = AI_1 (gh 50 0) := mK hv hm (p := (0, 640)) (q := (27, 4)) (by decide) (by decide) (by decide) kAI_52
          have hv : mInv g gh R I AI_52 := mInv_a hv hm (q := (27, 4)) (by decide) (by decide) kAI_52
          have hT : AI_52 (gh 50 0) = T := t_53.trans hT
          refine z_goto (tgt := 85) F dX7_terms_23 (by decide) ?_
          refine z_iinc (lv' := [(4, .int (iI (k + 1))), (0, .ref mo), (1, .int (iI rr)), (2, .int (iI fm)), (3, .int (iI n))]) F dX7_terms_85 hl (k := 0) rfl (by decide) rfl (fun ls hl => ?_)
          refine z_goto (tgt := 3) F dX7_terms_88 (by decide) ?_
          exact ih3 (k + 1) AI_52 H locs ls ⟨by omega, by omega⟩ hv hT (by omega) (by omega) hH hS (lv_sub hl [0, 1, 2, 3, 4] rfl)
  exact cut_3_1 (((4 - 0) + 1 : Int).toNat) 0 AI H locs ls ⟨by decide, by decide⟩ hv hT (by omega) (by omega) hH hS (lv_sub hl [0, 1, 2, 3, 4] rfl)

def rmX7_areOneGroup : Room := { frames := 1, cells := 0, slots := 0, locals := 23 }
theorem hdX7_areOneGroup : yX7_areOneGroup.cls = RX7 ∧ yX7_areOneGroup.cls ≠ "java/lang/invoke/MethodHandle" ∧ yX7_areOneGroup.cls ≠ "java/lang/invoke/VarHandle" ∧ (parseMethodDescriptor yX7_areOneGroup.desc).map (fun d => d.parameters.length) = some 3 := by decide +kernel
set_option maxHeartbeats 4000000 in
set_option maxRecDepth 100000 in
/-- one group -/
theorem c_X7_areOneGroup (l : Launch) (g : gG) (gh : gGh) (T : Nat → Int32) (I : gI) (R : gR) (J : gJ) (AI : gI) (AJ : gJ) (AR : gR) (mo : Nat) (rr : Int) (px : Int) (py : Int) (zrr : zr rr) (zpx : zr px) (zpy : zr py) (hv : mInv g gh R I AI) (hm : gO g mo 7) (hT : AI (gh 50 0) = T) (hr0 : 0 ≤ rr ∧ rr < (I mo 2).toInt) (hk : tI T (40 * rr) = 7) (h0 : 0 ≤ px ∧ px + 4 ≤ 126720 ∧ 0 ≤ py ∧ py + 4 ≤ 126720) : gMet l g yX7_areOneGroup tsX7_areOneGroup rmX7_areOneGroup [.ref mo, .int (iI rr), .int (iI px), .int (iI py)] (I, R, J, AI, AJ, AR) (gQi g (fun (z : Int) (w : gS) => I = w.1 ∧ R = w.2.1 ∧ J = w.2.2.1 ∧ AI = w.2.2.2.1 ∧ AJ = w.2.2.2.2.1 ∧ AR = w.2.2.2.2.2 ∧ (z = 0 ∨ z = 1))) := by
  refine gStart (cc := cX7_areOneGroup) (maxL := 5) (ret := (some (.boolean))) (by decide) rfl (Nat.le_of_ble_eq_true rfl) ?_
  intro p e s m below meth c ls F hr hlk hH hz hS hl
  have hl : lv_has ls 5 [(0, .ref mo), (1, .int (iI rr)), (2, .int (iI px)), (3, .int (iI py))] := hl
  have hS : va_S (gA g) s.heap s.heap [] := hS
  obtain ⟨H, hHe⟩ : ∃ H : Heap, H = s.heap := ⟨_, rfl⟩
  obtain ⟨locs, hlo⟩ : ∃ k : List Loc, k = [] := ⟨_, rfl⟩
  have hH : gH g I R J AI AJ AR H := by rw [hHe]; exact hH
  have hS : va_S (gA g) s.heap H locs := by rw [hHe, hlo]; exact hS
  suffices hw : W p l e rmX7_areOneGroup s m ([.ref mo, .int (iI rr), .int (iI px), .int (iI py)] : List Value).toArray below meth c H locs 0 0 (MQ below (gQi g (fun (z : Int) (w : gS) => I = w.1 ∧ R = w.2.1 ∧ J = w.2.2.1 ∧ AI = w.2.2.2.1 ∧ AJ = w.2.2.2.2.1 ∧ AR = w.2.2.2.2.2 ∧ (z = 0 ∨ z = 1))) ([.ref mo, .int (iI rr), .int (iI px), .int (iI py)] : List Value).toArray s 0 0 (gA g)) (F0 m 0 ls []) by
    rw [hHe, hlo] at hw; exact hw
  clear hHe hlo
  have hb0 := mJ hv hm
  unfold mNum1 at hb0
  have x := mRow hv hm hT (z := rr) (by omega) (by omega)
  have xa := x.1
  have xc := x.2.2.1
  have xb := x.2.1 (by omega)
  have x7 := x.2.2.2.2.2.2.2.2.1 (by omega)
  have iX7 : ∀ w ∈ u_ws RX7 TX7 32, w ∈ tsX7_areOneGroup := fun w h => List.mem_cons_of_mem _ (inTB7 w h)
  have k24 : Cond.fieldLink RX7 24 (TX7 6).1 (TX7 6).2.1 (TX7 6).2.2.1 ∈ tsX7_areOneGroup := List.mem_cons_of_mem _ fl_24
  refine z_iconst F dX7_areOneGroup_0 ?_
  refine lv_istore (lv' := [(4, .int (iI 0)), (0, .ref mo), (1, .int (iI rr)), (2, .int (iI px)), (3, .int (iI py))]) F.1 F.2.1 dX7_areOneGroup_1 hl (by decide) rfl (fun ls hl => ?_)
  have cut_3_0 : ∀ (NN : Nat) (k : Int) (H : Heap) (locs : List Loc) (ls : Array Slot), zr k → (0 ≤ k ∧ k ≤ tI T (40 * rr + 4)) → (8 - k) < ((NN : Nat) : Int) → gH g I R J AI AJ AR H → va_S (gA g) s.heap H locs → lv_has ls 5 [(4, .int (iI k)), (0, .ref mo), (1, .int (iI rr)), (2, .int (iI px)), (3, .int (iI py))] → W p l e rmX7_areOneGroup s m ([.ref mo, .int (iI rr), .int (iI px), .int (iI py)] : List Value).toArray below meth c H locs 0 0 (MQ below (gQi g (fun (z : Int) (w : gS) => I = w.1 ∧ R = w.2.1 ∧ J = w.2.2.1 ∧ AI = w.2.2.2.1 ∧ AJ = w.2.2.2.2.1 ∧ AR = w.2.2.2.2.2 ∧ (z = 0 ∨ z = 1))) ([.ref mo, .int (iI rr), .int (iI px), .int (iI py)] : List Value).toArray s 0 0 (gA g)) (F0 m 3 ls []) := by
    intro NN3
    induction NN3 with
    | zero =>
      intro k H locs ls zk hk1 hm3 hH hS hl
      exact absurd hm3 (by omega)
    | succ NN3 ih3 =>
      intro k H locs ls zk hk1 hm3 hH hS hl
      refine lv_iload F.1 F.2.1 dX7_areOneGroup_3 (lv_at hl 0 rfl) ?_
      refine lv_aload_n F.1 F.2.1 dX7_areOneGroup_5 rfl (lv_at hl 1 rfl) ?_
      refine lv_iload_n F.1 F.2.1 dX7_areOneGroup_6 rfl (lv_at hl 2 rfl) ?_
      have b_2 := mJ hv hm
      unfold mNum1 at b_2
      refine g_calli (g_runV (As := [.int (iI rr)]) (rest := [.int (iI k)]) (ci := 7) F hl.1 hH hS hz (c_X7_partsOf l g gh T I R J AI AJ AR mo rr zrr hv hm hT (by omega)) (cwV 1 F.2.2.2.2.1 (good_up gT_X7_partsOf) rfl rfl rfl hdX7_partsOf ⟨Nat.le_of_ble_eq_true rfl, Nat.le_of_ble_eq_true rfl⟩) hm (by decide) rfl rfl rfl (Nat.le_of_ble_eq_true rfl) dX7_areOneGroup_7 ⟨Nat.zero_le _, Nat.zero_le _⟩) hS (fun v_9 I_3 R_4 J_5 AI_6 AJ_7 AR_8 H locs zv_9 hp_10 hH hS => ?_)
      dsimp only at hp_10
      obtain ⟨rfl, rfl, rfl, rfl, rfl, rfl, q_11⟩ := hp_10
      refine z_icmp_ge (tgt := 54) F dX7_areOneGroup_10 (by decide) zk zv_9 (fun c_12 => ?_) (fun c_12 => ?_)
      · refine z_iconst F dX7_areOneGroup_54 ?_
        exact g_zret F hr hlk hH hS hz (by omega) ⟨rfl, rfl, rfl, rfl, rfl, rfl, by first | omega | rfl | (dsimp only; omega)⟩ dX7_areOneGroup_55
      · have q1 := x7.2.1 k (by omega) (by omega)
        refine lv_aload_n F.1 F.2.1 dX7_areOneGroup_13 rfl (lv_at hl 1 rfl) ?_
        obtain ⟨r_13a, r_13b⟩ : R mo 6 = some (gh 56 0) ∧ gAr g (gh 56 0) 9 126720 := mR hv hm (q := (6, 126720)) (by decide)
        refine g_getR (ci := 7) (k := 6) F hH rfl (by decide) iX7 hm (by decide) rfl (b := gh 56 0) r_13a k24 dX7_areOneGroup_14 ?_
        refine lv_iload_n F.1 F.2.1 dX7_areOneGroup_17 rfl (lv_at hl 3 rfl) ?_
        refine lv_aload_n F.1 F.2.1 dX7_areOneGroup_18 rfl (lv_at hl 1 rfl) ?_
        refine lv_iload_n F.1 F.2.1 dX7_areOneGroup_19 rfl (lv_at hl 2 rfl) ?_
        refine lv_iload F.1 F.2.1 dX7_areOneGroup_20 (lv_at hl 0 rfl) ?_
        refine z_iconst F dX7_areOneGroup_22 ?_
        refine g_calli (g_runV (As := [.int (iI rr), .int (iI k), .int (iI 0)]) (rest := [.int (iI px), .ref (gh 56 0)]) (ci := 7) F hl.1 hH hS hz (c_X7_part l g gh T I R J AI AJ AR mo rr k 0 zrr zk ⟨by decide, by decide⟩ hv hm hT (by omega) (by omega) (by omega)) (cwV 3 F.2.2.2.2.1 (good_up gT_X7_part) rfl rfl rfl hdX7_part ⟨Nat.le_of_ble_eq_true rfl, Nat.le_of_ble_eq_true rfl⟩) hm (by decide) rfl rfl rfl (Nat.le_of_ble_eq_true rfl) dX7_areOneGroup_23 ⟨Nat.zero_le _, Nat.zero_le _⟩) hS (fun v_20 I_14 R_15 J_16 AI_17 AJ_18 AR_19 H locs zv_20 hp_21 hH hS => ?_)
        dsimp only at hp_21
        obtain ⟨rfl, rfl, rfl, rfl, rfl, rfl, q_22⟩ := hp_21
        refine z_iadd F dX7_areOneGroup_26 ?_
        have hx27 : 0 ≤ (px + v_20) ∧ (px + v_20) < ((126720 : Nat) : Int) ∧ (px + v_20) ≤ 2147483647 := ⟨by omega, by omega, by omega⟩
        refine g_iald F hH r_13b hx27.1 hx27.2.1 hx27.2.2 dX7_areOneGroup_27 ?_
        refine z_name (fun v_23 ev_23 => ?_)
        have zv_23 : zr v_23 := by rw [ev_23]; exact zr_t _
        refine lv_aload_n F.1 F.2.1 dX7_areOneGroup_28 rfl (lv_at hl 1 rfl) ?_
        refine g_getR (ci := 7) (k := 6) F hH rfl (by decide) iX7 hm (by decide) rfl (b := gh 56 0) r_13a k24 dX7_areOneGroup_29 ?_
        refine lv_iload_n F.1 F.2.1 dX7_areOneGroup_32 rfl (lv_at hl 4 rfl) ?_
        refine lv_aload_n F.1 F.2.1 dX7_areOneGroup_33 rfl (lv_at hl 1 rfl) ?_
        refine lv_iload_n F.1 F.2.1 dX7_areOneGroup_34 rfl (lv_at hl 2 rfl) ?_
        refine lv_iload F.1 F.2.1 dX7_areOneGroup_35 (lv_at hl 0 rfl) ?_
        refine z_iconst F dX7_areOneGroup_37 ?_
        refine g_calli (g_runV (As := [.int (iI rr), .int (iI k), .int (iI 0)]) (rest := [.int (iI py), .ref (gh 56 0), .int (iI v_23)]) (ci := 7) F hl.1 hH hS hz (c_X7_part l g gh T I R J AI AJ AR mo rr k 0 zrr zk ⟨by decide, by decide⟩ hv hm hT (by omega) (by omega) (by omega)) (cwV 3 F.2.2.2.2.1 (good_up gT_X7_part) rfl rfl rfl hdX7_part ⟨Nat.le_of_ble_eq_true rfl, Nat.le_of_ble_eq_true rfl⟩) hm (by decide) rfl rfl rfl (Nat.le_of_ble_eq_true rfl) dX7_areOneGroup_38 ⟨Nat.zero_le _, Nat.zero_le _⟩) hS (fun v_30 I_24 R_25 J_26 AI_27 AJ_28 AR_29 H locs zv_30 hp_31 hH hS => ?_)
        dsimp only at hp_31
        obtain ⟨rfl, rfl, rfl, rfl, rfl, rfl, q_32⟩ := hp_31
        refine z_iadd F dX7_areOneGroup_41 ?_
        have hx42 : 0 ≤ (py + v_30) ∧ (py + v_30) < ((126720 : Nat) : Int) ∧ (py + v_30) ≤ 2147483647 := ⟨by omega, by omega, by omega⟩
        refine g_iald F hH r_13b hx42.1 hx42.2.1 hx42.2.2 dX7_areOneGroup_42 ?_
        refine z_name (fun v_33 ev_33 => ?_)
        have zv_33 : zr v_33 := by rw [ev_33]; exact zr_t _
        refine z_icmp_eq (tgt := 48) F dX7_areOneGroup_43 (by decide) zv_23 zv_33 (fun c_34 => ?_) (fun c_34 => ?_)
        · refine z_iinc (lv' := [(4, .int (iI (k + 1))), (0, .ref mo), (1, .int (iI rr)), (2, .int (iI px)), (3, .int (iI py))]) F dX7_areOneGroup_48 hl (k := 0) rfl (by decide) rfl (fun ls hl => ?_)
          refine z_goto (tgt := 3) F dX7_areOneGroup_51 (by decide) ?_
          exact ih3 (k + 1) H locs ls ⟨by omega, by omega⟩ (by omega) (by omega) hH hS (lv_sub hl [0, 1, 2, 3, 4] rfl)
        · refine z_iconst F dX7_areOneGroup_46 ?_
          exact g_zret F hr hlk hH hS hz (by omega) ⟨rfl, rfl, rfl, rfl, rfl, rfl, by first | omega | rfl | (dsimp only; omega)⟩ dX7_areOneGroup_47
  exact cut_3_0 (((8 - 0) + 1 : Int).toNat) 0 H locs ls ⟨by decide, by decide⟩ (by omega) (by omega) hH hS (lv_sub hl [0, 1, 2, 3, 4] rfl)

def rmX7_isFirstOfGroup : Room := { frames := 2, cells := 0, slots := 0, locals := 47 }
theorem hdX7_isFirstOfGroup : yX7_isFirstOfGroup.cls = RX7 ∧ yX7_isFirstOfGroup.cls ≠ "java/lang/invoke/MethodHandle" ∧ yX7_isFirstOfGroup.cls ≠ "java/lang/invoke/VarHandle" ∧ (parseMethodDescriptor yX7_isFirstOfGroup.desc).map (fun d => d.parameters.length) = some 3 := by decide +kernel
set_option maxHeartbeats 4000000 in
set_option maxRecDepth 100000 in
/-- the first of its group -/
theorem c_X7_isFirstOfGroup (l : Launch) (g : gG) (gh : gGh) (T : Nat → Int32) (I : gI) (R : gR) (J : gJ) (AI : gI) (AJ : gJ) (AR : gR) (mo : Nat) (sd : Int) (rr : Int) (ip : Int) (zsd : zr sd) (zrr : zr rr) (zip : zr ip) (hv : mInv g gh R I AI) (hm : gO g mo 7) (hT : AI (gh 50 0) = T) (hs : 0 ≤ sd ∧ sd ≤ 10) (hr0 : 0 ≤ rr ∧ rr < (I mo 2).toInt) (hk : tI T (40 * rr) = 7) (h0 : 0 ≤ ip ∧ ip ≤ 119) : gMet l g yX7_isFirstOfGroup tsX7_isFirstOfGroup rmX7_isFirstOfGroup [.ref mo, .int (iI sd), .int (iI rr), .int (iI ip)] (I, R, J, AI, AJ, AR) (gQi g (fun (z : Int) (w : gS) => I = w.1 ∧ R = w.2.1 ∧ J = w.2.2.1 ∧ AI = w.2.2.2.1 ∧ AJ = w.2.2.2.2.1 ∧ AR = w.2.2.2.2.2 ∧ (z = 0 ∨ z = 1))) := by
  refine gStart (cc := cX7_isFirstOfGroup) (maxL := 5) (ret := (some (.boolean))) (by decide) rfl (Nat.le_of_ble_eq_true rfl) ?_
  intro p e s m below meth c ls F hr hlk hH hz hS hl
  have hl : lv_has ls 5 [(0, .ref mo), (1, .int (iI sd)), (2, .int (iI rr)), (3, .int (iI ip))] := hl
  have hS : va_S (gA g) s.heap s.heap [] := hS
  obtain ⟨H, hHe⟩ : ∃ H : Heap, H = s.heap := ⟨_, rfl⟩
  obtain ⟨locs, hlo⟩ : ∃ k : List Loc, k = [] := ⟨_, rfl⟩
  have hH : gH g I R J AI AJ AR H := by rw [hHe]; exact hH
  have hS : va_S (gA g) s.heap H locs := by rw [hHe, hlo]; exact hS
  suffices hw : W p l e rmX7_isFirstOfGroup s m ([.ref mo, .int (iI sd), .int (iI rr), .int (iI ip)] : List Value).toArray below meth c H locs 0 0 (MQ below (gQi g (fun (z : Int) (w : gS) => I = w.1 ∧ R = w.2.1 ∧ J = w.2.2.1 ∧ AI = w.2.2.2.1 ∧ AJ = w.2.2.2.2.1 ∧ AR = w.2.2.2.2.2 ∧ (z = 0 ∨ z = 1))) ([.ref mo, .int (iI sd), .int (iI rr), .int (iI ip)] : List Value).toArray s 0 0 (gA g)) (F0 m 0 ls []) by
    rw [hHe, hlo] at hw; exact hw
  clear hHe hlo
  have hb0 := mJ hv hm
  unfold mNum1 at hb0
  have x := mRow hv hm hT (z := rr) (by omega) (by omega)
  have xa := x.1
  have xc := x.2.2.1
  have xb := x.2.1 (by omega)
  have x7 := x.2.2.2.2.2.2.2.2.1 (by omega)
  refine z_iconst F dX7_isFirstOfGroup_0 ?_
  refine lv_istore (lv' := [(4, .int (iI 0)), (0, .ref mo), (1, .int (iI sd)), (2, .int (iI rr)), (3, .int (iI ip))]) F.1 F.2.1 dX7_isFirstOfGroup_1 hl (by decide) rfl (fun ls hl => ?_)
  have cut_3_0 : ∀ (NN : Nat) (k : Int) (H : Heap) (locs : List Loc) (ls : Array Slot), zr k → (0 ≤ k ∧ k ≤ ip) → (ip - k) < ((NN : Nat) : Int) → gH g I R J AI AJ AR H → va_S (gA g) s.heap H locs → lv_has ls 5 [(4, .int (iI k)), (0, .ref mo), (1, .int (iI sd)), (2, .int (iI rr)), (3, .int (iI ip))] → W p l e rmX7_isFirstOfGroup s m ([.ref mo, .int (iI sd), .int (iI rr), .int (iI ip)] : List Value).toArray below meth c H locs 0 0 (MQ below (gQi g (fun (z : Int) (w : gS) => I = w.1 ∧ R = w.2.1 ∧ J = w.2.2.1 ∧ AI = w.2.2.2.1 ∧ AJ = w.2.2.2.2.1 ∧ AR = w.2.2.2.2.2 ∧ (z = 0 ∨ z = 1))) ([.ref mo, .int (iI sd), .int (iI rr), .int (iI ip)] : List Value).toArray s 0 0 (gA g)) (F0 m 3 ls []) := by
    intro NN3
    induction NN3 with
    | zero =>
      intro k H locs ls zk hk1 hm3 hH hS hl
      exact absurd hm3 (by omega)
    | succ NN3 ih3 =>
      intro k H locs ls zk hk1 hm3 hH hS hl
      refine lv_iload F.1 F.2.1 dX7_isFirstOfGroup_3 (lv_at hl 0 rfl) ?_
      refine lv_iload_n F.1 F.2.1 dX7_isFirstOfGroup_5 rfl (lv_at hl 4 rfl) ?_
      refine z_icmp_ge (tgt := 46) F dX7_isFirstOfGroup_6 (by decide) zk zip (fun c_2 => ?_) (fun c_2 => ?_)
      · refine z_iconst F dX7_isFirstOfGroup_46 ?_
        exact g_zret F hr hlk hH hS hz (by omega) ⟨rfl, rfl, rfl, rfl, rfl, rfl, by first | omega | rfl | (dsimp only; omega)⟩ dX7_isFirstOfGroup_47
      · refine lv_aload_n F.1 F.2.1 dX7_isFirstOfGroup_9 rfl (lv_at hl 1 rfl) ?_
        refine lv_iload_n F.1 F.2.1 dX7_isFirstOfGroup_10 rfl (lv_at hl 3 rfl) ?_
        refine lv_iload_n F.1 F.2.1 dX7_isFirstOfGroup_11 rfl (lv_at hl 2 rfl) ?_
        refine lv_aload_n F.1 F.2.1 dX7_isFirstOfGroup_12 rfl (lv_at hl 1 rfl) ?_
        refine lv_iload_n F.1 F.2.1 dX7_isFirstOfGroup_13 rfl (lv_at hl 3 rfl) ?_
        have b_3 := mJ hv hm
        unfold mNum1 at b_3
        refine g_calli (g_runV (As := [.int (iI rr)]) (rest := [.int (iI sd), .int (iI rr), .ref mo]) (ci := 7) F hl.1 hH hS hz (c_X7_firstOf l g gh T I R J AI AJ AR mo rr zrr hv hm hT (by omega)) (cwV 1 F.2.2.2.2.1 (good_up gT_X7_firstOf) rfl rfl rfl hdX7_firstOf ⟨Nat.le_of_ble_eq_true rfl, Nat.le_of_ble_eq_true rfl⟩) hm (by decide) rfl rfl rfl (Nat.le_of_ble_eq_true rfl) dX7_isFirstOfGroup_14 ⟨Nat.zero_le _, Nat.zero_le _⟩) hS (fun v_10 I_4 R_5 J_6 AI_7 AJ_8 AR_9 H locs zv_10 hp_11 hH hS => ?_)
        dsimp only at hp_11
        obtain ⟨rfl, rfl, rfl, rfl, rfl, rfl, q_12⟩ := hp_11
        refine lv_iload F.1 F.2.1 dX7_isFirstOfGroup_17 (lv_at hl 0 rfl) ?_
        refine g_calli (g_runS (As := [.int (iI sd), .int (iI v_10), .int (iI k)]) (rest := [.int (iI rr), .ref mo]) F hl.1 hH hS hz (c_X7_spot l g  I R J AI AJ AR sd v_10 k zsd zv_10 zk (by omega) (by omega) (by omega)) (va_cwS 3 F.2.2.2.2.1 (good_up gT_X7_spot) rfl rfl rfl hdX7_spot.2 ⟨Nat.le_of_ble_eq_true rfl, Nat.le_of_ble_eq_true rfl⟩) rfl rfl (Nat.le_of_ble_eq_true rfl) dX7_isFirstOfGroup_19 ⟨Nat.zero_le _, Nat.zero_le _⟩) hS (fun v_19 I_13 R_14 J_15 AI_16 AJ_17 AR_18 H locs zv_19 hp_20 hH hS => ?_)
        dsimp only at hp_20
        obtain ⟨rfl, rfl, rfl, rfl, rfl, rfl, q_21⟩ := hp_20
        refine lv_iload_n F.1 F.2.1 dX7_isFirstOfGroup_22 rfl (lv_at hl 2 rfl) ?_
        refine lv_aload_n F.1 F.2.1 dX7_isFirstOfGroup_23 rfl (lv_at hl 1 rfl) ?_
        refine lv_iload_n F.1 F.2.1 dX7_isFirstOfGroup_24 rfl (lv_at hl 3 rfl) ?_
        refine g_calli (g_runV (As := [.int (iI rr)]) (rest := [.int (iI sd), .int (iI v_19), .int (iI rr), .ref mo]) (ci := 7) F hl.1 hH hS hz (c_X7_firstOf l g gh T I R J AI AJ AR mo rr zrr hv hm hT (by omega)) (cwV 1 F.2.2.2.2.1 (good_up gT_X7_firstOf) rfl rfl rfl hdX7_firstOf ⟨Nat.le_of_ble_eq_true rfl, Nat.le_of_ble_eq_true rfl⟩) hm (by decide) rfl rfl rfl (Nat.le_of_ble_eq_true rfl) dX7_isFirstOfGroup_25 ⟨Nat.zero_le _, Nat.zero_le _⟩) hS (fun v_28 I_22 R_23 J_24 AI_25 AJ_26 AR_27 H locs zv_28 hp_29 hH hS => ?_)
        dsimp only at hp_29
        obtain ⟨rfl, rfl, rfl, rfl, rfl, rfl, q_30⟩ := hp_29
        refine lv_iload_n F.1 F.2.1 dX7_isFirstOfGroup_28 rfl (lv_at hl 4 rfl) ?_
        refine g_calli (g_runS (As := [.int (iI sd), .int (iI v_28), .int (iI ip)]) (rest := [.int (iI v_19), .int (iI rr), .ref mo]) F hl.1 hH hS hz (c_X7_spot l g  I R J AI AJ AR sd v_28 ip zsd zv_28 zip (by omega) (by omega) (by omega)) (va_cwS 3 F.2.2.2.2.1 (good_up gT_X7_spot) rfl rfl rfl hdX7_spot.2 ⟨Nat.le_of_ble_eq_true rfl, Nat.le_of_ble_eq_true rfl⟩) rfl rfl (Nat.le_of_ble_eq_true rfl) dX7_isFirstOfGroup_29 ⟨Nat.zero_le _, Nat.zero_le _⟩) hS (fun v_37 I_31 R_32 J_33 AI_34 AJ_35 AR_36 H locs zv_37 hp_38 hH hS => ?_)
        dsimp only at hp_38
        obtain ⟨rfl, rfl, rfl, rfl, rfl, rfl, q_39⟩ := hp_38
        refine g_calli (g_runV (As := [.int (iI rr), .int (iI v_19), .int (iI v_37)]) (rest := []) (ci := 7) F hl.1 hH hS hz (c_X7_areOneGroup l g gh T I R J AI AJ AR mo rr v_19 v_37 zrr zv_19 zv_37 hv hm hT (by omega) (by omega) (by omega)) (cwV 3 F.2.2.2.2.1 (good_up gT_X7_areOneGroup) rfl rfl rfl hdX7_areOneGroup ⟨Nat.le_of_ble_eq_true rfl, Nat.le_of_ble_eq_true rfl⟩) hm (by decide) rfl rfl rfl (Nat.le_of_ble_eq_true rfl) dX7_isFirstOfGroup_32 ⟨Nat.zero_le _, Nat.zero_le _⟩) hS (fun v_46 I_40 R_41 J_42 AI_43 AJ_44 AR_45 H locs zv_46 hp_47 hH hS => ?_)
        dsimp only at hp_47
        obtain ⟨rfl, rfl, rfl, rfl, rfl, rfl, q_48⟩ := hp_47
        refine z_if_eq (tgt := 40) F dX7_isFirstOfGroup_35 (by decide) zv_46 (fun c_49 => ?_) (fun c_49 => ?_)
        · refine z_iinc (lv' := [(4, .int (iI (k + 1))), (0, .ref mo), (1, .int (iI sd)), (2, .int (iI rr)), (3, .int (iI ip))]) F dX7_isFirstOfGroup_40 hl (k := 0) rfl (by decide) rfl (fun ls hl => ?_)
          refine z_goto (tgt := 3) F dX7_isFirstOfGroup_43 (by decide) ?_
          exact ih3 (k + 1) H locs ls ⟨by omega, by omega⟩ (by omega) (by omega) hH hS (lv_sub hl [0, 1, 2, 3, 4] rfl)
        · refine z_iconst F dX7_isFirstOfGroup_38 ?_
          exact g_zret F hr hlk hH hS hz (by omega) ⟨rfl, rfl, rfl, rfl, rfl, rfl, by first | omega | rfl | (dsimp only; omega)⟩ dX7_isFirstOfGroup_39
  exact cut_3_0 (((ip - 0) + 1 : Int).toNat) 0 H locs ls ⟨by decide, by decide⟩ (by omega) (by omega) hH hS (lv_sub hl [0, 1, 2, 3, 4] rfl)

def rmX7_copies : Room := { frames := 0, cells := 0, slots := 0, locals := 0 }
theorem hdX7_copies : yX7_copies.cls = RX7 ∧ yX7_copies.cls ≠ "java/lang/invoke/MethodHandle" ∧ yX7_copies.cls ≠ "java/lang/invoke/VarHandle" ∧ (parseMethodDescriptor yX7_copies.desc).map (fun d => d.parameters.length) = some 2 := by decide +kernel
set_option maxHeartbeats 4000000 in
set_option maxRecDepth 100000 in
/-- a side is copied -/
theorem c_X7_copies (l : Launch) (g : gG) (gh : gGh) (T : Nat → Int32) (I : gI) (R : gR) (J : gJ) (AI : gI) (AJ : gJ) (AR : gR) (mo : Nat) (fm : Int) (to : Int) (zfm : zr fm) (zto : zr to) (hv : mInv g gh R I AI) (hm : gO g mo 7) (hT : AI (gh 50 0) = T) (h0 : 0 ≤ fm ∧ fm ≤ 10 ∧ 0 ≤ to ∧ to ≤ 10) : gMet l g yX7_copies tsX7_copies rmX7_copies [.ref mo, .int (iI fm), .int (iI to)] (I, R, J, AI, AJ, AR) (gQv g (fun w : gS => I = w.1 ∧ R = w.2.1 ∧ J = w.2.2.1 ∧ AJ = w.2.2.2.2.1 ∧ AR = w.2.2.2.2.2 ∧ (mInv g gh R I (w.2.2.2.1)) ∧ ((w.2.2.2.1) (gh 50 0) = T))) := by
  refine gStart (cc := cX7_copies) (maxL := 4) (ret := none) (by decide) rfl (Nat.le_of_ble_eq_true rfl) ?_
  intro p e s m below meth c ls F hr hlk hH hz hS hl
  have hl : lv_has ls 4 [(0, .ref mo), (1, .int (iI fm)), (2, .int (iI to))] := hl
  have hS : va_S (gA g) s.heap s.heap [] := hS
  obtain ⟨H, hHe⟩ : ∃ H : Heap, H = s.heap := ⟨_, rfl⟩
  obtain ⟨locs, hlo⟩ : ∃ k : List Loc, k = [] := ⟨_, rfl⟩
  have hH : gH g I R J AI AJ AR H := by rw [hHe]; exact hH
  have hS : va_S (gA g) s.heap H locs := by rw [hHe, hlo]; exact hS
  suffices hw : W p l e rmX7_copies s m ([.ref mo, .int (iI fm), .int (iI to)] : List Value).toArray below meth c H locs 0 0 (MQ below (gQv g (fun w : gS => I = w.1 ∧ R = w.2.1 ∧ J = w.2.2.1 ∧ AJ = w.2.2.2.2.1 ∧ AR = w.2.2.2.2.2 ∧ (mInv g gh R I (w.2.2.2.1)) ∧ ((w.2.2.2.1) (gh 50 0) = T))) ([.ref mo, .int (iI fm), .int (iI to)] : List Value).toArray s 0 0 (gA g)) (F0 m 0 ls []) by
    rw [hHe, hlo] at hw; exact hw
  clear hHe hlo
  have iX7 : ∀ w ∈ u_ws RX7 TX7 32, w ∈ tsX7_copies := fun w h => List.mem_cons_of_mem _ (inTB7 w h)
  have k24 : Cond.fieldLink RX7 24 (TX7 6).1 (TX7 6).2.1 (TX7 6).2.2.1 ∈ tsX7_copies := List.mem_cons_of_mem _ fl_24
  have k27 : Cond.fieldLink RX7 27 (TX7 7).1 (TX7 7).2.1 (TX7 7).2.2.1 ∈ tsX7_copies := List.mem_cons_of_mem _ fl_27
  have k51 : Cond.fieldLink RX7 51 (TX7 29).1 (TX7 29).2.1 (TX7 29).2.2.1 ∈ tsX7_copies := List.mem_cons_of_mem _ fl_51
  refine z_iconst F dX7_copies_0 ?_
  refine lv_istore_n (lv' := [(3, .int (iI 0)), (0, .ref mo), (1, .int (iI fm)), (2, .int (iI to))]) F.1 F.2.1 dX7_copies_1 rfl hl (by decide) rfl (fun ls hl => ?_)
  have cut_2_1 : ∀ (NN : Nat) (k : Int) (AI_1 : gI) (H : Heap) (locs : List Loc) (ls : Array Slot), zr k → (mInv g gh R I AI_1) → (AI_1 (gh 50 0) = T) → (0 ≤ k ∧ k ≤ 11520) → (11520 - k) < ((NN : Nat) : Int) → gH g I R J AI_1 AJ AR H → va_S (gA g) s.heap H locs → lv_has ls 4 [(3, .int (iI k)), (0, .ref mo), (1, .int (iI fm)), (2, .int (iI to))] → W p l e rmX7_copies s m ([.ref mo, .int (iI fm), .int (iI to)] : List Value).toArray below meth c H locs 0 0 (MQ below (gQv g (fun w : gS => I = w.1 ∧ R = w.2.1 ∧ J = w.2.2.1 ∧ AJ = w.2.2.2.2.1 ∧ AR = w.2.2.2.2.2 ∧ (mInv g gh R I (w.2.2.2.1)) ∧ ((w.2.2.2.1) (gh 50 0) = T))) ([.ref mo, .int (iI fm), .int (iI to)] : List Value).toArray s 0 0 (gA g)) (F0 m 2 ls []) := by
    intro NN2
    induction NN2 with
    | zero =>
      intro k AI_1 H locs ls zk hv hT hk1 hm2 hH hS hl
      exact absurd hm2 (by omega)
    | succ NN2 ih2 =>
      intro k AI_1 H locs ls zk hv hT hk1 hm2 hH hS hl
      refine lv_iload_n F.1 F.2.1 dX7_copies_2 rfl (lv_at hl 0 rfl) ?_
      refine z_sipush F dX7_copies_3 (by decide) ?_
      refine z_icmp_ge (tgt := 39) F dX7_copies_6 (by decide) zk ⟨by decide, by decide⟩ (fun c_3 => ?_) (fun c_3 => ?_)
      · refine z_iconst F dX7_copies_39 ?_
        refine lv_istore_n (lv' := [(3, .int (iI 0)), (0, .ref mo), (1, .int (iI fm)), (2, .int (iI to))]) F.1 F.2.1 dX7_copies_40 rfl hl (by decide) rfl (fun ls hl => ?_)
        have cut_41_4 : ∀ (NN : Nat) (k : Int) (AI_4 : gI) (H : Heap) (locs : List Loc) (ls : Array Slot), zr k → (mInv g gh R I AI_4) → (AI_4 (gh 50 0) = T) → (0 ≤ k ∧ k ≤ 16) → (16 - k) < ((NN : Nat) : Int) → gH g I R J AI_4 AJ AR H → va_S (gA g) s.heap H locs → lv_has ls 4 [(3, .int (iI k)), (0, .ref mo), (1, .int (iI fm)), (2, .int (iI to))] → W p l e rmX7_copies s m ([.ref mo, .int (iI fm), .int (iI to)] : List Value).toArray below meth c H locs 0 0 (MQ below (gQv g (fun w : gS => I = w.1 ∧ R = w.2.1 ∧ J = w.2.2.1 ∧ AJ = w.2.2.2.2.1 ∧ AR = w.2.2.2.2.2 ∧ (mInv g gh R I (w.2.2.2.1)) ∧ ((w.2.2.2.1) (gh 50 0) = T))) ([.ref mo, .int (iI fm), .int (iI to)] : List Value).toArray s 0 0 (gA g)) (F0 m 41 ls []) := by
          intro NN41
          induction NN41 with
          | zero =>
            intro k AI_4 H locs ls zk hv hT hk2 hm41 hH hS hl
            exact absurd hm41 (by omega)
          | succ NN41 ih41 =>
            intro k AI_4 H locs ls zk hv hT hk2 hm41 hH hS hl
            refine lv_iload_n F.1 F.2.1 dX7_copies_41 rfl (lv_at hl 0 rfl) ?_
            refine z_bipush F dX7_copies_42 (by decide) ?_
            refine z_icmp_ge (tgt := 97) F dX7_copies_44 (by decide) zk ⟨by decide, by decide⟩ (fun c_6 => ?_) (fun c_6 => ?_)
            · exact g_vret F hr hlk hH hS hz ⟨rfl, rfl, rfl, rfl, rfl, hv, hT⟩ dX7_copies_97
            · refine lv_aload_n F.1 F.2.1 dX7_copies_47 rfl (lv_at hl 1 rfl) ?_
              obtain ⟨r_7a, r_7b⟩ : R mo 7 = some (gh 57 0) ∧ gAr g (gh 57 0) 9 176 := mR hv hm (q := (7, 176)) (by decide)
              refine g_getR (ci := 7) (k := 7) F hH rfl (by decide) iX7 hm (by decide) rfl (b := gh 57 0) r_7a k27 dX7_copies_48 ?_
              refine z_bipush F dX7_copies_51 (by decide) ?_
              refine lv_iload_n F.1 F.2.1 dX7_copies_53 rfl (lv_at hl 3 rfl) ?_
              refine z_imul F dX7_copies_54 ?_
              refine lv_iload_n F.1 F.2.1 dX7_copies_55 rfl (lv_at hl 0 rfl) ?_
              refine z_iadd F dX7_copies_56 ?_
              refine lv_aload_n F.1 F.2.1 dX7_copies_57 rfl (lv_at hl 1 rfl) ?_
              refine g_getR (ci := 7) (k := 7) F hH rfl (by decide) iX7 hm (by decide) rfl (b := gh 57 0) r_7a k27 dX7_copies_58 ?_
              refine z_bipush F dX7_copies_61 (by decide) ?_
              refine lv_iload_n F.1 F.2.1 dX7_copies_63 rfl (lv_at hl 2 rfl) ?_
              refine z_imul F dX7_copies_64 ?_
              refine lv_iload_n F.1 F.2.1 dX7_copies_65 rfl (lv_at hl 0 rfl) ?_
              refine z_iadd F dX7_copies_66 ?_
              have hx67 : 0 ≤ ((16 * fm) + k) ∧ ((16 * fm) + k) < ((176 : Nat) : Int) ∧ ((16 * fm) + k) ≤ 2147483647 := ⟨by omega, by omega, by omega⟩
              refine g_iald F hH r_7b hx67.1 hx67.2.1 hx67.2.2 dX7_copies_67 ?_
              have q67 := mSz hv hm (z := 16 * fm + k) (by omega) (by omega)
              have hx68 : 0 ≤ ((16 * to) + k) ∧ ((16 * to) + k) < ((176 : Nat) : Int) ∧ ((16 * to) + k) ≤ 2147483647 := ⟨by omega, by omega, by omega⟩
              refine g_iast F hH hS r_7b hx68.1 hx68.2.1 hx68.2.2 dX7_copies_68 (fun H locs hH hS => ?_)
              obtain ⟨AI_8, eAI_8⟩ : ∃ qQ, qQ = gup2 AI_4 (gh 57 0) (((16 * to) + k)).toNat (iI ((AI_4 (gh 57 0) (((16 * fm) + k)).toNat).toInt)) := ⟨_, rfl⟩
              rw [← eAI_8] at hH
              have kAI_8 : ∀ b, b ≠ (gh 57 0) → AI_8 b = AI_4 b := fun b hb => by rw [eAI_8]; exact funext fun j => gup2_a _ _ hb
              have t_9 : AI_8 (gh 50 0) = AI_4 (gh 50 0) := mK hv hm (p := (0, 640)) (q := (7, 176)) (by decide) (by decide) (by decide) kAI_8
              have hv : mInv g gh R I AI_8 := mInv_sizes1 hv hm eAI_8 (by omega) (by omega)
              have hT : AI_8 (gh 50 0) = T := t_9.trans hT
              refine lv_aload_n F.1 F.2.1 dX7_copies_69 rfl (lv_at hl 1 rfl) ?_
              obtain ⟨r_10a, r_10b⟩ : R mo 29 = some (gh 79 0) ∧ gAr g (gh 79 0) 9 176 := mR hv hm (q := (29, 176)) (by decide)
              refine g_getR (ci := 7) (k := 29) F hH rfl (by decide) iX7 hm (by decide) rfl (b := gh 79 0) r_10a k51 dX7_copies_70 ?_
              refine z_bipush F dX7_copies_73 (by decide) ?_
              refine lv_iload_n F.1 F.2.1 dX7_copies_75 rfl (lv_at hl 3 rfl) ?_
              refine z_imul F dX7_copies_76 ?_
              refine lv_iload_n F.1 F.2.1 dX7_copies_77 rfl (lv_at hl 0 rfl) ?_
              refine z_iadd F dX7_copies_78 ?_
              refine lv_aload_n F.1 F.2.1 dX7_copies_79 rfl (lv_at hl 1 rfl) ?_
              refine g_getR (ci := 7) (k := 29) F hH rfl (by decide) iX7 hm (by decide) rfl (b := gh 79 0) r_10a k51 dX7_copies_80 ?_
              refine z_bipush F dX7_copies_83 (by decide) ?_
              refine lv_iload_n F.1 F.2.1 dX7_copies_85 rfl (lv_at hl 2 rfl) ?_
              refine z_imul F dX7_copies_86 ?_
              refine lv_iload_n F.1 F.2.1 dX7_copies_87 rfl (lv_at hl 0 rfl) ?_
              refine z_iadd F dX7_copies_88 ?_
              have hx89 : 0 ≤ ((16 * fm) + k) ∧ ((16 * fm) + k) < ((176 : Nat) : Int) ∧ ((16 * fm) + k) ≤ 2147483647 := ⟨by omega, by omega, by omega⟩
              refine g_iald F hH r_10b hx89.1 hx89.2.1 hx89.2.2 dX7_copies_89 ?_
              refine z_name (fun v_11 ev_11 => ?_)
              have zv_11 : zr v_11 := by rw [ev_11]; exact zr_t _
              have hx90 : 0 ≤ ((16 * to) + k) ∧ ((16 * to) + k) < ((176 : Nat) : Int) ∧ ((16 * to) + k) ≤ 2147483647 := ⟨by omega, by omega, by omega⟩
              refine g_iast F hH hS r_10b hx90.1 hx90.2.1 hx90.2.2 dX7_copies_90 (fun H locs hH hS => ?_)
              obtain ⟨AI_12, eAI_12⟩ : ∃ qQ, qQ = gup2 AI_8 (gh 79 0) (((16 * to) + k)).toNat (iI (v_11)) := ⟨_, rfl⟩
              rw [← eAI_12] at hH
              have kAI_12 : ∀ b, b ≠ (gh 79 0) → AI_12 b = AI_8 b := fun b hb => by rw [eAI_12]; exact funext fun j => gup2_a _ _ hb
              have t_13 : AI_12 (gh 50 0) = AI_8 (gh 50 0) := mK hv hm (p := (0, 640)) (q := (29, 176)) (by decide) (by decide) (by decide) kAI_12
              have hv : mInv g gh R I AI_12 := mInv_a hv hm (q := (29, 176)) (by decide) (by decide) kAI_12
              have hT : AI_12 (gh 50 0) = T := t_13.trans hT
              refine z_iinc (lv' := [(3, .int (iI (k + 1))), (0, .ref mo), (1, .int (iI fm)), (2, .int (iI to))]) F dX7_copies_91 hl (k := 0) rfl (by decide) rfl (fun ls hl => ?_)
              refine z_goto (tgt := 41) F dX7_copies_94 (by decide) ?_
              exact ih41 (k + 1) AI_12 H locs ls ⟨by omega, by omega⟩ hv hT (by omega) (by omega) hH hS (lv_sub hl [0, 1, 2, 3] rfl)
        exact cut_41_4 (((16 - 0) + 1 : Int).toNat) 0 AI_1 H locs ls ⟨by decide, by decide⟩ hv hT (by omega) (by omega) hH hS (lv_sub hl [0, 1, 2, 3] rfl)
      · refine lv_aload_n F.1 F.2.1 dX7_copies_9 rfl (lv_at hl 1 rfl) ?_
        obtain ⟨r_14a, r_14b⟩ : R mo 6 = some (gh 56 0) ∧ gAr g (gh 56 0) 9 126720 := mR hv hm (q := (6, 126720)) (by decide)
        refine g_getR (ci := 7) (k := 6) F hH rfl (by decide) iX7 hm (by decide) rfl (b := gh 56 0) r_14a k24 dX7_copies_10 ?_
        refine z_sipush F dX7_copies_13 (by decide) ?_
        refine lv_iload_n F.1 F.2.1 dX7_copies_16 rfl (lv_at hl 3 rfl) ?_
        refine z_imul F dX7_copies_17 ?_
        refine lv_iload_n F.1 F.2.1 dX7_copies_18 rfl (lv_at hl 0 rfl) ?_
        refine z_iadd F dX7_copies_19 ?_
        refine lv_aload_n F.1 F.2.1 dX7_copies_20 rfl (lv_at hl 1 rfl) ?_
        refine g_getR (ci := 7) (k := 6) F hH rfl (by decide) iX7 hm (by decide) rfl (b := gh 56 0) r_14a k24 dX7_copies_21 ?_
        refine z_sipush F dX7_copies_24 (by decide) ?_
        refine lv_iload_n F.1 F.2.1 dX7_copies_27 rfl (lv_at hl 2 rfl) ?_
        refine z_imul F dX7_copies_28 ?_
        refine lv_iload_n F.1 F.2.1 dX7_copies_29 rfl (lv_at hl 0 rfl) ?_
        refine z_iadd F dX7_copies_30 ?_
        have hx31 : 0 ≤ ((11520 * fm) + k) ∧ ((11520 * fm) + k) < ((126720 : Nat) : Int) ∧ ((11520 * fm) + k) ≤ 2147483647 := ⟨by omega, by omega, by omega⟩
        refine g_iald F hH r_14b hx31.1 hx31.2.1 hx31.2.2 dX7_copies_31 ?_
        refine z_name (fun v_15 ev_15 => ?_)
        have zv_15 : zr v_15 := by rw [ev_15]; exact zr_t _
        have hx32 : 0 ≤ ((11520 * to) + k) ∧ ((11520 * to) + k) < ((126720 : Nat) : Int) ∧ ((11520 * to) + k) ≤ 2147483647 := ⟨by omega, by omega, by omega⟩
        refine g_iast F hH hS r_14b hx32.1 hx32.2.1 hx32.2.2 dX7_copies_32 (fun H locs hH hS => ?_)
        obtain ⟨AI_16, eAI_16⟩ : ∃ qQ, qQ = gup2 AI_1 (gh 56 0) (((11520 * to) + k)).toNat (iI (v_15)) := ⟨_, rfl⟩
        rw [← eAI_16] at hH
        have kAI_16 : ∀ b, b ≠ (gh 56 0) → AI_16 b = AI_1 b := fun b hb => by rw [eAI_16]; exact funext fun j => gup2_a _ _ hb
        have t_17 : AI_16 (gh 50 0) = AI_1 (gh 50 0) := mK hv hm (p := (0, 640)) (q := (6, 126720)) (by decide) (by decide) (by decide) kAI_16
        have hv : mInv g gh R I AI_16 := mInv_a hv hm (q := (6, 126720)) (by decide) (by decide) kAI_16
        have hT : AI_16 (gh 50 0) = T := t_17.trans hT
        refine z_iinc (lv' := [(3, .int (iI (k + 1))), (0, .ref mo), (1, .int (iI fm)), (2, .int (iI to))]) F dX7_copies_33 hl (k := 0) rfl (by decide) rfl (fun ls hl => ?_)
        refine z_goto (tgt := 2) F dX7_copies_36 (by decide) ?_
        exact ih2 (k + 1) AI_16 H locs ls ⟨by omega, by omega⟩ hv hT (by omega) (by omega) hH hS (lv_sub hl [0, 1, 2, 3] rfl)
  exact cut_2_1 (((11520 - 0) + 1 : Int).toNat) 0 AI H locs ls ⟨by decide, by decide⟩ hv hT (by omega) (by omega) hH hS (lv_sub hl [0, 1, 2, 3] rfl)

def rmX7_tables : Room := { frames := 1, cells := 0, slots := 0, locals := 21 }
theorem hdX7_tables : yX7_tables.cls = RX7 ∧ yX7_tables.cls ≠ "java/lang/invoke/MethodHandle" ∧ yX7_tables.cls ≠ "java/lang/invoke/VarHandle" ∧ (parseMethodDescriptor yX7_tables.desc).map (fun d => d.parameters.length) = some 0 := by decide +kernel
set_option maxHeartbeats 4000000 in
set_option maxRecDepth 100000 in
/-- how many tables -/
theorem c_X7_tables (l : Launch) (g : gG) (gh : gGh) (T : Nat → Int32) (I : gI) (R : gR) (J : gJ) (AI : gI) (AJ : gJ) (AR : gR) (mo : Nat) (hv : mInv g gh R I AI) (hm : gO g mo 7) (hT : AI (gh 50 0) = T) : gMet l g yX7_tables tsX7_tables rmX7_tables [.ref mo] (I, R, J, AI, AJ, AR) (gQi g (fun (z : Int) (w : gS) => I = w.1 ∧ R = w.2.1 ∧ J = w.2.2.1 ∧ AI = w.2.2.2.1 ∧ AJ = w.2.2.2.2.1 ∧ AR = w.2.2.2.2.2 ∧ (0 ≤ z ∧ z ≤ (I mo 2).toInt) ∧ (∀ r : Int, z ≤ r → r < (I mo 2).toInt → tI T (40 * r) ≠ 0))) := by
  refine gStart (cc := cX7_tables) (maxL := 2) (ret := (some (.int))) (by decide) rfl (Nat.le_of_ble_eq_true rfl) ?_
  intro p e s m below meth c ls F hr hlk hH hz hS hl
  have hl : lv_has ls 2 [(0, .ref mo)] := hl
  have hS : va_S (gA g) s.heap s.heap [] := hS
  obtain ⟨H, hHe⟩ : ∃ H : Heap, H = s.heap := ⟨_, rfl⟩
  obtain ⟨locs, hlo⟩ : ∃ k : List Loc, k = [] := ⟨_, rfl⟩
  have hH : gH g I R J AI AJ AR H := by rw [hHe]; exact hH
  have hS : va_S (gA g) s.heap H locs := by rw [hHe, hlo]; exact hS
  suffices hw : W p l e rmX7_tables s m ([.ref mo] : List Value).toArray below meth c H locs 0 0 (MQ below (gQi g (fun (z : Int) (w : gS) => I = w.1 ∧ R = w.2.1 ∧ J = w.2.2.1 ∧ AI = w.2.2.2.1 ∧ AJ = w.2.2.2.2.1 ∧ AR = w.2.2.2.2.2 ∧ (0 ≤ z ∧ z ≤ (I mo 2).toInt) ∧ (∀ r : Int, z ≤ r → r < (I mo 2).toInt → tI T (40 * r) ≠ 0))) ([.ref mo] : List Value).toArray s 0 0 (gA g)) (F0 m 0 ls []) by
    rw [hHe, hlo] at hw; exact hw
  clear hHe hlo
  have hb0 := mJ hv hm
  unfold mNum1 at hb0
  have iX7 : ∀ w ∈ u_ws RX7 TX7 32, w ∈ tsX7_tables := fun w h => List.mem_cons_of_mem _ (inTB7 w h)
  have k64 : Cond.fieldLink RX7 64 (TX7 2).1 (TX7 2).2.1 (TX7 2).2.2.1 ∈ tsX7_tables := List.mem_cons_of_mem _ fl_64
  refine z_iconst F dX7_tables_0 ?_
  refine lv_istore_n (lv' := [(1, .int (iI 0)), (0, .ref mo)]) F.1 F.2.1 dX7_tables_1 rfl hl (by decide) rfl (fun ls hl => ?_)
  have cut_2_0 : ∀ (NN : Nat) (n : Int) (H : Heap) (locs : List Loc) (ls : Array Slot), zr n → (0 ≤ n ∧ n ≤ (I mo 2).toInt) → (16 - n) < ((NN : Nat) : Int) → gH g I R J AI AJ AR H → va_S (gA g) s.heap H locs → lv_has ls 2 [(1, .int (iI n)), (0, .ref mo)] → W p l e rmX7_tables s m ([.ref mo] : List Value).toArray below meth c H locs 0 0 (MQ below (gQi g (fun (z : Int) (w : gS) => I = w.1 ∧ R = w.2.1 ∧ J = w.2.2.1 ∧ AI = w.2.2.2.1 ∧ AJ = w.2.2.2.2.1 ∧ AR = w.2.2.2.2.2 ∧ (0 ≤ z ∧ z ≤ (I mo 2).toInt) ∧ (∀ r : Int, z ≤ r → r < (I mo 2).toInt → tI T (40 * r) ≠ 0))) ([.ref mo] : List Value).toArray s 0 0 (gA g)) (F0 m 2 ls []) := by
    intro NN2
    induction NN2 with
    | zero =>
      intro n H locs ls zn hn hm2 hH hS hl
      exact absurd hm2 (by omega)
    | succ NN2 ih2 =>
      intro n H locs ls zn hn hm2 hH hS hl
      refine lv_iload_n F.1 F.2.1 dX7_tables_2 rfl (lv_at hl 0 rfl) ?_
      refine lv_aload_n F.1 F.2.1 dX7_tables_3 rfl (lv_at hl 1 rfl) ?_
      refine g_getI (ci := 7) (k := 2) F hH rfl (by decide) iX7 hm (by decide) rfl k64 dX7_tables_4 ?_
      have b_2 := mJ hv hm
      unfold mNum1 at b_2
      refine z_icmp_ge (tgt := 24) F dX7_tables_7 (by decide) zn (zr_t _) (fun c_3 => ?_) (fun c_3 => ?_)
      · refine lv_iload_n F.1 F.2.1 dX7_tables_24 rfl (lv_at hl 0 rfl) ?_
        exact g_iret F hr hlk hH hS hz zn ⟨rfl, rfl, rfl, rfl, rfl, rfl, by first | omega | rfl | (dsimp only; omega), mViews hv hm hT (by omega) (fun _ => by omega)⟩ dX7_tables_25
      · refine lv_aload_n F.1 F.2.1 dX7_tables_10 rfl (lv_at hl 1 rfl) ?_
        refine lv_iload_n F.1 F.2.1 dX7_tables_11 rfl (lv_at hl 0 rfl) ?_
        refine g_calli (g_runV (As := [.int (iI n)]) (rest := []) (ci := 7) F hl.1 hH hS hz (c_X7_kindOf l g gh T I R J AI AJ AR mo n zn hv hm hT (by omega)) (cwV 1 F.2.2.2.2.1 (good_up gT_X7_kindOf) rfl rfl rfl hdX7_kindOf ⟨Nat.le_of_ble_eq_true rfl, Nat.le_of_ble_eq_true rfl⟩) hm (by decide) rfl rfl rfl (Nat.le_of_ble_eq_true rfl) dX7_tables_12 ⟨Nat.zero_le _, Nat.zero_le _⟩) hS (fun v_10 I_4 R_5 J_6 AI_7 AJ_8 AR_9 H locs zv_10 hp_11 hH hS => ?_)
        dsimp only at hp_11
        obtain ⟨rfl, rfl, rfl, rfl, rfl, rfl, q_12⟩ := hp_11
        refine z_if_ne (tgt := 24) F dX7_tables_15 (by decide) zv_10 (fun c_13 => ?_) (fun c_13 => ?_)
        · refine lv_iload_n F.1 F.2.1 dX7_tables_24 rfl (lv_at hl 0 rfl) ?_
          exact g_iret F hr hlk hH hS hz zn ⟨rfl, rfl, rfl, rfl, rfl, rfl, by first | omega | rfl | (dsimp only; omega), mViews hv hm hT (by omega) (fun _ => by omega)⟩ dX7_tables_25
        · refine z_iinc (lv' := [(1, .int (iI (n + 1))), (0, .ref mo)]) F dX7_tables_18 hl (k := 0) rfl (by decide) rfl (fun ls hl => ?_)
          refine z_goto (tgt := 2) F dX7_tables_21 (by decide) ?_
          exact ih2 (n + 1) H locs ls ⟨by omega, by omega⟩ (by omega) (by omega) hH hS (lv_sub hl [0, 1] rfl)
  exact cut_2_0 (((16 - 0) + 1 : Int).toNat) 0 H locs ls ⟨by decide, by decide⟩ (by omega) (by omega) hH hS (lv_sub hl [0, 1] rfl)

def rmX7_changesOf : Room := { frames := 3, cells := 0, slots := 0, locals := 71 }
theorem hdX7_changesOf : yX7_changesOf.cls = RX7 ∧ yX7_changesOf.cls ≠ "java/lang/invoke/MethodHandle" ∧ yX7_changesOf.cls ≠ "java/lang/invoke/VarHandle" ∧ (parseMethodDescriptor yX7_changesOf.desc).map (fun d => d.parameters.length) = some 2 := by decide +kernel
set_option maxHeartbeats 4000000 in
set_option maxRecDepth 100000 in
/-- a table with its changes -/
theorem c_X7_changesOf (l : Launch) (g : gG) (gh : gGh) (T : Nat → Int32) (I : gI) (R : gR) (J : gJ) (AI : gI) (AJ : gJ) (AR : gR) (mo : Nat) (sd : Int) (rr : Int) (zsd : zr sd) (zrr : zr rr) (hv : mInv g gh R I AI) (hm : gO g mo 7) (hT : AI (gh 50 0) = T) (hs : 0 ≤ sd ∧ sd ≤ 10) (hr0 : 0 ≤ rr ∧ rr ≤ 15) : gMet l g yX7_changesOf tsX7_changesOf rmX7_changesOf [.ref mo, .int (iI sd), .int (iI rr)] (I, R, J, AI, AJ, AR) (gQi g (fun (z : Int) (w : gS) => R = w.2.1 ∧ J = w.2.2.1 ∧ AJ = w.2.2.2.2.1 ∧ AR = w.2.2.2.2.2 ∧ (mInv g gh R (w.1) (w.2.2.2.1)) ∧ ((w.2.2.2.1) (gh 50 0) = T) ∧ (wF mo I (w.1)) ∧ (z = 0 ∨ z = 1))) := by
  refine gStart (cc := cX7_changesOf) (maxL := 6) (ret := (some (.boolean))) (by decide) rfl (Nat.le_of_ble_eq_true rfl) ?_
  intro p e s m below meth c ls F hr hlk hH hz hS hl
  have hl : lv_has ls 6 [(0, .ref mo), (1, .int (iI sd)), (2, .int (iI rr))] := hl
  have hS : va_S (gA g) s.heap s.heap [] := hS
  obtain ⟨H, hHe⟩ : ∃ H : Heap, H = s.heap := ⟨_, rfl⟩
  obtain ⟨locs, hlo⟩ : ∃ k : List Loc, k = [] := ⟨_, rfl⟩
  have hH : gH g I R J AI AJ AR H := by rw [hHe]; exact hH
  have hS : va_S (gA g) s.heap H locs := by rw [hHe, hlo]; exact hS
  suffices hw : W p l e rmX7_changesOf s m ([.ref mo, .int (iI sd), .int (iI rr)] : List Value).toArray below meth c H locs 0 0 (MQ below (gQi g (fun (z : Int) (w : gS) => R = w.2.1 ∧ J = w.2.2.1 ∧ AJ = w.2.2.2.2.1 ∧ AR = w.2.2.2.2.2 ∧ (mInv g gh R (w.1) (w.2.2.2.1)) ∧ ((w.2.2.2.1) (gh 50 0) = T) ∧ (wF mo I (w.1)) ∧ (z = 0 ∨ z = 1))) ([.ref mo, .int (iI sd), .int (iI rr)] : List Value).toArray s 0 0 (gA g)) (F0 m 0 ls []) by
    rw [hHe, hlo] at hw; exact hw
  clear hHe hlo
  have wf : wF mo I I := wF_r
  have iX7 : ∀ w ∈ u_ws RX7 TX7 32, w ∈ tsX7_changesOf := fun w h => List.mem_cons_of_mem _ (inTB7 w h)
  have k269 : Cond.fieldLink RX7 269 (TX7 26).1 (TX7 26).2.1 (TX7 26).2.2.1 ∈ tsX7_changesOf := List.mem_cons_of_mem _ fl_269
  have k24 : Cond.fieldLink RX7 24 (TX7 6).1 (TX7 6).2.1 (TX7 6).2.2.1 ∈ tsX7_changesOf := List.mem_cons_of_mem _ fl_24
  have k266 : Cond.fieldLink RX7 266 (TX7 14).1 (TX7 14).2.1 (TX7 14).2.2.1 ∈ tsX7_changesOf := List.mem_cons_of_mem _ fl_266
  have k30 : Cond.fieldLink RX7 30 (TX7 11).1 (TX7 11).2.1 (TX7 11).2.2.1 ∈ tsX7_changesOf := List.mem_cons_of_mem _ fl_30
  have k45 : Cond.fieldLink RX7 45 (TX7 27).1 (TX7 27).2.1 (TX7 27).2.2.1 ∈ tsX7_changesOf := List.mem_cons_of_mem _ fl_45
  have k33 : Cond.fieldLink RX7 33 (TX7 12).1 (TX7 12).2.1 (TX7 12).2.2.1 ∈ tsX7_changesOf := List.mem_cons_of_mem _ fl_33
  have k36 : Cond.fieldLink RX7 36 (TX7 13).1 (TX7 13).2.1 (TX7 13).2.2.1 ∈ tsX7_changesOf := List.mem_cons_of_mem _ fl_36
  have k42 : Cond.fieldLink RX7 42 (TX7 25).1 (TX7 25).2.1 (TX7 25).2.2.1 ∈ tsX7_changesOf := List.mem_cons_of_mem _ fl_42
  refine lv_aload_n F.1 F.2.1 dX7_changesOf_0 rfl (lv_at hl 0 rfl) ?_
  refine z_iconst F dX7_changesOf_1 ?_
  refine g_putI (ci := 7) (k := 26) F hH hS rfl (by decide) iX7 hm (by decide) tyX7 tyX7_ok nmX7 rfl rfl rfl k269 dX7_changesOf_2 (fun H locs hH hS => ?_)
  obtain ⟨I_1, eI_1⟩ : ∃ qQ, qQ = gup2 I mo 26 (iI (0)) := ⟨_, rfl⟩
  rw [← eI_1] at hH
  have kI_1 : ∀ b, b ≠ mo → I_1 b = I b := fun b hb => by rw [eI_1]; exact funext fun j => gup2_a _ _ hb
  have w_2 : (I_1 mo 26).toInt = 0 := by rw [eI_1, gup2_s]; exact iI_val ⟨by decide, by decide⟩
  have hv : mInv g gh R I_1 AI := by rw [eI_1]; exact mP26 hv hm (by omega) (by omega)
  have wf : wF mo I I_1 := wF_t wf (by rw [eI_1]; exact wF_p)
  have u_3_2 : (I_1 mo 2).toInt = (I mo 2).toInt := by rw [wf 2 (by decide)]
  have u_3_5 : (I_1 mo 5).toInt = (I mo 5).toInt := by rw [wf 5 (by decide)]
  have u_3_14 : (I_1 mo 14).toInt = (I mo 14).toInt := by rw [wf 14 (by decide)]
  have u_3_16 : (I_1 mo 16).toInt = (I mo 16).toInt := by rw [wf 16 (by decide)]
  have u_3_24 : (I_1 mo 24).toInt = (I mo 24).toInt := by rw [wf 24 (by decide)]
  refine z_iconst F dX7_changesOf_5 ?_
  refine lv_istore_n (lv' := [(3, .int (iI 1)), (0, .ref mo), (1, .int (iI sd)), (2, .int (iI rr))]) F.1 F.2.1 dX7_changesOf_6 rfl hl (by decide) rfl (fun ls hl => ?_)
  refine z_iconst F dX7_changesOf_7 ?_
  refine lv_istore (lv' := [(4, .int (iI 0)), (3, .int (iI 1)), (0, .ref mo), (1, .int (iI sd)), (2, .int (iI rr))]) F.1 F.2.1 dX7_changesOf_8 hl (by decide) rfl (fun ls hl => ?_)
  have cut_10_5 : ∀ (NN : Nat) (an i : Int) (I_4 : gI) (AI_5 : gI) (H : Heap) (locs : List Loc) (ls : Array Slot), zr an → zr i → (mInv g gh R I_4 AI_5) → (AI_5 (gh 50 0) = T) → (wF mo I I_4) → (0 ≤ i ∧ i ≤ 120 ∧ (I_4 mo 26).toInt ≤ i) → (120 - i) < ((NN : Nat) : Int) → gH g I_4 R J AI_5 AJ AR H → va_S (gA g) s.heap H locs → lv_has ls 6 [(4, .int (iI i)), (3, .int (iI an)), (0, .ref mo), (1, .int (iI sd)), (2, .int (iI rr))] → W p l e rmX7_changesOf s m ([.ref mo, .int (iI sd), .int (iI rr)] : List Value).toArray below meth c H locs 0 0 (MQ below (gQi g (fun (z : Int) (w : gS) => R = w.2.1 ∧ J = w.2.2.1 ∧ AJ = w.2.2.2.2.1 ∧ AR = w.2.2.2.2.2 ∧ (mInv g gh R (w.1) (w.2.2.2.1)) ∧ ((w.2.2.2.1) (gh 50 0) = T) ∧ (wF mo I (w.1)) ∧ (z = 0 ∨ z = 1))) ([.ref mo, .int (iI sd), .int (iI rr)] : List Value).toArray s 0 0 (gA g)) (F0 m 10 ls []) := by
    intro NN10
    induction NN10 with
    | zero =>
      intro an i I_4 AI_5 H locs ls zan zi hv hT wf hi hm10 hH hS hl
      exact absurd hm10 (by omega)
    | succ NN10 ih10 =>
      intro an i I_4 AI_5 H locs ls zan zi hv hT wf hi hm10 hH hS hl
      have uc_2 : (I_4 mo 2).toInt = (I mo 2).toInt := by rw [wf 2 (by decide)]
      have uc_5 : (I_4 mo 5).toInt = (I mo 5).toInt := by rw [wf 5 (by decide)]
      have uc_14 : (I_4 mo 14).toInt = (I mo 14).toInt := by rw [wf 14 (by decide)]
      have uc_16 : (I_4 mo 16).toInt = (I mo 16).toInt := by rw [wf 16 (by decide)]
      have uc_24 : (I_4 mo 24).toInt = (I mo 24).toInt := by rw [wf 24 (by decide)]
      refine lv_iload F.1 F.2.1 dX7_changesOf_10 (lv_at hl 0 rfl) ?_
      refine lv_aload_n F.1 F.2.1 dX7_changesOf_12 rfl (lv_at hl 2 rfl) ?_
      refine lv_iload_n F.1 F.2.1 dX7_changesOf_13 rfl (lv_at hl 3 rfl) ?_
      refine lv_iload_n F.1 F.2.1 dX7_changesOf_14 rfl (lv_at hl 4 rfl) ?_
      have b_7 := mJ hv hm
      unfold mNum1 at b_7
      refine g_calli (g_runV (As := [.int (iI sd), .int (iI rr)]) (rest := [.int (iI i)]) (ci := 7) F hl.1 hH hS hz (c_X7_sizeOf l g gh T I_4 R J AI_5 AJ AR mo sd rr zsd zrr hv hm hT (by omega) (by omega)) (cwV 2 F.2.2.2.2.1 (good_up gT_X7_sizeOf) rfl rfl rfl hdX7_sizeOf ⟨Nat.le_of_ble_eq_true rfl, Nat.le_of_ble_eq_true rfl⟩) hm (by decide) rfl rfl rfl (Nat.le_of_ble_eq_true rfl) dX7_changesOf_15 ⟨Nat.zero_le _, Nat.zero_le _⟩) hS (fun v_14 I_8 R_9 J_10 AI_11 AJ_12 AR_13 H locs zv_14 hp_15 hH hS => ?_)
      dsimp only at hp_15
      obtain ⟨rfl, rfl, rfl, rfl, rfl, rfl, q_16, q_17⟩ := hp_15
      refine z_icmp_ge (tgt := 58) F dX7_changesOf_18 (by decide) zi zv_14 (fun c_18 => ?_) (fun c_18 => ?_)
      · refine z_iconst F dX7_changesOf_58 ?_
        refine lv_istore (lv' := [(4, .int (iI 0)), (3, .int (iI an)), (0, .ref mo), (1, .int (iI sd)), (2, .int (iI rr))]) F.1 F.2.1 dX7_changesOf_59 hl (by decide) rfl (fun ls hl => ?_)
        have cut_61_20 : ∀ (NN : Nat) (an k : Int) (I_19 : gI) (AI_20 : gI) (H : Heap) (locs : List Loc) (ls : Array Slot), zr an → zr k → (mInv g gh R I_19 AI_20) → (AI_20 (gh 50 0) = T) → (wF mo I I_19) → (0 ≤ k ∧ k ≤ 40 ∧ (I_19 mo 26).toInt ≤ 120 + k) → (40 - k) < ((NN : Nat) : Int) → gH g I_19 R J AI_20 AJ AR H → va_S (gA g) s.heap H locs → lv_has ls 6 [(4, .int (iI k)), (3, .int (iI an)), (0, .ref mo), (1, .int (iI sd)), (2, .int (iI rr))] → W p l e rmX7_changesOf s m ([.ref mo, .int (iI sd), .int (iI rr)] : List Value).toArray below meth c H locs 0 0 (MQ below (gQi g (fun (z : Int) (w : gS) => R = w.2.1 ∧ J = w.2.2.1 ∧ AJ = w.2.2.2.2.1 ∧ AR = w.2.2.2.2.2 ∧ (mInv g gh R (w.1) (w.2.2.2.1)) ∧ ((w.2.2.2.1) (gh 50 0) = T) ∧ (wF mo I (w.1)) ∧ (z = 0 ∨ z = 1))) ([.ref mo, .int (iI sd), .int (iI rr)] : List Value).toArray s 0 0 (gA g)) (F0 m 61 ls []) := by
          intro NN61
          induction NN61 with
          | zero =>
            intro an k I_19 AI_20 H locs ls zan zk hv hT wf hk1 hm61 hH hS hl
            exact absurd hm61 (by omega)
          | succ NN61 ih61 =>
            intro an k I_19 AI_20 H locs ls zan zk hv hT wf hk1 hm61 hH hS hl
            have uc_2 : (I_19 mo 2).toInt = (I mo 2).toInt := by rw [wf 2 (by decide)]
            have uc_5 : (I_19 mo 5).toInt = (I mo 5).toInt := by rw [wf 5 (by decide)]
            have uc_14 : (I_19 mo 14).toInt = (I mo 14).toInt := by rw [wf 14 (by decide)]
            have uc_16 : (I_19 mo 16).toInt = (I mo 16).toInt := by rw [wf 16 (by decide)]
            have uc_24 : (I_19 mo 24).toInt = (I mo 24).toInt := by rw [wf 24 (by decide)]
            refine lv_iload F.1 F.2.1 dX7_changesOf_61 (lv_at hl 0 rfl) ?_
            refine lv_aload_n F.1 F.2.1 dX7_changesOf_63 rfl (lv_at hl 2 rfl) ?_
            refine g_getI (ci := 7) (k := 14) F hH rfl (by decide) iX7 hm (by decide) rfl k266 dX7_changesOf_64 ?_
            have b_22 := mJ hv hm
            unfold mNum1 at b_22
            refine z_icmp_ge (tgt := 149) F dX7_changesOf_67 (by decide) zk (zr_t _) (fun c_23 => ?_) (fun c_23 => ?_)
            · refine z_iconst F dX7_changesOf_149 ?_
              refine lv_istore (lv' := [(4, .int (iI 0)), (3, .int (iI an)), (0, .ref mo), (1, .int (iI sd)), (2, .int (iI rr))]) F.1 F.2.1 dX7_changesOf_150 hl (by decide) rfl (fun ls hl => ?_)
              have cut_152_23 : ∀ (NN : Nat) (k : Int) (H : Heap) (locs : List Loc) (ls : Array Slot), zr k → (0 ≤ k ∧ k ≤ (I_19 mo 26).toInt) → ((I_19 mo 26).toInt - k) < ((NN : Nat) : Int) → gH g I_19 R J AI_20 AJ AR H → va_S (gA g) s.heap H locs → lv_has ls 6 [(4, .int (iI k)), (3, .int (iI an)), (0, .ref mo), (1, .int (iI sd)), (2, .int (iI rr))] → W p l e rmX7_changesOf s m ([.ref mo, .int (iI sd), .int (iI rr)] : List Value).toArray below meth c H locs 0 0 (MQ below (gQi g (fun (z : Int) (w : gS) => R = w.2.1 ∧ J = w.2.2.1 ∧ AJ = w.2.2.2.2.1 ∧ AR = w.2.2.2.2.2 ∧ (mInv g gh R (w.1) (w.2.2.2.1)) ∧ ((w.2.2.2.1) (gh 50 0) = T) ∧ (wF mo I (w.1)) ∧ (z = 0 ∨ z = 1))) ([.ref mo, .int (iI sd), .int (iI rr)] : List Value).toArray s 0 0 (gA g)) (F0 m 152 ls []) := by
                intro NN152
                induction NN152 with
                | zero =>
                  intro k H locs ls zk hk3 hm152 hH hS hl
                  exact absurd hm152 (by omega)
                | succ NN152 ih152 =>
                  intro k H locs ls zk hk3 hm152 hH hS hl
                  refine lv_iload F.1 F.2.1 dX7_changesOf_152 (lv_at hl 0 rfl) ?_
                  refine lv_aload_n F.1 F.2.1 dX7_changesOf_154 rfl (lv_at hl 2 rfl) ?_
                  refine g_getI (ci := 7) (k := 26) F hH rfl (by decide) iX7 hm (by decide) rfl k269 dX7_changesOf_155 ?_
                  refine z_icmp_ge (tgt := 184) F dX7_changesOf_158 (by decide) zk (zr_t _) (fun c_25 => ?_) (fun c_25 => ?_)
                  · refine z_iconst F dX7_changesOf_184 ?_
                    exact g_zret F hr hlk hH hS hz (by omega) ⟨rfl, rfl, rfl, rfl, hv, hT, wf, by first | omega | rfl | (dsimp only; omega)⟩ dX7_changesOf_185
                  · refine lv_aload_n F.1 F.2.1 dX7_changesOf_161 rfl (lv_at hl 2 rfl) ?_
                    obtain ⟨r_26a, r_26b⟩ : R mo 25 = some (gh 75 0) ∧ gAr g (gh 75 0) 9 9600 := mR hv hm (q := (25, 9600)) (by decide)
                    refine g_getR (ci := 7) (k := 25) F hH rfl (by decide) iX7 hm (by decide) rfl (b := gh 75 0) r_26a k42 dX7_changesOf_162 ?_
                    refine z_bipush F dX7_changesOf_165 (by decide) ?_
                    refine lv_iload F.1 F.2.1 dX7_changesOf_167 (lv_at hl 0 rfl) ?_
                    refine z_imul F dX7_changesOf_169 ?_
                    refine z_iconst F dX7_changesOf_170 ?_
                    refine z_iadd F dX7_changesOf_171 ?_
                    have hx172 : 0 ≤ ((6 * k) + 4) ∧ ((6 * k) + 4) < ((9600 : Nat) : Int) ∧ ((6 * k) + 4) ≤ 2147483647 := ⟨by omega, by omega, by omega⟩
                    refine g_iald F hH r_26b hx172.1 hx172.2.1 hx172.2.2 dX7_changesOf_172 ?_
                    refine z_name (fun v_27 ev_27 => ?_)
                    have zv_27 : zr v_27 := by rw [ev_27]; exact zr_t _
                    refine z_if_ge (tgt := 178) F dX7_changesOf_173 (by decide) zv_27 (fun c_28 => ?_) (fun c_28 => ?_)
                    · refine z_iinc (lv' := [(4, .int (iI (k + 1))), (3, .int (iI an)), (0, .ref mo), (1, .int (iI sd)), (2, .int (iI rr))]) F dX7_changesOf_178 hl (k := 0) rfl (by decide) rfl (fun ls hl => ?_)
                      refine z_goto (tgt := 152) F dX7_changesOf_181 (by decide) ?_
                      exact ih152 (k + 1) H locs ls ⟨by omega, by omega⟩ (by omega) (by omega) hH hS (lv_sub hl [0, 1, 2, 3, 4] rfl)
                    · refine z_iconst F dX7_changesOf_176 ?_
                      exact g_zret F hr hlk hH hS hz (by omega) ⟨rfl, rfl, rfl, rfl, hv, hT, wf, by first | omega | rfl | (dsimp only; omega)⟩ dX7_changesOf_177
              exact cut_152_23 ((((I_19 mo 26).toInt - 0) + 1 : Int).toNat) 0 H locs ls ⟨by decide, by decide⟩ (by omega) (by omega) hH hS (lv_sub hl [0, 1, 2, 3, 4] rfl)
            · refine lv_aload_n F.1 F.2.1 dX7_changesOf_70 rfl (lv_at hl 2 rfl) ?_
              obtain ⟨r_29a, r_29b⟩ : R mo 11 = some (gh 61 0) ∧ gAr g (gh 61 0) 9 41 := mR hv hm (q := (11, 41)) (by decide)
              refine g_getR (ci := 7) (k := 11) F hH rfl (by decide) iX7 hm (by decide) rfl (b := gh 61 0) r_29a k30 dX7_changesOf_71 ?_
              refine lv_iload F.1 F.2.1 dX7_changesOf_74 (lv_at hl 0 rfl) ?_
              have hx76 : 0 ≤ k ∧ k < ((41 : Nat) : Int) ∧ k ≤ 2147483647 := ⟨by omega, by omega, by omega⟩
              refine g_iald F hH r_29b hx76.1 hx76.2.1 hx76.2.2 dX7_changesOf_76 ?_
              refine z_name (fun v_30 ev_30 => ?_)
              have zv_30 : zr v_30 := by rw [ev_30]; exact zr_t _
              refine lv_iload_n F.1 F.2.1 dX7_changesOf_77 rfl (lv_at hl 4 rfl) ?_
              refine z_icmp_eq (tgt := 84) F dX7_changesOf_78 (by decide) zv_30 zrr (fun c_31 => ?_) (fun c_31 => ?_)
              · refine z_iconst F dX7_changesOf_84 ?_
                refine lv_istore (lv' := [(5, .int (iI 0)), (4, .int (iI k)), (3, .int (iI an)), (0, .ref mo), (1, .int (iI sd)), (2, .int (iI rr))]) F.1 F.2.1 dX7_changesOf_85 hl (by decide) rfl (fun ls hl => ?_)
                have cut_87_32 : ∀ (NN : Nat) (i : Int) (AI_32 : gI) (H : Heap) (locs : List Loc) (ls : Array Slot), zr i → (mInv g gh R I_19 AI_32) → (AI_32 (gh 50 0) = T) → (0 ≤ i ∧ i ≤ 4) → (4 - i) < ((NN : Nat) : Int) → gH g I_19 R J AI_32 AJ AR H → va_S (gA g) s.heap H locs → lv_has ls 6 [(5, .int (iI i)), (4, .int (iI k)), (3, .int (iI an)), (0, .ref mo), (1, .int (iI sd)), (2, .int (iI rr))] → W p l e rmX7_changesOf s m ([.ref mo, .int (iI sd), .int (iI rr)] : List Value).toArray below meth c H locs 0 0 (MQ below (gQi g (fun (z : Int) (w : gS) => R = w.2.1 ∧ J = w.2.2.1 ∧ AJ = w.2.2.2.2.1 ∧ AR = w.2.2.2.2.2 ∧ (mInv g gh R (w.1) (w.2.2.2.1)) ∧ ((w.2.2.2.1) (gh 50 0) = T) ∧ (wF mo I (w.1)) ∧ (z = 0 ∨ z = 1))) ([.ref mo, .int (iI sd), .int (iI rr)] : List Value).toArray s 0 0 (gA g)) (F0 m 87 ls []) := by
                  intro NN87
                  induction NN87 with
                  | zero =>
                    intro i AI_32 H locs ls zi hv hT hi2 hm87 hH hS hl
                    exact absurd hm87 (by omega)
                  | succ NN87 ih87 =>
                    intro i AI_32 H locs ls zi hv hT hi2 hm87 hH hS hl
                    refine lv_iload F.1 F.2.1 dX7_changesOf_87 (lv_at hl 0 rfl) ?_
                    refine z_iconst F dX7_changesOf_89 ?_
                    refine z_icmp_ge (tgt := 118) F dX7_changesOf_90 (by decide) zi ⟨by decide, by decide⟩ (fun c_34 => ?_) (fun c_34 => ?_)
                    · refine lv_aload_n F.1 F.2.1 dX7_changesOf_118 rfl (lv_at hl 3 rfl) ?_
                      refine lv_aload_n F.1 F.2.1 dX7_changesOf_119 rfl (lv_at hl 3 rfl) ?_
                      obtain ⟨r_35a, r_35b⟩ : R mo 13 = some (gh 63 0) ∧ gAr g (gh 63 0) 9 41 := mR hv hm (q := (13, 41)) (by decide)
                      refine g_getR (ci := 7) (k := 13) F hH rfl (by decide) iX7 hm (by decide) rfl (b := gh 63 0) r_35a k36 dX7_changesOf_120 ?_
                      refine lv_iload F.1 F.2.1 dX7_changesOf_123 (lv_at hl 1 rfl) ?_
                      have hx125 : 0 ≤ k ∧ k < ((41 : Nat) : Int) ∧ k ≤ 2147483647 := ⟨by omega, by omega, by omega⟩
                      refine g_iald F hH r_35b hx125.1 hx125.2.1 hx125.2.2 dX7_changesOf_125 ?_
                      refine z_name (fun v_36 ev_36 => ?_)
                      have zv_36 : zr v_36 := by rw [ev_36]; exact zr_t _
                      refine z_iconst F dX7_changesOf_126 ?_
                      refine g_calli (g_runV (As := [.int (iI v_36), .int (iI 0)]) (rest := []) (ci := 7) F hl.1 hH hS hz (c_X7_gathers l g gh T I_19 R J AI_32 AJ AR mo v_36 0 zv_36 ⟨by decide, by decide⟩ hv hm hT (by omega)) (cwV 2 F.2.2.2.2.1 (good_up gT_X7_gathers) rfl rfl rfl hdX7_gathers ⟨Nat.le_of_ble_eq_true rfl, Nat.le_of_ble_eq_true rfl⟩) hm (by decide) rfl rfl rfl (Nat.le_of_ble_eq_true rfl) dX7_changesOf_127 ⟨Nat.zero_le _, Nat.zero_le _⟩) hS (fun v_43 I_37 R_38 J_39 AI_40 AJ_41 AR_42 H locs zv_43 hp_44 hH hS => ?_)
                      dsimp only at hp_44
                      obtain ⟨rfl, rfl, rfl, rfl, hv, hT, wfq, q_45⟩ := hp_44
                      have wf := wF_t wf wfq
                      have u_46_2 : (I_37 mo 2).toInt = (I mo 2).toInt := by rw [wf 2 (by decide)]
                      have u_46_5 : (I_37 mo 5).toInt = (I mo 5).toInt := by rw [wf 5 (by decide)]
                      have u_46_14 : (I_37 mo 14).toInt = (I mo 14).toInt := by rw [wf 14 (by decide)]
                      have u_46_16 : (I_37 mo 16).toInt = (I mo 16).toInt := by rw [wf 16 (by decide)]
                      have u_46_24 : (I_37 mo 24).toInt = (I mo 24).toInt := by rw [wf 24 (by decide)]
                      refine z_if_ne (tgt := 137) F dX7_changesOf_130 (by decide) zv_43 (fun c_47 => ?_) (fun c_47 => ?_)
                      · refine z_iconst F dX7_changesOf_137 ?_
                        refine z_goto (tgt := 142) F dX7_changesOf_138 (by decide) ?_
                        refine lv_istore_n (lv' := [(3, .int (iI 1)), (5, .int (iI i)), (4, .int (iI k)), (0, .ref mo), (1, .int (iI sd)), (2, .int (iI rr))]) F.1 F.2.1 dX7_changesOf_142 rfl hl (by decide) rfl (fun ls hl => ?_)
                        refine z_iinc (lv' := [(4, .int (iI (k + 1))), (3, .int (iI 1)), (5, .int (iI i)), (0, .ref mo), (1, .int (iI sd)), (2, .int (iI rr))]) F dX7_changesOf_143 hl (k := 2) rfl (by decide) rfl (fun ls hl => ?_)
                        refine z_goto (tgt := 61) F dX7_changesOf_146 (by decide) ?_
                        exact ih61 1 (k + 1) I_37 AI_40 H locs ls ⟨by decide, by decide⟩ ⟨by omega, by omega⟩ hv hT wf (by omega) (by omega) hH hS (lv_sub hl [0, 1, 3, 4, 5] rfl)
                      · refine lv_iload_n F.1 F.2.1 dX7_changesOf_133 rfl (lv_at hl 2 rfl) ?_
                        refine z_if_eq (tgt := 141) F dX7_changesOf_134 (by decide) zan (fun c_48 => ?_) (fun c_48 => ?_)
                        · refine z_iconst F dX7_changesOf_141 ?_
                          refine lv_istore_n (lv' := [(3, .int (iI 0)), (5, .int (iI i)), (4, .int (iI k)), (0, .ref mo), (1, .int (iI sd)), (2, .int (iI rr))]) F.1 F.2.1 dX7_changesOf_142 rfl hl (by decide) rfl (fun ls hl => ?_)
                          refine z_iinc (lv' := [(4, .int (iI (k + 1))), (3, .int (iI 0)), (5, .int (iI i)), (0, .ref mo), (1, .int (iI sd)), (2, .int (iI rr))]) F dX7_changesOf_143 hl (k := 2) rfl (by decide) rfl (fun ls hl => ?_)
                          refine z_goto (tgt := 61) F dX7_changesOf_146 (by decide) ?_
                          exact ih61 0 (k + 1) I_37 AI_40 H locs ls ⟨by decide, by decide⟩ ⟨by omega, by omega⟩ hv hT wf (by omega) (by omega) hH hS (lv_sub hl [0, 1, 3, 4, 5] rfl)
                        · refine z_iconst F dX7_changesOf_137 ?_
                          refine z_goto (tgt := 142) F dX7_changesOf_138 (by decide) ?_
                          refine lv_istore_n (lv' := [(3, .int (iI 1)), (5, .int (iI i)), (4, .int (iI k)), (0, .ref mo), (1, .int (iI sd)), (2, .int (iI rr))]) F.1 F.2.1 dX7_changesOf_142 rfl hl (by decide) rfl (fun ls hl => ?_)
                          refine z_iinc (lv' := [(4, .int (iI (k + 1))), (3, .int (iI 1)), (5, .int (iI i)), (0, .ref mo), (1, .int (iI sd)), (2, .int (iI rr))]) F dX7_changesOf_143 hl (k := 2) rfl (by decide) rfl (fun ls hl => ?_)
                          refine z_goto (tgt := 61) F dX7_changesOf_146 (by decide) ?_
                          exact ih61 1 (k + 1) I_37 AI_40 H locs ls ⟨by decide, by decide⟩ ⟨by omega, by omega⟩ hv hT wf (by omega) (by omega) hH hS (lv_sub hl [0, 1, 3, 4, 5] rfl)
                    · refine lv_aload_n F.1 F.2.1 dX7_changesOf_93 rfl (lv_at hl 3 rfl) ?_
                      obtain ⟨r_49a, r_49b⟩ : R mo 27 = some (gh 77 0) ∧ gAr g (gh 77 0) 9 4 := mR hv hm (q := (27, 4)) (by decide)
                      refine g_getR (ci := 7) (k := 27) F hH rfl (by decide) iX7 hm (by decide) rfl (b := gh 77 0) r_49a k45 dX7_changesOf_94 ?_
                      refine lv_iload F.1 F.2.1 dX7_changesOf_97 (lv_at hl 0 rfl) ?_
                      refine lv_aload_n F.1 F.2.1 dX7_changesOf_99 rfl (lv_at hl 3 rfl) ?_
                      obtain ⟨r_50a, r_50b⟩ : R mo 12 = some (gh 62 0) ∧ gAr g (gh 62 0) 9 164 := mR hv hm (q := (12, 164)) (by decide)
                      refine g_getR (ci := 7) (k := 12) F hH rfl (by decide) iX7 hm (by decide) rfl (b := gh 62 0) r_50a k33 dX7_changesOf_100 ?_
                      refine z_iconst F dX7_changesOf_103 ?_
                      refine lv_iload F.1 F.2.1 dX7_changesOf_104 (lv_at hl 1 rfl) ?_
                      refine z_imul F dX7_changesOf_106 ?_
                      refine lv_iload F.1 F.2.1 dX7_changesOf_107 (lv_at hl 0 rfl) ?_
                      refine z_iadd F dX7_changesOf_109 ?_
                      have hx110 : 0 ≤ ((4 * k) + i) ∧ ((4 * k) + i) < ((164 : Nat) : Int) ∧ ((4 * k) + i) ≤ 2147483647 := ⟨by omega, by omega, by omega⟩
                      refine g_iald F hH r_50b hx110.1 hx110.2.1 hx110.2.2 dX7_changesOf_110 ?_
                      refine z_name (fun v_51 ev_51 => ?_)
                      have zv_51 : zr v_51 := by rw [ev_51]; exact zr_t _
                      have hx111 : 0 ≤ i ∧ i < ((4 : Nat) : Int) ∧ i ≤ 2147483647 := ⟨by omega, by omega, by omega⟩
                      refine g_iast F hH hS r_49b hx111.1 hx111.2.1 hx111.2.2 dX7_changesOf_111 (fun H locs hH hS => ?_)
                      obtain ⟨AI_52, eAI_52⟩ : ∃ qQ, qQ = gup2 AI_32 (gh 77 0) (i).toNat (iI (v_51)) := ⟨_, rfl⟩
                      rw [← eAI_52] at hH
                      have kAI_52 : ∀ b, b ≠ (gh 77 0) → AI_52 b = AI_32 b := fun b hb => by rw [eAI_52]; exact funext fun j => gup2_a _ _ hb
                      have t_53 : AI_52 (gh 50 0) = AI_32 (gh 50 0) := mK hv hm (p := (0, 640)) (q := (27, 4)) (by decide) (by decide) (by decide) kAI_52
                      have hv : mInv g gh R I_19 AI_52 := mInv_a hv hm (q := (27, 4)) (by decide) (by decide) kAI_52
                      have hT : AI_52 (gh 50 0) = T := t_53.trans hT
                      refine z_iinc (lv' := [(5, .int (iI (i + 1))), (4, .int (iI k)), (3, .int (iI an)), (0, .ref mo), (1, .int (iI sd)), (2, .int (iI rr))]) F dX7_changesOf_112 hl (k := 0) rfl (by decide) rfl (fun ls hl => ?_)
                      refine z_goto (tgt := 87) F dX7_changesOf_115 (by decide) ?_
                      exact ih87 (i + 1) AI_52 H locs ls ⟨by omega, by omega⟩ hv hT (by omega) (by omega) hH hS (lv_sub hl [0, 1, 2, 3, 4, 5] rfl)
                exact cut_87_32 (((4 - 0) + 1 : Int).toNat) 0 AI_20 H locs ls ⟨by decide, by decide⟩ hv hT (by omega) (by omega) hH hS (lv_sub hl [0, 1, 2, 3, 4, 5] rfl)
              · refine z_goto (tgt := 143) F dX7_changesOf_81 (by decide) ?_
                refine z_iinc (lv' := [(4, .int (iI (k + 1))), (3, .int (iI an)), (0, .ref mo), (1, .int (iI sd)), (2, .int (iI rr))]) F dX7_changesOf_143 hl (k := 0) rfl (by decide) rfl (fun ls hl => ?_)
                refine z_goto (tgt := 61) F dX7_changesOf_146 (by decide) ?_
                exact ih61 an (k + 1) I_19 AI_20 H locs ls zan ⟨by omega, by omega⟩ hv hT wf (by omega) (by omega) hH hS (lv_sub hl [0, 1, 2, 3, 4] rfl)
        exact cut_61_20 (((40 - 0) + 1 : Int).toNat) an 0 I_4 AI_5 H locs ls zan ⟨by decide, by decide⟩ hv hT wf (by omega) (by omega) hH hS (lv_sub hl [0, 1, 2, 3, 4] rfl)
      · refine lv_aload_n F.1 F.2.1 dX7_changesOf_21 rfl (lv_at hl 2 rfl) ?_
        refine lv_iload_n F.1 F.2.1 dX7_changesOf_22 rfl (lv_at hl 3 rfl) ?_
        refine lv_iload_n F.1 F.2.1 dX7_changesOf_23 rfl (lv_at hl 4 rfl) ?_
        refine lv_iload F.1 F.2.1 dX7_changesOf_24 (lv_at hl 0 rfl) ?_
        refine g_calli (g_runS (As := [.int (iI sd), .int (iI rr), .int (iI i)]) (rest := [.ref mo]) F hl.1 hH hS hz (c_X7_spot l g  I_4 R J AI_5 AJ AR sd rr i zsd zrr zi (by omega) (by omega) (by omega)) (va_cwS 3 F.2.2.2.2.1 (good_up gT_X7_spot) rfl rfl rfl hdX7_spot.2 ⟨Nat.le_of_ble_eq_true rfl, Nat.le_of_ble_eq_true rfl⟩) rfl rfl (Nat.le_of_ble_eq_true rfl) dX7_changesOf_26 ⟨Nat.zero_le _, Nat.zero_le _⟩) hS (fun v_60 I_54 R_55 J_56 AI_57 AJ_58 AR_59 H locs zv_60 hp_61 hH hS => ?_)
        dsimp only at hp_61
        obtain ⟨rfl, rfl, rfl, rfl, rfl, rfl, q_62⟩ := hp_61
        refine g_callv (g_runV (As := [.int (iI v_60)]) (rest := []) (ci := 7) F hl.1 hH hS hz (c_X7_takes l g gh T I_4 R J AI_5 AJ AR mo v_60 zv_60 hv hm hT (by omega)) (cwV 1 F.2.2.2.2.1 (good_up gT_X7_takes) rfl rfl rfl hdX7_takes ⟨Nat.le_of_ble_eq_true rfl, Nat.le_of_ble_eq_true rfl⟩) hm (by decide) rfl rfl rfl (Nat.le_of_ble_eq_true rfl) dX7_changesOf_29 ⟨Nat.zero_le _, Nat.zero_le _⟩) hS (fun I_63 R_64 J_65 AI_66 AJ_67 AR_68 H locs hp_69 hH hS => ?_)
        dsimp only at hp_69
        obtain ⟨rfl, rfl, rfl, rfl, rfl, hv, hT⟩ := hp_69
        refine lv_aload_n F.1 F.2.1 dX7_changesOf_32 rfl (lv_at hl 2 rfl) ?_
        refine lv_aload_n F.1 F.2.1 dX7_changesOf_33 rfl (lv_at hl 2 rfl) ?_
        obtain ⟨r_70a, r_70b⟩ : R mo 6 = some (gh 56 0) ∧ gAr g (gh 56 0) 9 126720 := mR hv hm (q := (6, 126720)) (by decide)
        refine g_getR (ci := 7) (k := 6) F hH rfl (by decide) iX7 hm (by decide) rfl (b := gh 56 0) r_70a k24 dX7_changesOf_34 ?_
        refine lv_iload_n F.1 F.2.1 dX7_changesOf_37 rfl (lv_at hl 3 rfl) ?_
        refine lv_iload_n F.1 F.2.1 dX7_changesOf_38 rfl (lv_at hl 4 rfl) ?_
        refine lv_iload F.1 F.2.1 dX7_changesOf_39 (lv_at hl 0 rfl) ?_
        refine g_calli (g_runS (As := [.int (iI sd), .int (iI rr), .int (iI i)]) (rest := [.ref (gh 56 0), .ref mo]) F hl.1 hH hS hz (c_X7_spot l g  I_4 R J AI_66 AJ AR sd rr i zsd zrr zi (by omega) (by omega) (by omega)) (va_cwS 3 F.2.2.2.2.1 (good_up gT_X7_spot) rfl rfl rfl hdX7_spot.2 ⟨Nat.le_of_ble_eq_true rfl, Nat.le_of_ble_eq_true rfl⟩) rfl rfl (Nat.le_of_ble_eq_true rfl) dX7_changesOf_41 ⟨Nat.zero_le _, Nat.zero_le _⟩) hS (fun v_77 I_71 R_72 J_73 AI_74 AJ_75 AR_76 H locs zv_77 hp_78 hH hS => ?_)
        dsimp only at hp_78
        obtain ⟨rfl, rfl, rfl, rfl, rfl, rfl, q_79⟩ := hp_78
        refine z_iconst F dX7_changesOf_44 ?_
        refine z_iadd F dX7_changesOf_45 ?_
        have hx46 : 0 ≤ (v_77 + 4) ∧ (v_77 + 4) < ((126720 : Nat) : Int) ∧ (v_77 + 4) ≤ 2147483647 := ⟨by omega, by omega, by omega⟩
        refine g_iald F hH r_70b hx46.1 hx46.2.1 hx46.2.2 dX7_changesOf_46 ?_
        refine z_name (fun v_80 ev_80 => ?_)
        have zv_80 : zr v_80 := by rw [ev_80]; exact zr_t _
        refine z_iconst F dX7_changesOf_47 ?_
        refine g_calli (g_runV (As := [.int (iI v_80), .int (iI 0)]) (rest := []) (ci := 7) F hl.1 hH hS hz (c_X7_gathers l g gh T I_4 R J AI_66 AJ AR mo v_80 0 zv_80 ⟨by decide, by decide⟩ hv hm hT (by omega)) (cwV 2 F.2.2.2.2.1 (good_up gT_X7_gathers) rfl rfl rfl hdX7_gathers ⟨Nat.le_of_ble_eq_true rfl, Nat.le_of_ble_eq_true rfl⟩) hm (by decide) rfl rfl rfl (Nat.le_of_ble_eq_true rfl) dX7_changesOf_48 ⟨Nat.zero_le _, Nat.zero_le _⟩) hS (fun v_87 I_81 R_82 J_83 AI_84 AJ_85 AR_86 H locs zv_87 hp_88 hH hS => ?_)
        dsimp only at hp_88
        obtain ⟨rfl, rfl, rfl, rfl, hv, hT, wfq, q_89⟩ := hp_88
        have wf := wF_t wf wfq
        have u_90_2 : (I_81 mo 2).toInt = (I mo 2).toInt := by rw [wf 2 (by decide)]
        have u_90_5 : (I_81 mo 5).toInt = (I mo 5).toInt := by rw [wf 5 (by decide)]
        have u_90_14 : (I_81 mo 14).toInt = (I mo 14).toInt := by rw [wf 14 (by decide)]
        have u_90_16 : (I_81 mo 16).toInt = (I mo 16).toInt := by rw [wf 16 (by decide)]
        have u_90_24 : (I_81 mo 24).toInt = (I mo 24).toInt := by rw [wf 24 (by decide)]
        refine lv_istore_n (lv' := [(3, .int (iI v_87)), (4, .int (iI i)), (0, .ref mo), (1, .int (iI sd)), (2, .int (iI rr))]) F.1 F.2.1 dX7_changesOf_51 rfl hl (by decide) rfl (fun ls hl => ?_)
        refine z_iinc (lv' := [(4, .int (iI (i + 1))), (3, .int (iI v_87)), (0, .ref mo), (1, .int (iI sd)), (2, .int (iI rr))]) F dX7_changesOf_52 hl (k := 1) rfl (by decide) rfl (fun ls hl => ?_)
        refine z_goto (tgt := 10) F dX7_changesOf_55 (by decide) ?_
        exact ih10 v_87 (i + 1) I_81 AI_84 H locs ls zv_87 ⟨by omega, by omega⟩ hv hT wf (by omega) (by omega) hH hS (lv_sub hl [0, 1, 2, 3, 4] rfl)
  exact cut_10_5 (((120 - 0) + 1 : Int).toNat) 1 0 I_1 AI H locs ls ⟨by decide, by decide⟩ ⟨by decide, by decide⟩ hv hT wf (by omega) (by omega) hH hS (lv_sub hl [0, 1, 2, 3, 4] rfl)
