def rmX7_groupTold : Room := { frames := 8, cells := 0, slots := 0, locals := 170 }
theorem hdX7_groupTold : yX7_groupTold.cls = RX7 ∧ yX7_groupTold.cls ≠ "java/lang/invoke/MethodHandle" ∧ yX7_groupTold.cls ≠ "java/lang/invoke/VarHandle" ∧ (parseMethodDescriptor yX7_groupTold.desc).map (fun d => d.parameters.length) = some 0 := by decide +kernel
set_option maxHeartbeats 4000000 in
set_option maxRecDepth 100000 in
/-- a group told -/
theorem c_X7_groupTold (l : Launch) (g : gG) (gh : gGh) (T : Nat → Int32) (M : Int) (I : gI) (R : gR) (J : gJ) (AI : gI) (AJ : gJ) (AR : gR) (mo : Nat) (hv : mInv g gh R I AI) (hm : gO g mo 7) (hT : AI (gh 50 0) = T) (hE : (I mo 20).toInt ≤ 936) (hM : (I mo 24).toInt = 0 → (I mo 5).toInt ≤ 15) (hMM : (I mo 5).toInt = M) : gMet l g yX7_groupTold tsX7_groupTold rmX7_groupTold [.ref mo] (I, R, J, AI, AJ, AR) (gQv g (fun w : gS => R = w.2.1 ∧ AJ = w.2.2.2.2.1 ∧ AR = w.2.2.2.2.2 ∧ (mInv g gh R (w.1) (w.2.2.2.1)) ∧ ((w.2.2.2.1) (gh 50 0) = T) ∧ (qF mo I (w.1)) ∧ (((w.1) mo 20).toInt ≤ 936 ∧ (I mo 24).toInt ≤ ((w.1) mo 24).toInt) ∧ (((w.1) mo 24).toInt = 0 → ((w.1) mo 21).toInt = 4 → ((w.1) mo 23).toInt = 59 → rowOK ((w.2.2.2.1) (gh 53 0)) M) ∧ (((w.1) mo 24).toInt = 0 → tI ((w.2.2.2.1) (gh 53 0)) (40 * M) = 7))) := by
  refine gStart (cc := cX7_groupTold) (maxL := 7) (ret := none) (by decide) rfl (Nat.le_of_ble_eq_true rfl) ?_
  intro p e s m below meth c ls F hr hlk hH hz hS hl
  have hl : lv_has ls 7 [(0, .ref mo)] := hl
  have hS : va_S (gA g) s.heap s.heap [] := hS
  obtain ⟨H, hHe⟩ : ∃ H : Heap, H = s.heap := ⟨_, rfl⟩
  obtain ⟨locs, hlo⟩ : ∃ k : List Loc, k = [] := ⟨_, rfl⟩
  have hH : gH g I R J AI AJ AR H := by rw [hHe]; exact hH
  have hS : va_S (gA g) s.heap H locs := by rw [hHe, hlo]; exact hS
  suffices hw : W p l e rmX7_groupTold s m ([.ref mo] : List Value).toArray below meth c H locs 0 0 (MQ below (gQv g (fun w : gS => R = w.2.1 ∧ AJ = w.2.2.2.2.1 ∧ AR = w.2.2.2.2.2 ∧ (mInv g gh R (w.1) (w.2.2.2.1)) ∧ ((w.2.2.2.1) (gh 50 0) = T) ∧ (qF mo I (w.1)) ∧ (((w.1) mo 20).toInt ≤ 936 ∧ (I mo 24).toInt ≤ ((w.1) mo 24).toInt) ∧ (((w.1) mo 24).toInt = 0 → ((w.1) mo 21).toInt = 4 → ((w.1) mo 23).toInt = 59 → rowOK ((w.2.2.2.1) (gh 53 0)) M) ∧ (((w.1) mo 24).toInt = 0 → tI ((w.2.2.2.1) (gh 53 0)) (40 * M) = 7))) ([.ref mo] : List Value).toArray s 0 0 (gA g)) (F0 m 0 ls []) by
    rw [hHe, hlo] at hw; exact hw
  clear hHe hlo
  have pf : qF mo I I := qF_r
  have hb0 := mJ hv hm
  unfold mNum1 at hb0
  have iX7 : ∀ w ∈ u_ws RX7 TX7 32, w ∈ tsX7_groupTold := fun w h => List.mem_cons_of_mem _ (inTB7 w h)
  have k81 : Cond.fieldLink RX7 81 (TX7 24).1 (TX7 24).2.1 (TX7 24).2.2.1 ∈ tsX7_groupTold := List.mem_cons_of_mem _ fl_81
  have k94 : Cond.fieldLink RX7 94 (TX7 21).1 (TX7 21).2.1 (TX7 21).2.2.1 ∈ tsX7_groupTold := List.mem_cons_of_mem _ fl_94
  have k97 : Cond.fieldLink RX7 97 (TX7 23).1 (TX7 23).2.1 (TX7 23).2.2.1 ∈ tsX7_groupTold := List.mem_cons_of_mem _ fl_97
  refine lv_aload_n F.1 F.2.1 dX7_groupTold_0 rfl (lv_at hl 0 rfl) ?_
  have b_1 := mJ hv hm
  unfold mNum1 at b_1
  refine g_calli (g_runV (As := []) (rest := []) (ci := 7) F hl.1 hH hS hz (c_X7_relation l g gh T I R J AI AJ AR mo hv hm hT (by omega)) (cwV 0 F.2.2.2.2.1 (good_up gT_X7_relation) rfl rfl rfl hdX7_relation ⟨Nat.le_of_ble_eq_true rfl, Nat.le_of_ble_eq_true rfl⟩) hm (by decide) rfl rfl rfl (Nat.le_of_ble_eq_true rfl) dX7_groupTold_1 ⟨Nat.zero_le _, Nat.zero_le _⟩) hS (fun v_8 I_2 R_3 J_4 AI_5 AJ_6 AR_7 H locs zv_8 hp_9 hH hS => ?_)
  dsimp only at hp_9
  obtain ⟨rfl, rfl, rfl, rfl, hv, pfq, q_10, q_11⟩ := hp_9
  have pf := qF_t pf pfq
  have u_12_2 : (I_2 mo 2).toInt = (I mo 2).toInt := by rw [pf 2 (by decide) (by decide) (by decide) (by decide) (by decide)]
  have u_12_5 : (I_2 mo 5).toInt = (I mo 5).toInt := by rw [pf 5 (by decide) (by decide) (by decide) (by decide) (by decide)]
  have u_12_14 : (I_2 mo 14).toInt = (I mo 14).toInt := by rw [pf 14 (by decide) (by decide) (by decide) (by decide) (by decide)]
  have u_12_16 : (I_2 mo 16).toInt = (I mo 16).toInt := by rw [pf 16 (by decide) (by decide) (by decide) (by decide) (by decide)]
  have u_12_18 : (I_2 mo 18).toInt = (I mo 18).toInt := by rw [pf 18 (by decide) (by decide) (by decide) (by decide) (by decide)]
  obtain ⟨f0, ef0⟩ : ∃ q, q = (I_2 mo 24).toInt := ⟨_, rfl⟩
  have hr1 : f0 = 0 → v_8 < M := by omega
  refine lv_istore_n (lv' := [(1, .int (iI v_8)), (0, .ref mo)]) F.1 F.2.1 dX7_groupTold_4 rfl hl (by decide) rfl (fun ls hl => ?_)
  refine lv_aload_n F.1 F.2.1 dX7_groupTold_5 rfl (lv_at hl 1 rfl) ?_
  refine va_ldcS F.1 F.2.1 F.2.2.2.1 (F.2.2.2.2.2.2.1 19 _ rfl).1 dX7_groupTold_6 ?_
  have b_13 := mJ hv hm
  unfold mNum1 at b_13
  refine g_callv (g_runV (As := [.ref (gSK g 19)]) (rest := []) (ci := 7) F hl.1 hH hS hz (c_X7_mustWord l g gh T 19 _ I_2 R J_4 AI AJ AR mo hv hm hT (by omega) (rfl : sTab[19]? = some _)) (cwV 1 F.2.2.2.2.1 (good_up gT_X7_mustWord) rfl rfl rfl hdX7_mustWord ⟨Nat.le_of_ble_eq_true rfl, Nat.le_of_ble_eq_true rfl⟩) hm (by decide) rfl rfl rfl (Nat.le_of_ble_eq_true rfl) dX7_groupTold_8 ⟨Nat.zero_le _, Nat.zero_le _⟩) hS (fun I_14 R_15 J_16 AI_17 AJ_18 AR_19 H locs hp_20 hH hS => ?_)
  dsimp only at hp_20
  obtain ⟨rfl, rfl, rfl, rfl, hv, pfq, q_21⟩ := hp_20
  have pf := qF_t pf pfq
  have u_22_2 : (I_14 mo 2).toInt = (I mo 2).toInt := by rw [pf 2 (by decide) (by decide) (by decide) (by decide) (by decide)]
  have u_22_5 : (I_14 mo 5).toInt = (I mo 5).toInt := by rw [pf 5 (by decide) (by decide) (by decide) (by decide) (by decide)]
  have u_22_14 : (I_14 mo 14).toInt = (I mo 14).toInt := by rw [pf 14 (by decide) (by decide) (by decide) (by decide) (by decide)]
  have u_22_16 : (I_14 mo 16).toInt = (I mo 16).toInt := by rw [pf 16 (by decide) (by decide) (by decide) (by decide) (by decide)]
  have u_22_18 : (I_14 mo 18).toInt = (I mo 18).toInt := by rw [pf 18 (by decide) (by decide) (by decide) (by decide) (by decide)]
  refine z_iconst F dX7_groupTold_11 ?_
  refine lv_istore_n (lv' := [(2, .int (iI 0)), (1, .int (iI v_8)), (0, .ref mo)]) F.1 F.2.1 dX7_groupTold_12 rfl hl (by decide) rfl (fun ls hl => ?_)
  refine z_iconst F dX7_groupTold_13 ?_
  refine lv_istore_n (lv' := [(3, .int (iI 0)), (2, .int (iI 0)), (1, .int (iI v_8)), (0, .ref mo)]) F.1 F.2.1 dX7_groupTold_14 rfl hl (by decide) rfl (fun ls hl => ?_)
  refine z_iconst F dX7_groupTold_15 ?_
  refine lv_istore (lv' := [(4, .int (iI 1)), (3, .int (iI 0)), (2, .int (iI 0)), (1, .int (iI v_8)), (0, .ref mo)]) F.1 F.2.1 dX7_groupTold_16 hl (by decide) rfl (fun ls hl => ?_)
  have cut_18_25 : ∀ (NN : Nat) (n had mr : Int) (I_23 : gI) (J_24 : gJ) (AI_25 : gI) (H : Heap) (locs : List Loc) (ls : Array Slot), zr n → zr had → zr mr → (mInv g gh R I_23 AI_25) → (AI_25 (gh 50 0) = T) → (qF mo I I_23) → ((I_23 mo 20).toInt ≤ 936 ∧ f0 ≤ (I_23 mo 24).toInt ∧ 0 ≤ n ∧ n ≤ 4 ∧ (mr = 0 ∨ mr = 1)) → ((I_23 mo 24).toInt = 0 → n ≤ 3 ∧ grpP (AI_25 (gh 53 0)) M n) → (5 - n) < ((NN : Nat) : Int) → gH g I_23 R J_24 AI_25 AJ AR H → va_S (gA g) s.heap H locs → lv_has ls 7 [(4, .int (iI mr)), (3, .int (iI had)), (2, .int (iI n)), (1, .int (iI v_8)), (0, .ref mo)] → W p l e rmX7_groupTold s m ([.ref mo] : List Value).toArray below meth c H locs 0 0 (MQ below (gQv g (fun w : gS => R = w.2.1 ∧ AJ = w.2.2.2.2.1 ∧ AR = w.2.2.2.2.2 ∧ (mInv g gh R (w.1) (w.2.2.2.1)) ∧ ((w.2.2.2.1) (gh 50 0) = T) ∧ (qF mo I (w.1)) ∧ (((w.1) mo 20).toInt ≤ 936 ∧ (I mo 24).toInt ≤ ((w.1) mo 24).toInt) ∧ (((w.1) mo 24).toInt = 0 → ((w.1) mo 21).toInt = 4 → ((w.1) mo 23).toInt = 59 → rowOK ((w.2.2.2.1) (gh 53 0)) M) ∧ (((w.1) mo 24).toInt = 0 → tI ((w.2.2.2.1) (gh 53 0)) (40 * M) = 7))) ([.ref mo] : List Value).toArray s 0 0 (gA g)) (F0 m 18 ls []) := by
    intro NN18
    induction NN18 with
    | zero =>
      intro n had mr I_23 J_24 AI_25 H locs ls zn zhad zmr hv hT pf hx hp hm18 hH hS hl
      exact absurd hm18 (by omega)
    | succ NN18 ih18 =>
      intro n had mr I_23 J_24 AI_25 H locs ls zn zhad zmr hv hT pf hx hp hm18 hH hS hl
      have uc_2 : (I_23 mo 2).toInt = (I mo 2).toInt := by rw [pf 2 (by decide) (by decide) (by decide) (by decide) (by decide)]
      have uc_5 : (I_23 mo 5).toInt = (I mo 5).toInt := by rw [pf 5 (by decide) (by decide) (by decide) (by decide) (by decide)]
      have uc_14 : (I_23 mo 14).toInt = (I mo 14).toInt := by rw [pf 14 (by decide) (by decide) (by decide) (by decide) (by decide)]
      have uc_16 : (I_23 mo 16).toInt = (I mo 16).toInt := by rw [pf 16 (by decide) (by decide) (by decide) (by decide) (by decide)]
      have uc_18 : (I_23 mo 18).toInt = (I mo 18).toInt := by rw [pf 18 (by decide) (by decide) (by decide) (by decide) (by decide)]
      have cut_156_26 : ∀ (H : Heap) (locs : List Loc) (ls : Array Slot), gH g I_23 R J_24 AI_25 AJ AR H → va_S (gA g) s.heap H locs → lv_has ls 7 [(4, .int (iI mr)), (3, .int (iI had)), (2, .int (iI n)), (1, .int (iI v_8)), (0, .ref mo)] → W p l e rmX7_groupTold s m ([.ref mo] : List Value).toArray below meth c H locs 0 0 (MQ below (gQv g (fun w : gS => R = w.2.1 ∧ AJ = w.2.2.2.2.1 ∧ AR = w.2.2.2.2.2 ∧ (mInv g gh R (w.1) (w.2.2.2.1)) ∧ ((w.2.2.2.1) (gh 50 0) = T) ∧ (qF mo I (w.1)) ∧ (((w.1) mo 20).toInt ≤ 936 ∧ (I mo 24).toInt ≤ ((w.1) mo 24).toInt) ∧ (((w.1) mo 24).toInt = 0 → ((w.1) mo 21).toInt = 4 → ((w.1) mo 23).toInt = 59 → rowOK ((w.2.2.2.1) (gh 53 0)) M) ∧ (((w.1) mo 24).toInt = 0 → tI ((w.2.2.2.1) (gh 53 0)) (40 * M) = 7))) ([.ref mo] : List Value).toArray s 0 0 (gA g)) (F0 m 156 ls []) := by
        intro H locs ls hH hS hl
        obtain ⟨f3, ef3⟩ : ∃ q, q = (I_23 mo 24).toInt := ⟨_, rfl⟩
        have cut_209_27 : ∀ (fo : Int) (H : Heap) (locs : List Loc) (ls : Array Slot), zr fo → (-1 ≤ fo ∧ fo ≤ 3) → gH g I_23 R J_24 AI_25 AJ AR H → va_S (gA g) s.heap H locs → lv_has ls 7 [(4, .int (iI mr)), (3, .int (iI had)), (2, .int (iI n)), (1, .int (iI v_8)), (0, .ref mo)] → W p l e rmX7_groupTold s m ([.ref mo] : List Value).toArray below meth c H locs 0 0 (MQ below (gQv g (fun w : gS => R = w.2.1 ∧ AJ = w.2.2.2.2.1 ∧ AR = w.2.2.2.2.2 ∧ (mInv g gh R (w.1) (w.2.2.2.1)) ∧ ((w.2.2.2.1) (gh 50 0) = T) ∧ (qF mo I (w.1)) ∧ (((w.1) mo 20).toInt ≤ 936 ∧ (I mo 24).toInt ≤ ((w.1) mo 24).toInt) ∧ (((w.1) mo 24).toInt = 0 → ((w.1) mo 21).toInt = 4 → ((w.1) mo 23).toInt = 59 → rowOK ((w.2.2.2.1) (gh 53 0)) M) ∧ (((w.1) mo 24).toInt = 0 → tI ((w.2.2.2.1) (gh 53 0)) (40 * M) = 7))) ([.ref mo] : List Value).toArray s 0 0 (gA g)) (F0 m 209 ls [.int (iI fo)]) := by
          intro fo H locs ls zfo hfo hH hS hl
          refine lv_istore (lv' := [(5, .int (iI fo)), (4, .int (iI mr)), (3, .int (iI had)), (2, .int (iI n)), (1, .int (iI v_8)), (0, .ref mo)]) F.1 F.2.1 dX7_groupTold_209 hl (by decide) rfl (fun ls hl => ?_)
          have cut_221_29 : ∀ (I_29 : gI) (H : Heap) (locs : List Loc) (ls : Array Slot), (mInv g gh R I_29 AI_25) → (qF mo I I_29) → ((I_29 mo 20).toInt ≤ 936 ∧ f3 ≤ (I_29 mo 24).toInt) → gH g I_29 R J_24 AI_25 AJ AR H → va_S (gA g) s.heap H locs → lv_has ls 7 [(5, .int (iI fo)), (4, .int (iI mr)), (3, .int (iI had)), (2, .int (iI n)), (1, .int (iI v_8)), (0, .ref mo)] → W p l e rmX7_groupTold s m ([.ref mo] : List Value).toArray below meth c H locs 0 0 (MQ below (gQv g (fun w : gS => R = w.2.1 ∧ AJ = w.2.2.2.2.1 ∧ AR = w.2.2.2.2.2 ∧ (mInv g gh R (w.1) (w.2.2.2.1)) ∧ ((w.2.2.2.1) (gh 50 0) = T) ∧ (qF mo I (w.1)) ∧ (((w.1) mo 20).toInt ≤ 936 ∧ (I mo 24).toInt ≤ ((w.1) mo 24).toInt) ∧ (((w.1) mo 24).toInt = 0 → ((w.1) mo 21).toInt = 4 → ((w.1) mo 23).toInt = 59 → rowOK ((w.2.2.2.1) (gh 53 0)) M) ∧ (((w.1) mo 24).toInt = 0 → tI ((w.2.2.2.1) (gh 53 0)) (40 * M) = 7))) ([.ref mo] : List Value).toArray s 0 0 (gA g)) (F0 m 221 ls []) := by
            intro I_29 H locs ls hv pf hj211 hH hS hl
            have uc_2 : (I_29 mo 2).toInt = (I mo 2).toInt := by rw [pf 2 (by decide) (by decide) (by decide) (by decide) (by decide)]
            have uc_5 : (I_29 mo 5).toInt = (I mo 5).toInt := by rw [pf 5 (by decide) (by decide) (by decide) (by decide) (by decide)]
            have uc_14 : (I_29 mo 14).toInt = (I mo 14).toInt := by rw [pf 14 (by decide) (by decide) (by decide) (by decide) (by decide)]
            have uc_16 : (I_29 mo 16).toInt = (I mo 16).toInt := by rw [pf 16 (by decide) (by decide) (by decide) (by decide) (by decide)]
            have uc_18 : (I_29 mo 18).toInt = (I mo 18).toInt := by rw [pf 18 (by decide) (by decide) (by decide) (by decide) (by decide)]
            refine lv_aload_n F.1 F.2.1 dX7_groupTold_221 rfl (lv_at hl 5 rfl) ?_
            have b_31 := mJ hv hm
            unfold mNum1 at b_31
            refine g_callv (g_runV (As := []) (rest := []) (ci := 7) F hl.1 hH hS hz (c_X7_next l g gh T I_29 R J_24 AI_25 AJ AR mo hv hm hT (by omega)) (cwV 0 F.2.2.2.2.1 (good_up gT_X7_next) rfl rfl rfl hdX7_next ⟨Nat.le_of_ble_eq_true rfl, Nat.le_of_ble_eq_true rfl⟩) hm (by decide) rfl rfl rfl (Nat.le_of_ble_eq_true rfl) dX7_groupTold_222 ⟨Nat.zero_le _, Nat.zero_le _⟩) hS (fun I_32 R_33 J_34 AI_35 AJ_36 AR_37 H locs hp_38 hH hS => ?_)
            dsimp only at hp_38
            obtain ⟨rfl, rfl, rfl, rfl, hv, pfq, q_39, q_40⟩ := hp_38
            have pf := qF_t pf pfq
            have u_41_2 : (I_32 mo 2).toInt = (I mo 2).toInt := by rw [pf 2 (by decide) (by decide) (by decide) (by decide) (by decide)]
            have u_41_5 : (I_32 mo 5).toInt = (I mo 5).toInt := by rw [pf 5 (by decide) (by decide) (by decide) (by decide) (by decide)]
            have u_41_14 : (I_32 mo 14).toInt = (I mo 14).toInt := by rw [pf 14 (by decide) (by decide) (by decide) (by decide) (by decide)]
            have u_41_16 : (I_32 mo 16).toInt = (I mo 16).toInt := by rw [pf 16 (by decide) (by decide) (by decide) (by decide) (by decide)]
            have u_41_18 : (I_32 mo 18).toInt = (I mo 18).toInt := by rw [pf 18 (by decide) (by decide) (by decide) (by decide) (by decide)]
            have cut_243_43 : ∀ (c6 : Int) (I_42 : gI) (J_43 : gJ) (H : Heap) (locs : List Loc) (ls : Array Slot), zr c6 → (mInv g gh R I_42 AI_25) → (qF mo I I_42) → ((I_42 mo 20).toInt ≤ 936 ∧ f3 ≤ (I_42 mo 24).toInt ∧ ((I_42 mo 24).toInt = 0 → 0 ≤ c6 ∧ c6 ≤ 3)) → gH g I_42 R J_43 AI_25 AJ AR H → va_S (gA g) s.heap H locs → lv_has ls 7 [(5, .int (iI fo)), (4, .int (iI mr)), (3, .int (iI had)), (2, .int (iI n)), (1, .int (iI v_8)), (0, .ref mo)] → W p l e rmX7_groupTold s m ([.ref mo] : List Value).toArray below meth c H locs 0 0 (MQ below (gQv g (fun w : gS => R = w.2.1 ∧ AJ = w.2.2.2.2.1 ∧ AR = w.2.2.2.2.2 ∧ (mInv g gh R (w.1) (w.2.2.2.1)) ∧ ((w.2.2.2.1) (gh 50 0) = T) ∧ (qF mo I (w.1)) ∧ (((w.1) mo 20).toInt ≤ 936 ∧ (I mo 24).toInt ≤ ((w.1) mo 24).toInt) ∧ (((w.1) mo 24).toInt = 0 → ((w.1) mo 21).toInt = 4 → ((w.1) mo 23).toInt = 59 → rowOK ((w.2.2.2.1) (gh 53 0)) M) ∧ (((w.1) mo 24).toInt = 0 → tI ((w.2.2.2.1) (gh 53 0)) (40 * M) = 7))) ([.ref mo] : List Value).toArray s 0 0 (gA g)) (F0 m 243 ls [.int (iI c6)]) := by
              intro c6 I_42 J_43 H locs ls zc6 hv pf h243 hH hS hl
              have uc_2 : (I_42 mo 2).toInt = (I mo 2).toInt := by rw [pf 2 (by decide) (by decide) (by decide) (by decide) (by decide)]
              have uc_5 : (I_42 mo 5).toInt = (I mo 5).toInt := by rw [pf 5 (by decide) (by decide) (by decide) (by decide) (by decide)]
              have uc_14 : (I_42 mo 14).toInt = (I mo 14).toInt := by rw [pf 14 (by decide) (by decide) (by decide) (by decide) (by decide)]
              have uc_16 : (I_42 mo 16).toInt = (I mo 16).toInt := by rw [pf 16 (by decide) (by decide) (by decide) (by decide) (by decide)]
              have uc_18 : (I_42 mo 18).toInt = (I mo 18).toInt := by rw [pf 18 (by decide) (by decide) (by decide) (by decide) (by decide)]
              refine lv_istore (lv' := [(6, .int (iI c6)), (5, .int (iI fo)), (4, .int (iI mr)), (3, .int (iI had)), (2, .int (iI n)), (1, .int (iI v_8)), (0, .ref mo)]) F.1 F.2.1 dX7_groupTold_243 hl (by decide) rfl (fun ls hl => ?_)
              refine lv_aload_n F.1 F.2.1 dX7_groupTold_245 rfl (lv_at hl 6 rfl) ?_
              refine lv_iload_n F.1 F.2.1 dX7_groupTold_246 rfl (lv_at hl 4 rfl) ?_
              refine lv_iload F.1 F.2.1 dX7_groupTold_247 (lv_at hl 0 rfl) ?_
              refine lv_iload F.1 F.2.1 dX7_groupTold_249 (lv_at hl 1 rfl) ?_
              refine z_iconst F dX7_groupTold_251 ?_
              refine z_iconst F dX7_groupTold_252 ?_
              have b_45 := mJ hv hm
              unfold mNum1 at b_45
              refine g_callv (g_runV (As := [.int (iI n), .int (iI c6), .int (iI fo), .int (iI 0), .int (iI 0)]) (rest := []) (ci := 7) F hl.1 hH hS hz (c_X7_setsPart l g gh T M I_42 R J_43 AI_25 AJ AR mo n c6 fo 0 0 zn zc6 zfo ⟨by decide, by decide⟩ ⟨by decide, by decide⟩ hv hm hT (by omega) (by omega) (by omega)) (cwV 5 F.2.2.2.2.1 (good_up gT_X7_setsPart) rfl rfl rfl hdX7_setsPart ⟨Nat.le_of_ble_eq_true rfl, Nat.le_of_ble_eq_true rfl⟩) hm (by decide) rfl rfl rfl (Nat.le_of_ble_eq_true rfl) dX7_groupTold_253 ⟨Nat.zero_le _, Nat.zero_le _⟩) hS (fun I_46 R_47 J_48 AI_49 AJ_50 AR_51 H locs hp_52 hH hS => ?_)
              dsimp only at hp_52
              obtain ⟨rfl, rfl, rfl, rfl, rfl, hv, hT, hsp⟩ := hp_52
              refine lv_aload_n F.1 F.2.1 dX7_groupTold_256 rfl (lv_at hl 6 rfl) ?_
              refine z_bipush F dX7_groupTold_257 (by decide) ?_
              refine lv_iload_n F.1 F.2.1 dX7_groupTold_259 rfl (lv_at hl 4 rfl) ?_
              refine z_iconst F dX7_groupTold_260 ?_
              refine z_iadd F dX7_groupTold_261 ?_
              refine lv_iload_n F.1 F.2.1 dX7_groupTold_262 rfl (lv_at hl 5 rfl) ?_
              refine z_iconst F dX7_groupTold_263 ?_
              refine lv_iload_n F.1 F.2.1 dX7_groupTold_264 rfl (lv_at hl 4 rfl) ?_
              refine g_callv (g_runV (As := [.int (iI 7), .int (iI (n + 1)), .int (iI v_8), .int (iI ((-1))), .int (iI n)]) (rest := []) (ci := 7) F hl.1 hH hS hz (c_X7_header l g gh T M I_42 R J_43 AI_49 AJ AR mo 7 (n + 1) v_8 (-1) n ⟨by decide, by decide⟩ ⟨by omega, by omega⟩ zv_8 ⟨by decide, by decide⟩ zn hv hm hT (by omega) (by omega)) (cwV 5 F.2.2.2.2.1 (good_up gT_X7_header) rfl rfl rfl hdX7_header ⟨Nat.le_of_ble_eq_true rfl, Nat.le_of_ble_eq_true rfl⟩) hm (by decide) rfl rfl rfl (Nat.le_of_ble_eq_true rfl) dX7_groupTold_265 ⟨Nat.zero_le _, Nat.zero_le _⟩) hS (fun I_53 R_54 J_55 AI_56 AJ_57 AR_58 H locs hp_59 hH hS => ?_)
              dsimp only at hp_59
              obtain ⟨rfl, rfl, rfl, rfl, rfl, hv, hT, hhd⟩ := hp_59
              exact g_vret F hr hlk hH hS hz ⟨rfl, rfl, rfl, hv, hT, pf, by first | omega | rfl | (dsimp only; omega), by (try dsimp only); intro hf ht hn; have q9 := hp (by omega); exact row_mk (by omega) (hhd (by omega)) (by omega) (by omega) (by omega) (by omega) (fun h => absurd h (by omega)) (fun h => absurd h (by omega)) (fun h => absurd h (by omega)) (fun h => absurd h (by omega)) (fun h => absurd h (by omega)) (fun _ => ⟨by omega, grpP_step (by omega) q9.2 (hsp (by omega)) (by omega)⟩) (fun h => absurd h (by omega)), by (try dsimp only); intro hf; exact (hhd (by omega)).2.1⟩ dX7_groupTold_268
            refine lv_iload F.1 F.2.1 dX7_groupTold_225 (lv_at hl 0 rfl) ?_
            refine z_if_le (tgt := 242) F dX7_groupTold_227 (by decide) zfo (fun c_60 => ?_) (fun c_60 => ?_)
            · refine z_iconst F dX7_groupTold_242 ?_
              exact cut_243_43 0 I_32 J_34 H locs ls ⟨by decide, by decide⟩ hv pf (by omega) hH hS (lv_sub hl [0, 1, 2, 3, 4, 5] rfl)
            · refine lv_aload_n F.1 F.2.1 dX7_groupTold_230 rfl (lv_at hl 5 rfl) ?_
              refine lv_aload_n F.1 F.2.1 dX7_groupTold_231 rfl (lv_at hl 5 rfl) ?_
              refine lv_iload_n F.1 F.2.1 dX7_groupTold_232 rfl (lv_at hl 4 rfl) ?_
              have b_61 := mJ hv hm
              unfold mNum1 at b_61
              refine g_calli (g_runV (As := [.int (iI v_8)]) (rest := [.ref mo]) (ci := 7) F hl.1 hH hS hz (c_X7_columns l g gh T I_32 R J_34 AI_25 AJ AR mo v_8 zv_8 hv hm hT (by omega)) (cwV 1 F.2.2.2.2.1 (good_up gT_X7_columns) rfl rfl rfl hdX7_columns ⟨Nat.le_of_ble_eq_true rfl, Nat.le_of_ble_eq_true rfl⟩) hm (by decide) rfl rfl rfl (Nat.le_of_ble_eq_true rfl) dX7_groupTold_233 ⟨Nat.zero_le _, Nat.zero_le _⟩) hS (fun v_68 I_62 R_63 J_64 AI_65 AJ_66 AR_67 H locs zv_68 hp_69 hH hS => ?_)
              dsimp only at hp_69
              obtain ⟨rfl, rfl, rfl, rfl, rfl, rfl, q_70⟩ := hp_69
              refine g_calli (g_runV (As := [.int (iI v_68)]) (rest := []) (ci := 7) F hl.1 hH hS hz (c_X7_column l g gh T I_32 R J_34 AI_25 AJ AR mo v_68 zv_68 hv hm hT (by omega)) (cwV 1 F.2.2.2.2.1 (good_up gT_X7_column) rfl rfl rfl hdX7_column ⟨Nat.le_of_ble_eq_true rfl, Nat.le_of_ble_eq_true rfl⟩) hm (by decide) rfl rfl rfl (Nat.le_of_ble_eq_true rfl) dX7_groupTold_236 ⟨Nat.zero_le _, Nat.zero_le _⟩) hS (fun v_77 I_71 R_72 J_73 AI_74 AJ_75 AR_76 H locs zv_77 hp_78 hH hS => ?_)
              dsimp only at hp_78
              obtain ⟨rfl, rfl, rfl, rfl, hv, pfq, q_79, q_80⟩ := hp_78
              have pf := qF_t pf pfq
              have u_81_2 : (I_71 mo 2).toInt = (I mo 2).toInt := by rw [pf 2 (by decide) (by decide) (by decide) (by decide) (by decide)]
              have u_81_5 : (I_71 mo 5).toInt = (I mo 5).toInt := by rw [pf 5 (by decide) (by decide) (by decide) (by decide) (by decide)]
              have u_81_14 : (I_71 mo 14).toInt = (I mo 14).toInt := by rw [pf 14 (by decide) (by decide) (by decide) (by decide) (by decide)]
              have u_81_16 : (I_71 mo 16).toInt = (I mo 16).toInt := by rw [pf 16 (by decide) (by decide) (by decide) (by decide) (by decide)]
              have u_81_18 : (I_71 mo 18).toInt = (I mo 18).toInt := by rw [pf 18 (by decide) (by decide) (by decide) (by decide) (by decide)]
              refine z_goto (tgt := 243) F dX7_groupTold_239 (by decide) ?_
              exact cut_243_43 v_77 I_71 J_73 H locs ls zv_77 hv pf (by omega) hH hS (lv_sub hl [0, 1, 2, 3, 4, 5] rfl)
          refine lv_iload F.1 F.2.1 dX7_groupTold_211 (lv_at hl 0 rfl) ?_
          refine z_if_ge (tgt := 221) F dX7_groupTold_213 (by decide) zfo (fun c_82 => ?_) (fun c_82 => ?_)
          · exact cut_221_29 I_23 H locs ls hv pf (by omega) hH hS (lv_sub hl [0, 1, 2, 3, 4, 5] rfl)
          · refine lv_aload_n F.1 F.2.1 dX7_groupTold_216 rfl (lv_at hl 5 rfl) ?_
            refine z_iconst F dX7_groupTold_217 ?_
            have b_83 := mJ hv hm
            unfold mNum1 at b_83
            refine g_callv (g_runV (As := [.int (iI 1)]) (rest := []) (ci := 7) F hl.1 hH hS hz (c_X7_wrong l g gh T I_23 R J_24 AI_25 AJ AR mo 1 ⟨by decide, by decide⟩ hv hm hT (by omega)) (cwV 1 F.2.2.2.2.1 (good_up gT_X7_wrong) rfl rfl rfl hdX7_wrong ⟨Nat.le_of_ble_eq_true rfl, Nat.le_of_ble_eq_true rfl⟩) hm (by decide) rfl rfl rfl (Nat.le_of_ble_eq_true rfl) dX7_groupTold_218 ⟨Nat.zero_le _, Nat.zero_le _⟩) hS (fun I_84 R_85 J_86 AI_87 AJ_88 AR_89 H locs hp_90 hH hS => ?_)
            dsimp only at hp_90
            obtain ⟨rfl, rfl, rfl, rfl, rfl, hv, pfq, q_91⟩ := hp_90
            have pf := qF_t pf pfq
            have u_92_2 : (I_84 mo 2).toInt = (I mo 2).toInt := by rw [pf 2 (by decide) (by decide) (by decide) (by decide) (by decide)]
            have u_92_5 : (I_84 mo 5).toInt = (I mo 5).toInt := by rw [pf 5 (by decide) (by decide) (by decide) (by decide) (by decide)]
            have u_92_14 : (I_84 mo 14).toInt = (I mo 14).toInt := by rw [pf 14 (by decide) (by decide) (by decide) (by decide) (by decide)]
            have u_92_16 : (I_84 mo 16).toInt = (I mo 16).toInt := by rw [pf 16 (by decide) (by decide) (by decide) (by decide) (by decide)]
            have u_92_18 : (I_84 mo 18).toInt = (I mo 18).toInt := by rw [pf 18 (by decide) (by decide) (by decide) (by decide) (by decide)]
            exact cut_221_29 I_84 H locs ls hv pf (by omega) hH hS (lv_sub hl [0, 1, 2, 3, 4, 5] rfl)
        refine lv_aload_n F.1 F.2.1 dX7_groupTold_156 rfl (lv_at hl 4 rfl) ?_
        refine va_ldcS F.1 F.2.1 F.2.2.2.1 (F.2.2.2.2.2.2.1 20 _ rfl).1 dX7_groupTold_157 ?_
        have b_93 := mJ hv hm
        unfold mNum1 at b_93
        refine g_calli (g_runV (As := [.ref (gSK g 20)]) (rest := []) (ci := 7) F hl.1 hH hS hz (c_X7_isWord l g gh T 20 _ I_23 R J_24 AI_25 AJ AR mo hv hm hT (rfl : sTab[20]? = some _)) (cwV 1 F.2.2.2.2.1 (good_up gT_X7_isWord) rfl rfl rfl hdX7_isWord ⟨Nat.le_of_ble_eq_true rfl, Nat.le_of_ble_eq_true rfl⟩) hm (by decide) rfl rfl rfl (Nat.le_of_ble_eq_true rfl) dX7_groupTold_159 ⟨Nat.zero_le _, Nat.zero_le _⟩) hS (fun v_100 I_94 R_95 J_96 AI_97 AJ_98 AR_99 H locs zv_100 hp_101 hH hS => ?_)
        dsimp only at hp_101
        obtain ⟨rfl, rfl, rfl, rfl, rfl, rfl, q_102⟩ := hp_101
        refine z_if_eq (tgt := 169) F dX7_groupTold_162 (by decide) zv_100 (fun c_103 => ?_) (fun c_103 => ?_)
        · refine lv_aload_n F.1 F.2.1 dX7_groupTold_169 rfl (lv_at hl 4 rfl) ?_
          refine va_ldcS F.1 F.2.1 F.2.2.2.1 (F.2.2.2.2.2.2.1 21 _ rfl).1 dX7_groupTold_170 ?_
          refine g_calli (g_runV (As := [.ref (gSK g 21)]) (rest := []) (ci := 7) F hl.1 hH hS hz (c_X7_isWord l g gh T 21 _ I_23 R J_24 AI_25 AJ AR mo hv hm hT (rfl : sTab[21]? = some _)) (cwV 1 F.2.2.2.2.1 (good_up gT_X7_isWord) rfl rfl rfl hdX7_isWord ⟨Nat.le_of_ble_eq_true rfl, Nat.le_of_ble_eq_true rfl⟩) hm (by decide) rfl rfl rfl (Nat.le_of_ble_eq_true rfl) dX7_groupTold_172 ⟨Nat.zero_le _, Nat.zero_le _⟩) hS (fun v_110 I_104 R_105 J_106 AI_107 AJ_108 AR_109 H locs zv_110 hp_111 hH hS => ?_)
          dsimp only at hp_111
          obtain ⟨rfl, rfl, rfl, rfl, rfl, rfl, q_112⟩ := hp_111
          refine z_if_eq (tgt := 182) F dX7_groupTold_175 (by decide) zv_110 (fun c_113 => ?_) (fun c_113 => ?_)
          · refine lv_aload_n F.1 F.2.1 dX7_groupTold_182 rfl (lv_at hl 4 rfl) ?_
            refine va_ldcS F.1 F.2.1 F.2.2.2.1 (F.2.2.2.2.2.2.1 22 _ rfl).1 dX7_groupTold_183 ?_
            refine g_calli (g_runV (As := [.ref (gSK g 22)]) (rest := []) (ci := 7) F hl.1 hH hS hz (c_X7_isWord l g gh T 22 _ I_23 R J_24 AI_25 AJ AR mo hv hm hT (rfl : sTab[22]? = some _)) (cwV 1 F.2.2.2.2.1 (good_up gT_X7_isWord) rfl rfl rfl hdX7_isWord ⟨Nat.le_of_ble_eq_true rfl, Nat.le_of_ble_eq_true rfl⟩) hm (by decide) rfl rfl rfl (Nat.le_of_ble_eq_true rfl) dX7_groupTold_185 ⟨Nat.zero_le _, Nat.zero_le _⟩) hS (fun v_120 I_114 R_115 J_116 AI_117 AJ_118 AR_119 H locs zv_120 hp_121 hH hS => ?_)
            dsimp only at hp_121
            obtain ⟨rfl, rfl, rfl, rfl, rfl, rfl, q_122⟩ := hp_121
            refine z_if_eq (tgt := 195) F dX7_groupTold_188 (by decide) zv_120 (fun c_123 => ?_) (fun c_123 => ?_)
            · refine lv_aload_n F.1 F.2.1 dX7_groupTold_195 rfl (lv_at hl 4 rfl) ?_
              refine va_ldcS F.1 F.2.1 F.2.2.2.1 (F.2.2.2.2.2.2.1 23 _ rfl).1 dX7_groupTold_196 ?_
              refine g_calli (g_runV (As := [.ref (gSK g 23)]) (rest := []) (ci := 7) F hl.1 hH hS hz (c_X7_isWord l g gh T 23 _ I_23 R J_24 AI_25 AJ AR mo hv hm hT (rfl : sTab[23]? = some _)) (cwV 1 F.2.2.2.2.1 (good_up gT_X7_isWord) rfl rfl rfl hdX7_isWord ⟨Nat.le_of_ble_eq_true rfl, Nat.le_of_ble_eq_true rfl⟩) hm (by decide) rfl rfl rfl (Nat.le_of_ble_eq_true rfl) dX7_groupTold_198 ⟨Nat.zero_le _, Nat.zero_le _⟩) hS (fun v_130 I_124 R_125 J_126 AI_127 AJ_128 AR_129 H locs zv_130 hp_131 hH hS => ?_)
              dsimp only at hp_131
              obtain ⟨rfl, rfl, rfl, rfl, rfl, rfl, q_132⟩ := hp_131
              refine z_if_eq (tgt := 208) F dX7_groupTold_201 (by decide) zv_130 (fun c_133 => ?_) (fun c_133 => ?_)
              · refine z_iconst F dX7_groupTold_208 ?_
                exact cut_209_27 (-1) H locs ls ⟨by decide, by decide⟩ (by omega) hH hS (lv_sub hl [0, 1, 2, 3, 4] rfl)
              · refine z_iconst F dX7_groupTold_204 ?_
                refine z_goto (tgt := 209) F dX7_groupTold_205 (by decide) ?_
                exact cut_209_27 3 H locs ls ⟨by decide, by decide⟩ (by omega) hH hS (lv_sub hl [0, 1, 2, 3, 4] rfl)
            · refine z_iconst F dX7_groupTold_191 ?_
              refine z_goto (tgt := 209) F dX7_groupTold_192 (by decide) ?_
              exact cut_209_27 2 H locs ls ⟨by decide, by decide⟩ (by omega) hH hS (lv_sub hl [0, 1, 2, 3, 4] rfl)
          · refine z_iconst F dX7_groupTold_178 ?_
            refine z_goto (tgt := 209) F dX7_groupTold_179 (by decide) ?_
            exact cut_209_27 1 H locs ls ⟨by decide, by decide⟩ (by omega) hH hS (lv_sub hl [0, 1, 2, 3, 4] rfl)
        · refine z_iconst F dX7_groupTold_165 ?_
          refine z_goto (tgt := 209) F dX7_groupTold_166 (by decide) ?_
          exact cut_209_27 0 H locs ls ⟨by decide, by decide⟩ (by omega) hH hS (lv_sub hl [0, 1, 2, 3, 4] rfl)
      refine lv_iload F.1 F.2.1 dX7_groupTold_18 (lv_at hl 0 rfl) ?_
      refine z_if_eq (tgt := 156) F dX7_groupTold_20 (by decide) zmr (fun c_134 => ?_) (fun c_134 => ?_)
      · exact cut_156_26 H locs ls hH hS (lv_sub hl [0, 1, 2, 3, 4] rfl)
      · refine lv_aload_n F.1 F.2.1 dX7_groupTold_23 rfl (lv_at hl 4 rfl) ?_
        refine g_getI (ci := 7) (k := 24) F hH rfl (by decide) iX7 hm (by decide) rfl k81 dX7_groupTold_24 ?_
        have b_135 := mJ hv hm
        unfold mNum1 at b_135
        refine z_if_ne (tgt := 156) F dX7_groupTold_27 (by decide) (zr_t _) (fun c_136 => ?_) (fun c_136 => ?_)
        · exact cut_156_26 H locs ls hH hS (lv_sub hl [0, 1, 2, 3, 4] rfl)
        · have cut_43_136 : ∀ (ic : Int) (H : Heap) (locs : List Loc) (ls : Array Slot), zr ic → (ic = 0 ∨ ic = 1) → gH g I_23 R J_24 AI_25 AJ AR H → va_S (gA g) s.heap H locs → lv_has ls 7 [(4, .int (iI mr)), (3, .int (iI had)), (2, .int (iI n)), (1, .int (iI v_8)), (0, .ref mo)] → W p l e rmX7_groupTold s m ([.ref mo] : List Value).toArray below meth c H locs 0 0 (MQ below (gQv g (fun w : gS => R = w.2.1 ∧ AJ = w.2.2.2.2.1 ∧ AR = w.2.2.2.2.2 ∧ (mInv g gh R (w.1) (w.2.2.2.1)) ∧ ((w.2.2.2.1) (gh 50 0) = T) ∧ (qF mo I (w.1)) ∧ (((w.1) mo 20).toInt ≤ 936 ∧ (I mo 24).toInt ≤ ((w.1) mo 24).toInt) ∧ (((w.1) mo 24).toInt = 0 → ((w.1) mo 21).toInt = 4 → ((w.1) mo 23).toInt = 59 → rowOK ((w.2.2.2.1) (gh 53 0)) M) ∧ (((w.1) mo 24).toInt = 0 → tI ((w.2.2.2.1) (gh 53 0)) (40 * M) = 7))) ([.ref mo] : List Value).toArray s 0 0 (gA g)) (F0 m 43 ls [.int (iI ic)]) := by
            intro ic H locs ls zic hic hH hS hl
            refine lv_istore (lv' := [(5, .int (iI ic)), (4, .int (iI mr)), (3, .int (iI had)), (2, .int (iI n)), (1, .int (iI v_8)), (0, .ref mo)]) F.1 F.2.1 dX7_groupTold_43 hl (by decide) rfl (fun ls hl => ?_)
            have cut_79_138 : ∀ (I_138 : gI) (H : Heap) (locs : List Loc) (ls : Array Slot), (mInv g gh R I_138 AI_25) → (qF mo I I_138) → ((I_138 mo 20).toInt ≤ 936 ∧ f0 ≤ (I_138 mo 24).toInt) → gH g I_138 R J_24 AI_25 AJ AR H → va_S (gA g) s.heap H locs → lv_has ls 7 [(5, .int (iI ic)), (4, .int (iI mr)), (3, .int (iI had)), (2, .int (iI n)), (1, .int (iI v_8)), (0, .ref mo)] → W p l e rmX7_groupTold s m ([.ref mo] : List Value).toArray below meth c H locs 0 0 (MQ below (gQv g (fun w : gS => R = w.2.1 ∧ AJ = w.2.2.2.2.1 ∧ AR = w.2.2.2.2.2 ∧ (mInv g gh R (w.1) (w.2.2.2.1)) ∧ ((w.2.2.2.1) (gh 50 0) = T) ∧ (qF mo I (w.1)) ∧ (((w.1) mo 20).toInt ≤ 936 ∧ (I mo 24).toInt ≤ ((w.1) mo 24).toInt) ∧ (((w.1) mo 24).toInt = 0 → ((w.1) mo 21).toInt = 4 → ((w.1) mo 23).toInt = 59 → rowOK ((w.2.2.2.1) (gh 53 0)) M) ∧ (((w.1) mo 24).toInt = 0 → tI ((w.2.2.2.1) (gh 53 0)) (40 * M) = 7))) ([.ref mo] : List Value).toArray s 0 0 (gA g)) (F0 m 79 ls []) := by
              intro I_138 H locs ls hv pf hj45 hH hS hl
              have uc_2 : (I_138 mo 2).toInt = (I mo 2).toInt := by rw [pf 2 (by decide) (by decide) (by decide) (by decide) (by decide)]
              have uc_5 : (I_138 mo 5).toInt = (I mo 5).toInt := by rw [pf 5 (by decide) (by decide) (by decide) (by decide) (by decide)]
              have uc_14 : (I_138 mo 14).toInt = (I mo 14).toInt := by rw [pf 14 (by decide) (by decide) (by decide) (by decide) (by decide)]
              have uc_16 : (I_138 mo 16).toInt = (I mo 16).toInt := by rw [pf 16 (by decide) (by decide) (by decide) (by decide) (by decide)]
              have uc_18 : (I_138 mo 18).toInt = (I mo 18).toInt := by rw [pf 18 (by decide) (by decide) (by decide) (by decide) (by decide)]
              have cut_98_140 : ∀ (I_140 : gI) (H : Heap) (locs : List Loc) (ls : Array Slot), (mInv g gh R I_140 AI_25) → (qF mo I I_140) → ((I_140 mo 20).toInt ≤ 936 ∧ f0 ≤ (I_140 mo 24).toInt ∧ ((I_140 mo 24).toInt = 0 → n ≤ 2)) → gH g I_140 R J_24 AI_25 AJ AR H → va_S (gA g) s.heap H locs → lv_has ls 7 [(5, .int (iI ic)), (4, .int (iI mr)), (3, .int (iI had)), (2, .int (iI n)), (1, .int (iI v_8)), (0, .ref mo)] → W p l e rmX7_groupTold s m ([.ref mo] : List Value).toArray below meth c H locs 0 0 (MQ below (gQv g (fun w : gS => R = w.2.1 ∧ AJ = w.2.2.2.2.1 ∧ AR = w.2.2.2.2.2 ∧ (mInv g gh R (w.1) (w.2.2.2.1)) ∧ ((w.2.2.2.1) (gh 50 0) = T) ∧ (qF mo I (w.1)) ∧ (((w.1) mo 20).toInt ≤ 936 ∧ (I mo 24).toInt ≤ ((w.1) mo 24).toInt) ∧ (((w.1) mo 24).toInt = 0 → ((w.1) mo 21).toInt = 4 → ((w.1) mo 23).toInt = 59 → rowOK ((w.2.2.2.1) (gh 53 0)) M) ∧ (((w.1) mo 24).toInt = 0 → tI ((w.2.2.2.1) (gh 53 0)) (40 * M) = 7))) ([.ref mo] : List Value).toArray s 0 0 (gA g)) (F0 m 98 ls []) := by
                intro I_140 H locs ls hv pf hj79 hH hS hl
                have uc_2 : (I_140 mo 2).toInt = (I mo 2).toInt := by rw [pf 2 (by decide) (by decide) (by decide) (by decide) (by decide)]
                have uc_5 : (I_140 mo 5).toInt = (I mo 5).toInt := by rw [pf 5 (by decide) (by decide) (by decide) (by decide) (by decide)]
                have uc_14 : (I_140 mo 14).toInt = (I mo 14).toInt := by rw [pf 14 (by decide) (by decide) (by decide) (by decide) (by decide)]
                have uc_16 : (I_140 mo 16).toInt = (I mo 16).toInt := by rw [pf 16 (by decide) (by decide) (by decide) (by decide) (by decide)]
                have uc_18 : (I_140 mo 18).toInt = (I mo 18).toInt := by rw [pf 18 (by decide) (by decide) (by decide) (by decide) (by decide)]
                refine lv_aload_n F.1 F.2.1 dX7_groupTold_98 rfl (lv_at hl 5 rfl) ?_
                refine lv_aload_n F.1 F.2.1 dX7_groupTold_99 rfl (lv_at hl 5 rfl) ?_
                refine lv_iload_n F.1 F.2.1 dX7_groupTold_100 rfl (lv_at hl 4 rfl) ?_
                have b_142 := mJ hv hm
                unfold mNum1 at b_142
                refine g_calli (g_runV (As := [.int (iI v_8)]) (rest := [.ref mo]) (ci := 7) F hl.1 hH hS hz (c_X7_columns l g gh T I_140 R J_24 AI_25 AJ AR mo v_8 zv_8 hv hm hT (by omega)) (cwV 1 F.2.2.2.2.1 (good_up gT_X7_columns) rfl rfl rfl hdX7_columns ⟨Nat.le_of_ble_eq_true rfl, Nat.le_of_ble_eq_true rfl⟩) hm (by decide) rfl rfl rfl (Nat.le_of_ble_eq_true rfl) dX7_groupTold_101 ⟨Nat.zero_le _, Nat.zero_le _⟩) hS (fun v_149 I_143 R_144 J_145 AI_146 AJ_147 AR_148 H locs zv_149 hp_150 hH hS => ?_)
                dsimp only at hp_150
                obtain ⟨rfl, rfl, rfl, rfl, rfl, rfl, q_151⟩ := hp_150
                refine g_calli (g_runV (As := [.int (iI v_149)]) (rest := []) (ci := 7) F hl.1 hH hS hz (c_X7_column l g gh T I_140 R J_24 AI_25 AJ AR mo v_149 zv_149 hv hm hT (by omega)) (cwV 1 F.2.2.2.2.1 (good_up gT_X7_column) rfl rfl rfl hdX7_column ⟨Nat.le_of_ble_eq_true rfl, Nat.le_of_ble_eq_true rfl⟩) hm (by decide) rfl rfl rfl (Nat.le_of_ble_eq_true rfl) dX7_groupTold_104 ⟨Nat.zero_le _, Nat.zero_le _⟩) hS (fun v_158 I_152 R_153 J_154 AI_155 AJ_156 AR_157 H locs zv_158 hp_159 hH hS => ?_)
                dsimp only at hp_159
                obtain ⟨rfl, rfl, rfl, rfl, hv, pfq, q_160, q_161⟩ := hp_159
                have pf := qF_t pf pfq
                have u_162_2 : (I_152 mo 2).toInt = (I mo 2).toInt := by rw [pf 2 (by decide) (by decide) (by decide) (by decide) (by decide)]
                have u_162_5 : (I_152 mo 5).toInt = (I mo 5).toInt := by rw [pf 5 (by decide) (by decide) (by decide) (by decide) (by decide)]
                have u_162_14 : (I_152 mo 14).toInt = (I mo 14).toInt := by rw [pf 14 (by decide) (by decide) (by decide) (by decide) (by decide)]
                have u_162_16 : (I_152 mo 16).toInt = (I mo 16).toInt := by rw [pf 16 (by decide) (by decide) (by decide) (by decide) (by decide)]
                have u_162_18 : (I_152 mo 18).toInt = (I mo 18).toInt := by rw [pf 18 (by decide) (by decide) (by decide) (by decide) (by decide)]
                obtain ⟨f1, ef1⟩ : ∃ q, q = (I_152 mo 24).toInt := ⟨_, rfl⟩
                have hc1 : f1 = 0 → 0 ≤ v_158 ∧ v_158 ≤ 3 := by omega
                refine lv_istore (lv' := [(6, .int (iI v_158)), (5, .int (iI ic)), (4, .int (iI mr)), (3, .int (iI had)), (2, .int (iI n)), (1, .int (iI v_8)), (0, .ref mo)]) F.1 F.2.1 dX7_groupTold_107 hl (by decide) rfl (fun ls hl => ?_)
                have cut_123_162 : ∀ (had2 : Int) (H : Heap) (locs : List Loc) (ls : Array Slot), zr had2 → gH g I_152 R J_154 AI_25 AJ AR H → va_S (gA g) s.heap H locs → lv_has ls 7 [(6, .int (iI v_158)), (5, .int (iI ic)), (4, .int (iI mr)), (3, .int (iI had2)), (2, .int (iI n)), (1, .int (iI v_8)), (0, .ref mo)] → W p l e rmX7_groupTold s m ([.ref mo] : List Value).toArray below meth c H locs 0 0 (MQ below (gQv g (fun w : gS => R = w.2.1 ∧ AJ = w.2.2.2.2.1 ∧ AR = w.2.2.2.2.2 ∧ (mInv g gh R (w.1) (w.2.2.2.1)) ∧ ((w.2.2.2.1) (gh 50 0) = T) ∧ (qF mo I (w.1)) ∧ (((w.1) mo 20).toInt ≤ 936 ∧ (I mo 24).toInt ≤ ((w.1) mo 24).toInt) ∧ (((w.1) mo 24).toInt = 0 → ((w.1) mo 21).toInt = 4 → ((w.1) mo 23).toInt = 59 → rowOK ((w.2.2.2.1) (gh 53 0)) M) ∧ (((w.1) mo 24).toInt = 0 → tI ((w.2.2.2.1) (gh 53 0)) (40 * M) = 7))) ([.ref mo] : List Value).toArray s 0 0 (gA g)) (F0 m 123 ls []) := by
                  intro had2 H locs ls zhad2 hH hS hl
                  refine lv_aload_n F.1 F.2.1 dX7_groupTold_123 rfl (lv_at hl 6 rfl) ?_
                  refine lv_iload_n F.1 F.2.1 dX7_groupTold_124 rfl (lv_at hl 4 rfl) ?_
                  refine lv_iload F.1 F.2.1 dX7_groupTold_125 (lv_at hl 0 rfl) ?_
                  refine z_iconst F dX7_groupTold_127 ?_
                  refine z_iconst F dX7_groupTold_128 ?_
                  refine z_iconst F dX7_groupTold_129 ?_
                  have b_164 := mJ hv hm
                  unfold mNum1 at b_164
                  refine g_callv (g_runV (As := [.int (iI n), .int (iI v_158), .int (iI 0), .int (iI 0), .int (iI 0)]) (rest := []) (ci := 7) F hl.1 hH hS hz (c_X7_setsPart l g gh T M I_152 R J_154 AI_25 AJ AR mo n v_158 0 0 0 zn zv_158 ⟨by decide, by decide⟩ ⟨by decide, by decide⟩ ⟨by decide, by decide⟩ hv hm hT (by omega) (by omega) (by omega)) (cwV 5 F.2.2.2.2.1 (good_up gT_X7_setsPart) rfl rfl rfl hdX7_setsPart ⟨Nat.le_of_ble_eq_true rfl, Nat.le_of_ble_eq_true rfl⟩) hm (by decide) rfl rfl rfl (Nat.le_of_ble_eq_true rfl) dX7_groupTold_130 ⟨Nat.zero_le _, Nat.zero_le _⟩) hS (fun I_165 R_166 J_167 AI_168 AJ_169 AR_170 H locs hp_171 hH hS => ?_)
                  dsimp only at hp_171
                  obtain ⟨rfl, rfl, rfl, rfl, rfl, hv, hT, hsp⟩ := hp_171
                  refine z_iinc (lv' := [(2, .int (iI (n + 1))), (6, .int (iI v_158)), (5, .int (iI ic)), (4, .int (iI mr)), (3, .int (iI had2)), (1, .int (iI v_8)), (0, .ref mo)]) F dX7_groupTold_133 hl (k := 4) rfl (by decide) rfl (fun ls hl => ?_)
                  refine lv_aload_n F.1 F.2.1 dX7_groupTold_136 rfl (lv_at hl 6 rfl) ?_
                  refine z_bipush F dX7_groupTold_137 (by decide) ?_
                  refine g_calli (g_runV (As := [.int (iI 44)]) (rest := []) (ci := 7) F hl.1 hH hS hz (c_X7_isSign l g gh T I_152 R J_154 AI_168 AJ AR mo 44 ⟨by decide, by decide⟩ hv hm hT) (cwV 1 F.2.2.2.2.1 (good_up gT_X7_isSign) rfl rfl rfl hdX7_isSign ⟨Nat.le_of_ble_eq_true rfl, Nat.le_of_ble_eq_true rfl⟩) hm (by decide) rfl rfl rfl (Nat.le_of_ble_eq_true rfl) dX7_groupTold_139 ⟨Nat.zero_le _, Nat.zero_le _⟩) hS (fun v_178 I_172 R_173 J_174 AI_175 AJ_176 AR_177 H locs zv_178 hp_179 hH hS => ?_)
                  dsimp only at hp_179
                  obtain ⟨rfl, rfl, rfl, rfl, rfl, rfl, q_180⟩ := hp_179
                  refine lv_istore (lv' := [(4, .int (iI v_178)), (2, .int (iI (n + 1))), (6, .int (iI v_158)), (5, .int (iI ic)), (3, .int (iI had2)), (1, .int (iI v_8)), (0, .ref mo)]) F.1 F.2.1 dX7_groupTold_142 hl (by decide) rfl (fun ls hl => ?_)
                  refine lv_iload F.1 F.2.1 dX7_groupTold_144 (lv_at hl 0 rfl) ?_
                  refine z_if_eq (tgt := 153) F dX7_groupTold_146 (by decide) zv_178 (fun c_181 => ?_) (fun c_181 => ?_)
                  · refine z_goto (tgt := 18) F dX7_groupTold_153 (by decide) ?_
                    exact ih18 (n + 1) had2 v_178 I_152 J_154 AI_168 H locs ls ⟨by omega, by omega⟩ zhad2 zv_178 hv hT pf (by omega) (by first | exact (fun _ => ⟨by omega, fun k a b => absurd b (by omega)⟩) | exact (fun hf => ⟨by omega, grpP_step (by omega) (hp (by omega)).2 (hsp (by omega)) (by omega)⟩)) (by omega) hH hS (lv_sub hl [0, 4, 1, 5, 6] rfl)
                  · refine lv_aload_n F.1 F.2.1 dX7_groupTold_149 rfl (lv_at hl 6 rfl) ?_
                    refine g_callv (g_runV (As := []) (rest := []) (ci := 7) F hl.1 hH hS hz (c_X7_next l g gh T I_152 R J_154 AI_168 AJ AR mo hv hm hT (by omega)) (cwV 0 F.2.2.2.2.1 (good_up gT_X7_next) rfl rfl rfl hdX7_next ⟨Nat.le_of_ble_eq_true rfl, Nat.le_of_ble_eq_true rfl⟩) hm (by decide) rfl rfl rfl (Nat.le_of_ble_eq_true rfl) dX7_groupTold_150 ⟨Nat.zero_le _, Nat.zero_le _⟩) hS (fun I_182 R_183 J_184 AI_185 AJ_186 AR_187 H locs hp_188 hH hS => ?_)
                    dsimp only at hp_188
                    obtain ⟨rfl, rfl, rfl, rfl, hv, pfq, q_189, q_190⟩ := hp_188
                    have pf := qF_t pf pfq
                    have u_191_2 : (I_182 mo 2).toInt = (I mo 2).toInt := by rw [pf 2 (by decide) (by decide) (by decide) (by decide) (by decide)]
                    have u_191_5 : (I_182 mo 5).toInt = (I mo 5).toInt := by rw [pf 5 (by decide) (by decide) (by decide) (by decide) (by decide)]
                    have u_191_14 : (I_182 mo 14).toInt = (I mo 14).toInt := by rw [pf 14 (by decide) (by decide) (by decide) (by decide) (by decide)]
                    have u_191_16 : (I_182 mo 16).toInt = (I mo 16).toInt := by rw [pf 16 (by decide) (by decide) (by decide) (by decide) (by decide)]
                    have u_191_18 : (I_182 mo 18).toInt = (I mo 18).toInt := by rw [pf 18 (by decide) (by decide) (by decide) (by decide) (by decide)]
                    refine z_goto (tgt := 18) F dX7_groupTold_153 (by decide) ?_
                    exact ih18 (n + 1) had2 v_178 I_182 J_184 AI_168 H locs ls ⟨by omega, by omega⟩ zhad2 zv_178 hv hT pf (by omega) (by first | exact (fun _ => ⟨by omega, fun k a b => absurd b (by omega)⟩) | exact (fun hf => ⟨by omega, grpP_step (by omega) (hp (by omega)).2 (hsp (by omega)) (by omega)⟩)) (by omega) hH hS (lv_sub hl [0, 4, 1, 5, 6] rfl)
                refine lv_aload_n F.1 F.2.1 dX7_groupTold_109 rfl (lv_at hl 6 rfl) ?_
                refine g_getI (ci := 7) (k := 24) F hH rfl (by decide) iX7 hm (by decide) rfl k81 dX7_groupTold_110 ?_
                have b_192 := mJ hv hm
                unfold mNum1 at b_192
                refine z_if_ne (tgt := 123) F dX7_groupTold_113 (by decide) (zr_t _) (fun c_193 => ?_) (fun c_193 => ?_)
                · exact cut_123_162 had H locs ls zhad hH hS (lv_sub hl [0, 1, 2, 3, 4, 5, 6] rfl)
                · refine lv_iload_n F.1 F.2.1 dX7_groupTold_116 rfl (lv_at hl 3 rfl) ?_
                  refine z_iconst F dX7_groupTold_117 ?_
                  refine lv_iload F.1 F.2.1 dX7_groupTold_118 (lv_at hl 0 rfl) ?_
                  refine lv_ishl F.1 F.2.1 dX7_groupTold_120 ?_
                  refine z_top (fun v_194 zv_194 ev_194 => ?_)
                  refine lv_ior F.1 F.2.1 dX7_groupTold_121 ?_
                  refine z_top (fun v_195 zv_195 ev_195 => ?_)
                  refine lv_istore_n (lv' := [(3, .int (iI v_195)), (6, .int (iI v_158)), (5, .int (iI ic)), (4, .int (iI mr)), (2, .int (iI n)), (1, .int (iI v_8)), (0, .ref mo)]) F.1 F.2.1 dX7_groupTold_122 rfl hl (by decide) rfl (fun ls hl => ?_)
                  exact cut_123_162 v_195 H locs ls zv_195 hH hS (lv_sub hl [1, 2, 3, 0, 4, 5, 6] rfl)
              refine lv_iload_n F.1 F.2.1 dX7_groupTold_79 rfl (lv_at hl 3 rfl) ?_
              refine z_iconst F dX7_groupTold_80 ?_
              refine z_icmp_ne (tgt := 98) F dX7_groupTold_81 (by decide) zn ⟨by decide, by decide⟩ (fun c_196 => ?_) (fun c_196 => ?_)
              · exact cut_98_140 I_138 H locs ls hv pf (by omega) hH hS (lv_sub hl [0, 1, 2, 3, 4, 5] rfl)
              · refine lv_aload_n F.1 F.2.1 dX7_groupTold_84 rfl (lv_at hl 5 rfl) ?_
                have cut_95_196 : ∀ (kd : Int) (H : Heap) (locs : List Loc) (ls : Array Slot), zr kd → (1 ≤ kd ∧ kd ≤ 8) → gH g I_138 R J_24 AI_25 AJ AR H → va_S (gA g) s.heap H locs → lv_has ls 7 [(5, .int (iI ic)), (4, .int (iI mr)), (3, .int (iI had)), (2, .int (iI n)), (1, .int (iI v_8)), (0, .ref mo)] → W p l e rmX7_groupTold s m ([.ref mo] : List Value).toArray below meth c H locs 0 0 (MQ below (gQv g (fun w : gS => R = w.2.1 ∧ AJ = w.2.2.2.2.1 ∧ AR = w.2.2.2.2.2 ∧ (mInv g gh R (w.1) (w.2.2.2.1)) ∧ ((w.2.2.2.1) (gh 50 0) = T) ∧ (qF mo I (w.1)) ∧ (((w.1) mo 20).toInt ≤ 936 ∧ (I mo 24).toInt ≤ ((w.1) mo 24).toInt) ∧ (((w.1) mo 24).toInt = 0 → ((w.1) mo 21).toInt = 4 → ((w.1) mo 23).toInt = 59 → rowOK ((w.2.2.2.1) (gh 53 0)) M) ∧ (((w.1) mo 24).toInt = 0 → tI ((w.2.2.2.1) (gh 53 0)) (40 * M) = 7))) ([.ref mo] : List Value).toArray s 0 0 (gA g)) (F0 m 95 ls [.int (iI kd), .ref mo]) := by
                  intro kd H locs ls zkd hkd hH hS hl
                  have b_198 := mJ hv hm
                  unfold mNum1 at b_198
                  refine g_callv (g_runV (As := [.int (iI kd)]) (rest := []) (ci := 7) F hl.1 hH hS hz (c_X7_wrong l g gh T I_138 R J_24 AI_25 AJ AR mo kd zkd hv hm hT (by omega)) (cwV 1 F.2.2.2.2.1 (good_up gT_X7_wrong) rfl rfl rfl hdX7_wrong ⟨Nat.le_of_ble_eq_true rfl, Nat.le_of_ble_eq_true rfl⟩) hm (by decide) rfl rfl rfl (Nat.le_of_ble_eq_true rfl) dX7_groupTold_95 ⟨Nat.zero_le _, Nat.zero_le _⟩) hS (fun I_199 R_200 J_201 AI_202 AJ_203 AR_204 H locs hp_205 hH hS => ?_)
                  dsimp only at hp_205
                  obtain ⟨rfl, rfl, rfl, rfl, rfl, hv, pfq, q_206⟩ := hp_205
                  have pf := qF_t pf pfq
                  have u_207_2 : (I_199 mo 2).toInt = (I mo 2).toInt := by rw [pf 2 (by decide) (by decide) (by decide) (by decide) (by decide)]
                  have u_207_5 : (I_199 mo 5).toInt = (I mo 5).toInt := by rw [pf 5 (by decide) (by decide) (by decide) (by decide) (by decide)]
                  have u_207_14 : (I_199 mo 14).toInt = (I mo 14).toInt := by rw [pf 14 (by decide) (by decide) (by decide) (by decide) (by decide)]
                  have u_207_16 : (I_199 mo 16).toInt = (I mo 16).toInt := by rw [pf 16 (by decide) (by decide) (by decide) (by decide) (by decide)]
                  have u_207_18 : (I_199 mo 18).toInt = (I mo 18).toInt := by rw [pf 18 (by decide) (by decide) (by decide) (by decide) (by decide)]
                  exact cut_98_140 I_199 H locs ls hv pf (by omega) hH hS (lv_sub hl [0, 1, 2, 3, 4, 5] rfl)
                refine lv_iload F.1 F.2.1 dX7_groupTold_85 (lv_at hl 0 rfl) ?_
                refine z_if_eq (tgt := 94) F dX7_groupTold_87 (by decide) zic (fun c_208 => ?_) (fun c_208 => ?_)
                · refine z_iconst F dX7_groupTold_94 ?_
                  exact cut_95_196 1 H locs ls ⟨by decide, by decide⟩ (by omega) hH hS (lv_sub hl [0, 1, 2, 3, 4, 5] rfl)
                · refine z_iconst F dX7_groupTold_90 ?_
                  refine z_goto (tgt := 95) F dX7_groupTold_91 (by decide) ?_
                  exact cut_95_196 4 H locs ls ⟨by decide, by decide⟩ (by omega) hH hS (lv_sub hl [0, 1, 2, 3, 4, 5] rfl)
            refine lv_iload F.1 F.2.1 dX7_groupTold_45 (lv_at hl 0 rfl) ?_
            refine z_if_eq (tgt := 79) F dX7_groupTold_47 (by decide) zic (fun c_209 => ?_) (fun c_209 => ?_)
            · exact cut_79_138 I_23 H locs ls hv pf (by omega) hH hS (lv_sub hl [0, 1, 2, 3, 4, 5] rfl)
            · refine lv_aload_n F.1 F.2.1 dX7_groupTold_50 rfl (lv_at hl 5 rfl) ?_
              refine g_getI (ci := 7) (k := 23) F hH rfl (by decide) iX7 hm (by decide) rfl k97 dX7_groupTold_51 ?_
              refine lv_aload_n F.1 F.2.1 dX7_groupTold_54 rfl (lv_at hl 5 rfl) ?_
              refine lv_iload_n F.1 F.2.1 dX7_groupTold_55 rfl (lv_at hl 4 rfl) ?_
              refine g_calli (g_runV (As := [.int (iI v_8)]) (rest := [.int (iI ((I_23 mo 23).toInt))]) (ci := 7) F hl.1 hH hS hz (c_X7_columns l g gh T I_23 R J_24 AI_25 AJ AR mo v_8 zv_8 hv hm hT (by omega)) (cwV 1 F.2.2.2.2.1 (good_up gT_X7_columns) rfl rfl rfl hdX7_columns ⟨Nat.le_of_ble_eq_true rfl, Nat.le_of_ble_eq_true rfl⟩) hm (by decide) rfl rfl rfl (Nat.le_of_ble_eq_true rfl) dX7_groupTold_56 ⟨Nat.zero_le _, Nat.zero_le _⟩) hS (fun v_216 I_210 R_211 J_212 AI_213 AJ_214 AR_215 H locs zv_216 hp_217 hH hS => ?_)
              dsimp only at hp_217
              obtain ⟨rfl, rfl, rfl, rfl, rfl, rfl, q_218⟩ := hp_217
              refine z_icmp_ge (tgt := 74) F dX7_groupTold_59 (by decide) (zr_t _) zv_216 (fun c_219 => ?_) (fun c_219 => ?_)
              · refine lv_aload_n F.1 F.2.1 dX7_groupTold_74 rfl (lv_at hl 5 rfl) ?_
                refine z_iconst F dX7_groupTold_75 ?_
                refine g_callv (g_runV (As := [.int (iI 2)]) (rest := []) (ci := 7) F hl.1 hH hS hz (c_X7_wrong l g gh T I_23 R J_24 AI_25 AJ AR mo 2 ⟨by decide, by decide⟩ hv hm hT (by omega)) (cwV 1 F.2.2.2.2.1 (good_up gT_X7_wrong) rfl rfl rfl hdX7_wrong ⟨Nat.le_of_ble_eq_true rfl, Nat.le_of_ble_eq_true rfl⟩) hm (by decide) rfl rfl rfl (Nat.le_of_ble_eq_true rfl) dX7_groupTold_76 ⟨Nat.zero_le _, Nat.zero_le _⟩) hS (fun I_220 R_221 J_222 AI_223 AJ_224 AR_225 H locs hp_226 hH hS => ?_)
                dsimp only at hp_226
                obtain ⟨rfl, rfl, rfl, rfl, rfl, hv, pfq, q_227⟩ := hp_226
                have pf := qF_t pf pfq
                have u_228_2 : (I_220 mo 2).toInt = (I mo 2).toInt := by rw [pf 2 (by decide) (by decide) (by decide) (by decide) (by decide)]
                have u_228_5 : (I_220 mo 5).toInt = (I mo 5).toInt := by rw [pf 5 (by decide) (by decide) (by decide) (by decide) (by decide)]
                have u_228_14 : (I_220 mo 14).toInt = (I mo 14).toInt := by rw [pf 14 (by decide) (by decide) (by decide) (by decide) (by decide)]
                have u_228_16 : (I_220 mo 16).toInt = (I mo 16).toInt := by rw [pf 16 (by decide) (by decide) (by decide) (by decide) (by decide)]
                have u_228_18 : (I_220 mo 18).toInt = (I mo 18).toInt := by rw [pf 18 (by decide) (by decide) (by decide) (by decide) (by decide)]
                exact cut_79_138 I_220 H locs ls hv pf (by omega) hH hS (lv_sub hl [0, 1, 2, 3, 4, 5] rfl)
              · refine lv_iload_n F.1 F.2.1 dX7_groupTold_62 rfl (lv_at hl 2 rfl) ?_
                refine lv_aload_n F.1 F.2.1 dX7_groupTold_63 rfl (lv_at hl 5 rfl) ?_
                refine g_getI (ci := 7) (k := 23) F hH rfl (by decide) iX7 hm (by decide) rfl k97 dX7_groupTold_64 ?_
                refine lv_ishr F.1 F.2.1 dX7_groupTold_67 ?_
                refine z_top (fun v_229 zv_229 ev_229 => ?_)
                refine z_iconst F dX7_groupTold_68 ?_
                refine lv_iand F.1 F.2.1 dX7_groupTold_69 ?_
                refine z_top (fun v_230 zv_230 ev_230 => ?_)
                refine z_iconst F dX7_groupTold_70 ?_
                refine z_icmp_ne (tgt := 79) F dX7_groupTold_71 (by decide) zv_230 ⟨by decide, by decide⟩ (fun c_231 => ?_) (fun c_231 => ?_)
                · exact cut_79_138 I_23 H locs ls hv pf (by omega) hH hS (lv_sub hl [0, 1, 2, 3, 4, 5] rfl)
                · refine lv_aload_n F.1 F.2.1 dX7_groupTold_74 rfl (lv_at hl 5 rfl) ?_
                  refine z_iconst F dX7_groupTold_75 ?_
                  refine g_callv (g_runV (As := [.int (iI 2)]) (rest := []) (ci := 7) F hl.1 hH hS hz (c_X7_wrong l g gh T I_23 R J_24 AI_25 AJ AR mo 2 ⟨by decide, by decide⟩ hv hm hT (by omega)) (cwV 1 F.2.2.2.2.1 (good_up gT_X7_wrong) rfl rfl rfl hdX7_wrong ⟨Nat.le_of_ble_eq_true rfl, Nat.le_of_ble_eq_true rfl⟩) hm (by decide) rfl rfl rfl (Nat.le_of_ble_eq_true rfl) dX7_groupTold_76 ⟨Nat.zero_le _, Nat.zero_le _⟩) hS (fun I_232 R_233 J_234 AI_235 AJ_236 AR_237 H locs hp_238 hH hS => ?_)
                  dsimp only at hp_238
                  obtain ⟨rfl, rfl, rfl, rfl, rfl, hv, pfq, q_239⟩ := hp_238
                  have pf := qF_t pf pfq
                  have u_240_2 : (I_232 mo 2).toInt = (I mo 2).toInt := by rw [pf 2 (by decide) (by decide) (by decide) (by decide) (by decide)]
                  have u_240_5 : (I_232 mo 5).toInt = (I mo 5).toInt := by rw [pf 5 (by decide) (by decide) (by decide) (by decide) (by decide)]
                  have u_240_14 : (I_232 mo 14).toInt = (I mo 14).toInt := by rw [pf 14 (by decide) (by decide) (by decide) (by decide) (by decide)]
                  have u_240_16 : (I_232 mo 16).toInt = (I mo 16).toInt := by rw [pf 16 (by decide) (by decide) (by decide) (by decide) (by decide)]
                  have u_240_18 : (I_232 mo 18).toInt = (I mo 18).toInt := by rw [pf 18 (by decide) (by decide) (by decide) (by decide) (by decide)]
                  exact cut_79_138 I_232 H locs ls hv pf (by omega) hH hS (lv_sub hl [0, 1, 2, 3, 4, 5] rfl)
          refine lv_aload_n F.1 F.2.1 dX7_groupTold_30 rfl (lv_at hl 4 rfl) ?_
          refine g_getI (ci := 7) (k := 21) F hH rfl (by decide) iX7 hm (by decide) rfl k94 dX7_groupTold_31 ?_
          refine z_iconst F dX7_groupTold_34 ?_
          refine z_icmp_ne (tgt := 42) F dX7_groupTold_35 (by decide) (zr_t _) ⟨by decide, by decide⟩ (fun c_241 => ?_) (fun c_241 => ?_)
          · refine z_iconst F dX7_groupTold_42 ?_
            exact cut_43_136 0 H locs ls ⟨by decide, by decide⟩ (by omega) hH hS (lv_sub hl [0, 1, 2, 3, 4] rfl)
          · refine z_iconst F dX7_groupTold_38 ?_
            refine z_goto (tgt := 43) F dX7_groupTold_39 (by decide) ?_
            exact cut_43_136 1 H locs ls ⟨by decide, by decide⟩ (by omega) hH hS (lv_sub hl [0, 1, 2, 3, 4] rfl)
  exact cut_18_25 (((5 - 0) + 1 : Int).toNat) 0 0 1 I_14 J_16 AI H locs ls ⟨by decide, by decide⟩ ⟨by decide, by decide⟩ ⟨by decide, by decide⟩ hv hT pf (by omega) (by first | exact (fun _ => ⟨by omega, fun k a b => absurd b (by omega)⟩) | exact (fun hf => ⟨by omega, grpP_step (by omega) (hp (by omega)).2 (hsp (by omega)) (by omega)⟩)) (by omega) hH hS (lv_sub hl [0, 1, 2, 3, 4] rfl)

def rmX7_ringTold : Room := { frames := 8, cells := 0, slots := 0, locals := 170 }
theorem hdX7_ringTold : yX7_ringTold.cls = RX7 ∧ yX7_ringTold.cls ≠ "java/lang/invoke/MethodHandle" ∧ yX7_ringTold.cls ≠ "java/lang/invoke/VarHandle" ∧ (parseMethodDescriptor yX7_ringTold.desc).map (fun d => d.parameters.length) = some 0 := by decide +kernel
set_option maxHeartbeats 4000000 in
set_option maxRecDepth 100000 in
/-- a ring told -/
theorem c_X7_ringTold (l : Launch) (g : gG) (gh : gGh) (T : Nat → Int32) (M : Int) (I : gI) (R : gR) (J : gJ) (AI : gI) (AJ : gJ) (AR : gR) (mo : Nat) (hv : mInv g gh R I AI) (hm : gO g mo 7) (hT : AI (gh 50 0) = T) (hE : (I mo 20).toInt ≤ 936) (hM : (I mo 24).toInt = 0 → (I mo 5).toInt ≤ 15) (hMM : (I mo 5).toInt = M) : gMet l g yX7_ringTold tsX7_ringTold rmX7_ringTold [.ref mo] (I, R, J, AI, AJ, AR) (gQv g (fun w : gS => R = w.2.1 ∧ AJ = w.2.2.2.2.1 ∧ AR = w.2.2.2.2.2 ∧ (mInv g gh R (w.1) (w.2.2.2.1)) ∧ ((w.2.2.2.1) (gh 50 0) = T) ∧ (qF mo I (w.1)) ∧ (((w.1) mo 20).toInt ≤ 936 ∧ (I mo 24).toInt ≤ ((w.1) mo 24).toInt) ∧ (((w.1) mo 24).toInt = 0 → ((w.1) mo 21).toInt = 4 → ((w.1) mo 23).toInt = 59 → rowOK ((w.2.2.2.1) (gh 53 0)) M) ∧ (((w.1) mo 24).toInt = 0 → tI ((w.2.2.2.1) (gh 53 0)) (40 * M) = 8))) := by
  refine gStart (cc := cX7_ringTold) (maxL := 7) (ret := none) (by decide) rfl (Nat.le_of_ble_eq_true rfl) ?_
  intro p e s m below meth c ls F hr hlk hH hz hS hl
  have hl : lv_has ls 7 [(0, .ref mo)] := hl
  have hS : va_S (gA g) s.heap s.heap [] := hS
  obtain ⟨H, hHe⟩ : ∃ H : Heap, H = s.heap := ⟨_, rfl⟩
  obtain ⟨locs, hlo⟩ : ∃ k : List Loc, k = [] := ⟨_, rfl⟩
  have hH : gH g I R J AI AJ AR H := by rw [hHe]; exact hH
  have hS : va_S (gA g) s.heap H locs := by rw [hHe, hlo]; exact hS
  suffices hw : W p l e rmX7_ringTold s m ([.ref mo] : List Value).toArray below meth c H locs 0 0 (MQ below (gQv g (fun w : gS => R = w.2.1 ∧ AJ = w.2.2.2.2.1 ∧ AR = w.2.2.2.2.2 ∧ (mInv g gh R (w.1) (w.2.2.2.1)) ∧ ((w.2.2.2.1) (gh 50 0) = T) ∧ (qF mo I (w.1)) ∧ (((w.1) mo 20).toInt ≤ 936 ∧ (I mo 24).toInt ≤ ((w.1) mo 24).toInt) ∧ (((w.1) mo 24).toInt = 0 → ((w.1) mo 21).toInt = 4 → ((w.1) mo 23).toInt = 59 → rowOK ((w.2.2.2.1) (gh 53 0)) M) ∧ (((w.1) mo 24).toInt = 0 → tI ((w.2.2.2.1) (gh 53 0)) (40 * M) = 8))) ([.ref mo] : List Value).toArray s 0 0 (gA g)) (F0 m 0 ls []) by
    rw [hHe, hlo] at hw; exact hw
  clear hHe hlo
  have pf : qF mo I I := qF_r
  have hb0 := mJ hv hm
  unfold mNum1 at hb0
  refine lv_aload_n F.1 F.2.1 dX7_ringTold_0 rfl (lv_at hl 0 rfl) ?_
  have b_1 := mJ hv hm
  unfold mNum1 at b_1
  refine g_calli (g_runV (As := []) (rest := []) (ci := 7) F hl.1 hH hS hz (c_X7_relation l g gh T I R J AI AJ AR mo hv hm hT (by omega)) (cwV 0 F.2.2.2.2.1 (good_up gT_X7_relation) rfl rfl rfl hdX7_relation ⟨Nat.le_of_ble_eq_true rfl, Nat.le_of_ble_eq_true rfl⟩) hm (by decide) rfl rfl rfl (Nat.le_of_ble_eq_true rfl) dX7_ringTold_1 ⟨Nat.zero_le _, Nat.zero_le _⟩) hS (fun v_8 I_2 R_3 J_4 AI_5 AJ_6 AR_7 H locs zv_8 hp_9 hH hS => ?_)
  dsimp only at hp_9
  obtain ⟨rfl, rfl, rfl, rfl, hv, pfq, q_10, q_11⟩ := hp_9
  have pf := qF_t pf pfq
  have u_12_2 : (I_2 mo 2).toInt = (I mo 2).toInt := by rw [pf 2 (by decide) (by decide) (by decide) (by decide) (by decide)]
  have u_12_5 : (I_2 mo 5).toInt = (I mo 5).toInt := by rw [pf 5 (by decide) (by decide) (by decide) (by decide) (by decide)]
  have u_12_14 : (I_2 mo 14).toInt = (I mo 14).toInt := by rw [pf 14 (by decide) (by decide) (by decide) (by decide) (by decide)]
  have u_12_16 : (I_2 mo 16).toInt = (I mo 16).toInt := by rw [pf 16 (by decide) (by decide) (by decide) (by decide) (by decide)]
  have u_12_18 : (I_2 mo 18).toInt = (I mo 18).toInt := by rw [pf 18 (by decide) (by decide) (by decide) (by decide) (by decide)]
  obtain ⟨fa0, efa0⟩ : ∃ q, q = (I_2 mo 24).toInt := ⟨_, rfl⟩
  have hra : fa0 = 0 → v_8 < M := by omega
  refine lv_istore_n (lv' := [(1, .int (iI v_8)), (0, .ref mo)]) F.1 F.2.1 dX7_ringTold_4 rfl hl (by decide) rfl (fun ls hl => ?_)
  refine lv_aload_n F.1 F.2.1 dX7_ringTold_5 rfl (lv_at hl 1 rfl) ?_
  refine va_ldcS F.1 F.2.1 F.2.2.2.1 (F.2.2.2.2.2.2.1 25 _ rfl).1 dX7_ringTold_6 ?_
  have b_13 := mJ hv hm
  unfold mNum1 at b_13
  refine g_callv (g_runV (As := [.ref (gSK g 25)]) (rest := []) (ci := 7) F hl.1 hH hS hz (c_X7_mustWord l g gh T 25 _ I_2 R J_4 AI AJ AR mo hv hm hT (by omega) (rfl : sTab[25]? = some _)) (cwV 1 F.2.2.2.2.1 (good_up gT_X7_mustWord) rfl rfl rfl hdX7_mustWord ⟨Nat.le_of_ble_eq_true rfl, Nat.le_of_ble_eq_true rfl⟩) hm (by decide) rfl rfl rfl (Nat.le_of_ble_eq_true rfl) dX7_ringTold_8 ⟨Nat.zero_le _, Nat.zero_le _⟩) hS (fun I_14 R_15 J_16 AI_17 AJ_18 AR_19 H locs hp_20 hH hS => ?_)
  dsimp only at hp_20
  obtain ⟨rfl, rfl, rfl, rfl, hv, pfq, q_21⟩ := hp_20
  have pf := qF_t pf pfq
  have u_22_2 : (I_14 mo 2).toInt = (I mo 2).toInt := by rw [pf 2 (by decide) (by decide) (by decide) (by decide) (by decide)]
  have u_22_5 : (I_14 mo 5).toInt = (I mo 5).toInt := by rw [pf 5 (by decide) (by decide) (by decide) (by decide) (by decide)]
  have u_22_14 : (I_14 mo 14).toInt = (I mo 14).toInt := by rw [pf 14 (by decide) (by decide) (by decide) (by decide) (by decide)]
  have u_22_16 : (I_14 mo 16).toInt = (I mo 16).toInt := by rw [pf 16 (by decide) (by decide) (by decide) (by decide) (by decide)]
  have u_22_18 : (I_14 mo 18).toInt = (I mo 18).toInt := by rw [pf 18 (by decide) (by decide) (by decide) (by decide) (by decide)]
  refine lv_aload_n F.1 F.2.1 dX7_ringTold_11 rfl (lv_at hl 1 rfl) ?_
  have b_23 := mJ hv hm
  unfold mNum1 at b_23
  refine g_calli (g_runV (As := []) (rest := []) (ci := 7) F hl.1 hH hS hz (c_X7_relation l g gh T I_14 R J_16 AI AJ AR mo hv hm hT (by omega)) (cwV 0 F.2.2.2.2.1 (good_up gT_X7_relation) rfl rfl rfl hdX7_relation ⟨Nat.le_of_ble_eq_true rfl, Nat.le_of_ble_eq_true rfl⟩) hm (by decide) rfl rfl rfl (Nat.le_of_ble_eq_true rfl) dX7_ringTold_12 ⟨Nat.zero_le _, Nat.zero_le _⟩) hS (fun v_30 I_24 R_25 J_26 AI_27 AJ_28 AR_29 H locs zv_30 hp_31 hH hS => ?_)
  dsimp only at hp_31
  obtain ⟨rfl, rfl, rfl, rfl, hv, pfq, q_32, q_33⟩ := hp_31
  have pf := qF_t pf pfq
  have u_34_2 : (I_24 mo 2).toInt = (I mo 2).toInt := by rw [pf 2 (by decide) (by decide) (by decide) (by decide) (by decide)]
  have u_34_5 : (I_24 mo 5).toInt = (I mo 5).toInt := by rw [pf 5 (by decide) (by decide) (by decide) (by decide) (by decide)]
  have u_34_14 : (I_24 mo 14).toInt = (I mo 14).toInt := by rw [pf 14 (by decide) (by decide) (by decide) (by decide) (by decide)]
  have u_34_16 : (I_24 mo 16).toInt = (I mo 16).toInt := by rw [pf 16 (by decide) (by decide) (by decide) (by decide) (by decide)]
  have u_34_18 : (I_24 mo 18).toInt = (I mo 18).toInt := by rw [pf 18 (by decide) (by decide) (by decide) (by decide) (by decide)]
  obtain ⟨f0, ef0⟩ : ∃ q, q = (I_24 mo 24).toInt := ⟨_, rfl⟩
  have hr2 : f0 = 0 → v_30 < M ∧ fa0 = 0 := by omega
  refine lv_istore_n (lv' := [(2, .int (iI v_30)), (1, .int (iI v_8)), (0, .ref mo)]) F.1 F.2.1 dX7_ringTold_15 rfl hl (by decide) rfl (fun ls hl => ?_)
  refine lv_aload_n F.1 F.2.1 dX7_ringTold_16 rfl (lv_at hl 2 rfl) ?_
  refine va_ldcS F.1 F.2.1 F.2.2.2.1 (F.2.2.2.2.2.2.1 14 _ rfl).1 dX7_ringTold_17 ?_
  have b_35 := mJ hv hm
  unfold mNum1 at b_35
  refine g_callv (g_runV (As := [.ref (gSK g 14)]) (rest := []) (ci := 7) F hl.1 hH hS hz (c_X7_mustWord l g gh T 14 _ I_24 R J_26 AI AJ AR mo hv hm hT (by omega) (rfl : sTab[14]? = some _)) (cwV 1 F.2.2.2.2.1 (good_up gT_X7_mustWord) rfl rfl rfl hdX7_mustWord ⟨Nat.le_of_ble_eq_true rfl, Nat.le_of_ble_eq_true rfl⟩) hm (by decide) rfl rfl rfl (Nat.le_of_ble_eq_true rfl) dX7_ringTold_19 ⟨Nat.zero_le _, Nat.zero_le _⟩) hS (fun I_36 R_37 J_38 AI_39 AJ_40 AR_41 H locs hp_42 hH hS => ?_)
  dsimp only at hp_42
  obtain ⟨rfl, rfl, rfl, rfl, hv, pfq, q_43⟩ := hp_42
  have pf := qF_t pf pfq
  have u_44_2 : (I_36 mo 2).toInt = (I mo 2).toInt := by rw [pf 2 (by decide) (by decide) (by decide) (by decide) (by decide)]
  have u_44_5 : (I_36 mo 5).toInt = (I mo 5).toInt := by rw [pf 5 (by decide) (by decide) (by decide) (by decide) (by decide)]
  have u_44_14 : (I_36 mo 14).toInt = (I mo 14).toInt := by rw [pf 14 (by decide) (by decide) (by decide) (by decide) (by decide)]
  have u_44_16 : (I_36 mo 16).toInt = (I mo 16).toInt := by rw [pf 16 (by decide) (by decide) (by decide) (by decide) (by decide)]
  have u_44_18 : (I_36 mo 18).toInt = (I mo 18).toInt := by rw [pf 18 (by decide) (by decide) (by decide) (by decide) (by decide)]
  refine lv_aload_n F.1 F.2.1 dX7_ringTold_22 rfl (lv_at hl 2 rfl) ?_
  refine lv_aload_n F.1 F.2.1 dX7_ringTold_23 rfl (lv_at hl 2 rfl) ?_
  refine lv_iload_n F.1 F.2.1 dX7_ringTold_24 rfl (lv_at hl 1 rfl) ?_
  have b_45 := mJ hv hm
  unfold mNum1 at b_45
  refine g_calli (g_runV (As := [.int (iI v_8)]) (rest := [.ref mo]) (ci := 7) F hl.1 hH hS hz (c_X7_columns l g gh T I_36 R J_38 AI AJ AR mo v_8 zv_8 hv hm hT (by omega)) (cwV 1 F.2.2.2.2.1 (good_up gT_X7_columns) rfl rfl rfl hdX7_columns ⟨Nat.le_of_ble_eq_true rfl, Nat.le_of_ble_eq_true rfl⟩) hm (by decide) rfl rfl rfl (Nat.le_of_ble_eq_true rfl) dX7_ringTold_25 ⟨Nat.zero_le _, Nat.zero_le _⟩) hS (fun v_52 I_46 R_47 J_48 AI_49 AJ_50 AR_51 H locs zv_52 hp_53 hH hS => ?_)
  dsimp only at hp_53
  obtain ⟨rfl, rfl, rfl, rfl, rfl, rfl, q_54⟩ := hp_53
  refine g_calli (g_runV (As := [.int (iI v_52)]) (rest := []) (ci := 7) F hl.1 hH hS hz (c_X7_column l g gh T I_36 R J_38 AI AJ AR mo v_52 zv_52 hv hm hT (by omega)) (cwV 1 F.2.2.2.2.1 (good_up gT_X7_column) rfl rfl rfl hdX7_column ⟨Nat.le_of_ble_eq_true rfl, Nat.le_of_ble_eq_true rfl⟩) hm (by decide) rfl rfl rfl (Nat.le_of_ble_eq_true rfl) dX7_ringTold_28 ⟨Nat.zero_le _, Nat.zero_le _⟩) hS (fun v_61 I_55 R_56 J_57 AI_58 AJ_59 AR_60 H locs zv_61 hp_62 hH hS => ?_)
  dsimp only at hp_62
  obtain ⟨rfl, rfl, rfl, rfl, hv, pfq, q_63, q_64⟩ := hp_62
  have pf := qF_t pf pfq
  have u_65_2 : (I_55 mo 2).toInt = (I mo 2).toInt := by rw [pf 2 (by decide) (by decide) (by decide) (by decide) (by decide)]
  have u_65_5 : (I_55 mo 5).toInt = (I mo 5).toInt := by rw [pf 5 (by decide) (by decide) (by decide) (by decide) (by decide)]
  have u_65_14 : (I_55 mo 14).toInt = (I mo 14).toInt := by rw [pf 14 (by decide) (by decide) (by decide) (by decide) (by decide)]
  have u_65_16 : (I_55 mo 16).toInt = (I mo 16).toInt := by rw [pf 16 (by decide) (by decide) (by decide) (by decide) (by decide)]
  have u_65_18 : (I_55 mo 18).toInt = (I mo 18).toInt := by rw [pf 18 (by decide) (by decide) (by decide) (by decide) (by decide)]
  obtain ⟨f1, ef1⟩ : ∃ q, q = (I_55 mo 24).toInt := ⟨_, rfl⟩
  have hc1 : f1 = 0 → 0 ≤ v_61 ∧ v_61 ≤ 3 := by omega
  refine lv_istore_n (lv' := [(3, .int (iI v_61)), (2, .int (iI v_30)), (1, .int (iI v_8)), (0, .ref mo)]) F.1 F.2.1 dX7_ringTold_31 rfl hl (by decide) rfl (fun ls hl => ?_)
  refine lv_aload_n F.1 F.2.1 dX7_ringTold_32 rfl (lv_at hl 3 rfl) ?_
  refine z_bipush F dX7_ringTold_33 (by decide) ?_
  have b_66 := mJ hv hm
  unfold mNum1 at b_66
  refine g_callv (g_runV (As := [.int (iI 61)]) (rest := []) (ci := 7) F hl.1 hH hS hz (c_X7_mustSign l g gh T I_55 R J_57 AI AJ AR mo 61 ⟨by decide, by decide⟩ hv hm hT (by omega)) (cwV 1 F.2.2.2.2.1 (good_up gT_X7_mustSign) rfl rfl rfl hdX7_mustSign ⟨Nat.le_of_ble_eq_true rfl, Nat.le_of_ble_eq_true rfl⟩) hm (by decide) rfl rfl rfl (Nat.le_of_ble_eq_true rfl) dX7_ringTold_35 ⟨Nat.zero_le _, Nat.zero_le _⟩) hS (fun I_67 R_68 J_69 AI_70 AJ_71 AR_72 H locs hp_73 hH hS => ?_)
  dsimp only at hp_73
  obtain ⟨rfl, rfl, rfl, rfl, hv, pfq, q_74, q_75⟩ := hp_73
  have pf := qF_t pf pfq
  have u_76_2 : (I_67 mo 2).toInt = (I mo 2).toInt := by rw [pf 2 (by decide) (by decide) (by decide) (by decide) (by decide)]
  have u_76_5 : (I_67 mo 5).toInt = (I mo 5).toInt := by rw [pf 5 (by decide) (by decide) (by decide) (by decide) (by decide)]
  have u_76_14 : (I_67 mo 14).toInt = (I mo 14).toInt := by rw [pf 14 (by decide) (by decide) (by decide) (by decide) (by decide)]
  have u_76_16 : (I_67 mo 16).toInt = (I mo 16).toInt := by rw [pf 16 (by decide) (by decide) (by decide) (by decide) (by decide)]
  have u_76_18 : (I_67 mo 18).toInt = (I mo 18).toInt := by rw [pf 18 (by decide) (by decide) (by decide) (by decide) (by decide)]
  refine lv_aload_n F.1 F.2.1 dX7_ringTold_38 rfl (lv_at hl 3 rfl) ?_
  refine lv_aload_n F.1 F.2.1 dX7_ringTold_39 rfl (lv_at hl 3 rfl) ?_
  refine lv_iload_n F.1 F.2.1 dX7_ringTold_40 rfl (lv_at hl 1 rfl) ?_
  have b_77 := mJ hv hm
  unfold mNum1 at b_77
  refine g_calli (g_runV (As := [.int (iI v_30)]) (rest := [.ref mo]) (ci := 7) F hl.1 hH hS hz (c_X7_columns l g gh T I_67 R J_69 AI AJ AR mo v_30 zv_30 hv hm hT (by omega)) (cwV 1 F.2.2.2.2.1 (good_up gT_X7_columns) rfl rfl rfl hdX7_columns ⟨Nat.le_of_ble_eq_true rfl, Nat.le_of_ble_eq_true rfl⟩) hm (by decide) rfl rfl rfl (Nat.le_of_ble_eq_true rfl) dX7_ringTold_41 ⟨Nat.zero_le _, Nat.zero_le _⟩) hS (fun v_84 I_78 R_79 J_80 AI_81 AJ_82 AR_83 H locs zv_84 hp_85 hH hS => ?_)
  dsimp only at hp_85
  obtain ⟨rfl, rfl, rfl, rfl, rfl, rfl, q_86⟩ := hp_85
  refine g_calli (g_runV (As := [.int (iI v_84)]) (rest := []) (ci := 7) F hl.1 hH hS hz (c_X7_column l g gh T I_67 R J_69 AI AJ AR mo v_84 zv_84 hv hm hT (by omega)) (cwV 1 F.2.2.2.2.1 (good_up gT_X7_column) rfl rfl rfl hdX7_column ⟨Nat.le_of_ble_eq_true rfl, Nat.le_of_ble_eq_true rfl⟩) hm (by decide) rfl rfl rfl (Nat.le_of_ble_eq_true rfl) dX7_ringTold_44 ⟨Nat.zero_le _, Nat.zero_le _⟩) hS (fun v_93 I_87 R_88 J_89 AI_90 AJ_91 AR_92 H locs zv_93 hp_94 hH hS => ?_)
  dsimp only at hp_94
  obtain ⟨rfl, rfl, rfl, rfl, hv, pfq, q_95, q_96⟩ := hp_94
  have pf := qF_t pf pfq
  have u_97_2 : (I_87 mo 2).toInt = (I mo 2).toInt := by rw [pf 2 (by decide) (by decide) (by decide) (by decide) (by decide)]
  have u_97_5 : (I_87 mo 5).toInt = (I mo 5).toInt := by rw [pf 5 (by decide) (by decide) (by decide) (by decide) (by decide)]
  have u_97_14 : (I_87 mo 14).toInt = (I mo 14).toInt := by rw [pf 14 (by decide) (by decide) (by decide) (by decide) (by decide)]
  have u_97_16 : (I_87 mo 16).toInt = (I mo 16).toInt := by rw [pf 16 (by decide) (by decide) (by decide) (by decide) (by decide)]
  have u_97_18 : (I_87 mo 18).toInt = (I mo 18).toInt := by rw [pf 18 (by decide) (by decide) (by decide) (by decide) (by decide)]
  obtain ⟨f2, ef2⟩ : ∃ q, q = (I_87 mo 24).toInt := ⟨_, rfl⟩
  have hd1 : f2 = 0 → 0 ≤ v_93 ∧ v_93 ≤ 3 := by omega
  refine lv_istore (lv' := [(4, .int (iI v_93)), (3, .int (iI v_61)), (2, .int (iI v_30)), (1, .int (iI v_8)), (0, .ref mo)]) F.1 F.2.1 dX7_ringTold_47 hl (by decide) rfl (fun ls hl => ?_)
  refine lv_aload_n F.1 F.2.1 dX7_ringTold_49 rfl (lv_at hl 4 rfl) ?_
  refine va_ldcS F.1 F.2.1 F.2.2.2.1 (F.2.2.2.2.2.2.1 26 _ rfl).1 dX7_ringTold_50 ?_
  have b_98 := mJ hv hm
  unfold mNum1 at b_98
  refine g_callv (g_runV (As := [.ref (gSK g 26)]) (rest := []) (ci := 7) F hl.1 hH hS hz (c_X7_mustWord l g gh T 26 _ I_87 R J_89 AI AJ AR mo hv hm hT (by omega) (rfl : sTab[26]? = some _)) (cwV 1 F.2.2.2.2.1 (good_up gT_X7_mustWord) rfl rfl rfl hdX7_mustWord ⟨Nat.le_of_ble_eq_true rfl, Nat.le_of_ble_eq_true rfl⟩) hm (by decide) rfl rfl rfl (Nat.le_of_ble_eq_true rfl) dX7_ringTold_52 ⟨Nat.zero_le _, Nat.zero_le _⟩) hS (fun I_99 R_100 J_101 AI_102 AJ_103 AR_104 H locs hp_105 hH hS => ?_)
  dsimp only at hp_105
  obtain ⟨rfl, rfl, rfl, rfl, hv, pfq, q_106⟩ := hp_105
  have pf := qF_t pf pfq
  have u_107_2 : (I_99 mo 2).toInt = (I mo 2).toInt := by rw [pf 2 (by decide) (by decide) (by decide) (by decide) (by decide)]
  have u_107_5 : (I_99 mo 5).toInt = (I mo 5).toInt := by rw [pf 5 (by decide) (by decide) (by decide) (by decide) (by decide)]
  have u_107_14 : (I_99 mo 14).toInt = (I mo 14).toInt := by rw [pf 14 (by decide) (by decide) (by decide) (by decide) (by decide)]
  have u_107_16 : (I_99 mo 16).toInt = (I mo 16).toInt := by rw [pf 16 (by decide) (by decide) (by decide) (by decide) (by decide)]
  have u_107_18 : (I_99 mo 18).toInt = (I mo 18).toInt := by rw [pf 18 (by decide) (by decide) (by decide) (by decide) (by decide)]
  refine lv_aload_n F.1 F.2.1 dX7_ringTold_55 rfl (lv_at hl 4 rfl) ?_
  refine z_iconst F dX7_ringTold_56 ?_
  refine lv_iload_n F.1 F.2.1 dX7_ringTold_57 rfl (lv_at hl 1 rfl) ?_
  refine lv_iload F.1 F.2.1 dX7_ringTold_58 (lv_at hl 0 rfl) ?_
  refine z_iconst F dX7_ringTold_60 ?_
  refine z_iconst F dX7_ringTold_61 ?_
  have b_108 := mJ hv hm
  unfold mNum1 at b_108
  refine g_callv (g_runV (As := [.int (iI 0), .int (iI v_61), .int (iI v_93), .int (iI 0), .int (iI 0)]) (rest := []) (ci := 7) F hl.1 hH hS hz (c_X7_setsPart l g gh T M I_99 R J_101 AI AJ AR mo 0 v_61 v_93 0 0 ⟨by decide, by decide⟩ zv_61 zv_93 ⟨by decide, by decide⟩ ⟨by decide, by decide⟩ hv hm hT (by omega) (by omega) (by omega)) (cwV 5 F.2.2.2.2.1 (good_up gT_X7_setsPart) rfl rfl rfl hdX7_setsPart ⟨Nat.le_of_ble_eq_true rfl, Nat.le_of_ble_eq_true rfl⟩) hm (by decide) rfl rfl rfl (Nat.le_of_ble_eq_true rfl) dX7_ringTold_62 ⟨Nat.zero_le _, Nat.zero_le _⟩) hS (fun I_109 R_110 J_111 AI_112 AJ_113 AR_114 H locs hp_115 hH hS => ?_)
  dsimp only at hp_115
  obtain ⟨rfl, rfl, rfl, rfl, rfl, hv, hT, hsp⟩ := hp_115
  refine lv_aload_n F.1 F.2.1 dX7_ringTold_65 rfl (lv_at hl 4 rfl) ?_
  refine lv_iload_n F.1 F.2.1 dX7_ringTold_66 rfl (lv_at hl 3 rfl) ?_
  refine g_calli (g_runV (As := [.int (iI v_8)]) (rest := []) (ci := 7) F hl.1 hH hS hz (c_X7_columns l g gh T I_99 R J_101 AI_112 AJ AR mo v_8 zv_8 hv hm hT (by omega)) (cwV 1 F.2.2.2.2.1 (good_up gT_X7_columns) rfl rfl rfl hdX7_columns ⟨Nat.le_of_ble_eq_true rfl, Nat.le_of_ble_eq_true rfl⟩) hm (by decide) rfl rfl rfl (Nat.le_of_ble_eq_true rfl) dX7_ringTold_67 ⟨Nat.zero_le _, Nat.zero_le _⟩) hS (fun v_122 I_116 R_117 J_118 AI_119 AJ_120 AR_121 H locs zv_122 hp_123 hH hS => ?_)
  dsimp only at hp_123
  obtain ⟨rfl, rfl, rfl, rfl, rfl, rfl, q_124⟩ := hp_123
  refine lv_aload_n F.1 F.2.1 dX7_ringTold_70 rfl (lv_at hl 4 rfl) ?_
  refine lv_iload_n F.1 F.2.1 dX7_ringTold_71 rfl (lv_at hl 2 rfl) ?_
  refine g_calli (g_runV (As := [.int (iI v_30)]) (rest := [.int (iI v_122)]) (ci := 7) F hl.1 hH hS hz (c_X7_columns l g gh T I_99 R J_101 AI_112 AJ AR mo v_30 zv_30 hv hm hT (by omega)) (cwV 1 F.2.2.2.2.1 (good_up gT_X7_columns) rfl rfl rfl hdX7_columns ⟨Nat.le_of_ble_eq_true rfl, Nat.le_of_ble_eq_true rfl⟩) hm (by decide) rfl rfl rfl (Nat.le_of_ble_eq_true rfl) dX7_ringTold_72 ⟨Nat.zero_le _, Nat.zero_le _⟩) hS (fun v_131 I_125 R_126 J_127 AI_128 AJ_129 AR_130 H locs zv_131 hp_132 hH hS => ?_)
  dsimp only at hp_132
  obtain ⟨rfl, rfl, rfl, rfl, rfl, rfl, q_133⟩ := hp_132
  refine z_iadd F dX7_ringTold_75 ?_
  refine z_norm (fun v_134 zv_134 ev_134 => ?_)
  refine lv_istore (lv' := [(5, .int (iI v_134)), (4, .int (iI v_93)), (3, .int (iI v_61)), (2, .int (iI v_30)), (1, .int (iI v_8)), (0, .ref mo)]) F.1 F.2.1 dX7_ringTold_76 hl (by decide) rfl (fun ls hl => ?_)
  refine lv_aload_n F.1 F.2.1 dX7_ringTold_78 rfl (lv_at hl 5 rfl) ?_
  refine lv_iload F.1 F.2.1 dX7_ringTold_79 (lv_at hl 0 rfl) ?_
  refine z_iconst F dX7_ringTold_81 ?_
  refine g_calli (g_runV (As := [.int (iI v_134), .int (iI 1)]) (rest := []) (ci := 7) F hl.1 hH hS hz (c_X7_termsTold l g gh T M I_99 R J_101 AI_112 AJ AR mo v_134 1 zv_134 ⟨by decide, by decide⟩ hv hm hT (by omega) (by omega) (by omega) (by omega)) (cwV 2 F.2.2.2.2.1 (good_up gT_X7_termsTold) rfl rfl rfl hdX7_termsTold ⟨Nat.le_of_ble_eq_true rfl, Nat.le_of_ble_eq_true rfl⟩) hm (by decide) rfl rfl rfl (Nat.le_of_ble_eq_true rfl) dX7_ringTold_82 ⟨Nat.zero_le _, Nat.zero_le _⟩) hS (fun v_141 I_135 R_136 J_137 AI_138 AJ_139 AR_140 H locs zv_141 hp_142 hH hS => ?_)
  dsimp only at hp_142
  obtain ⟨rfl, rfl, rfl, hv, hT, pfq, q_143, q_144, htt⟩ := hp_142
  have pf := qF_t pf pfq
  have u_145_2 : (I_135 mo 2).toInt = (I mo 2).toInt := by rw [pf 2 (by decide) (by decide) (by decide) (by decide) (by decide)]
  have u_145_5 : (I_135 mo 5).toInt = (I mo 5).toInt := by rw [pf 5 (by decide) (by decide) (by decide) (by decide) (by decide)]
  have u_145_14 : (I_135 mo 14).toInt = (I mo 14).toInt := by rw [pf 14 (by decide) (by decide) (by decide) (by decide) (by decide)]
  have u_145_16 : (I_135 mo 16).toInt = (I mo 16).toInt := by rw [pf 16 (by decide) (by decide) (by decide) (by decide) (by decide)]
  have u_145_18 : (I_135 mo 18).toInt = (I mo 18).toInt := by rw [pf 18 (by decide) (by decide) (by decide) (by decide) (by decide)]
  refine lv_istore (lv' := [(6, .int (iI v_141)), (5, .int (iI v_134)), (4, .int (iI v_93)), (3, .int (iI v_61)), (2, .int (iI v_30)), (1, .int (iI v_8)), (0, .ref mo)]) F.1 F.2.1 dX7_ringTold_85 hl (by decide) rfl (fun ls hl => ?_)
  obtain ⟨f9, ef9⟩ : ∃ q, q = (I_135 mo 24).toInt := ⟨_, rfl⟩
  have cut_117_146 : ∀ (I_146 : gI) (H : Heap) (locs : List Loc) (ls : Array Slot), (mInv g gh R I_146 AI_138) → (qF mo I I_146) → ((I_146 mo 20).toInt ≤ 936 ∧ f9 ≤ (I_146 mo 24).toInt ∧ ((I_146 mo 24).toInt = 0 → (I_146 mo 21).toInt = 4 → (I_146 mo 23).toInt = 59 → v_141 = tI (AI_138 (gh 53 0)) (40 * v_8 + 1))) → gH g I_146 R J_137 AI_138 AJ AR H → va_S (gA g) s.heap H locs → lv_has ls 7 [(6, .int (iI v_141)), (5, .int (iI v_134)), (4, .int (iI v_93)), (3, .int (iI v_61)), (2, .int (iI v_30)), (1, .int (iI v_8)), (0, .ref mo)] → W p l e rmX7_ringTold s m ([.ref mo] : List Value).toArray below meth c H locs 0 0 (MQ below (gQv g (fun w : gS => R = w.2.1 ∧ AJ = w.2.2.2.2.1 ∧ AR = w.2.2.2.2.2 ∧ (mInv g gh R (w.1) (w.2.2.2.1)) ∧ ((w.2.2.2.1) (gh 50 0) = T) ∧ (qF mo I (w.1)) ∧ (((w.1) mo 20).toInt ≤ 936 ∧ (I mo 24).toInt ≤ ((w.1) mo 24).toInt) ∧ (((w.1) mo 24).toInt = 0 → ((w.1) mo 21).toInt = 4 → ((w.1) mo 23).toInt = 59 → rowOK ((w.2.2.2.1) (gh 53 0)) M) ∧ (((w.1) mo 24).toInt = 0 → tI ((w.2.2.2.1) (gh 53 0)) (40 * M) = 8))) ([.ref mo] : List Value).toArray s 0 0 (gA g)) (F0 m 117 ls []) := by
    intro I_146 H locs ls hv pf h117 hH hS hl
    have uc_2 : (I_146 mo 2).toInt = (I mo 2).toInt := by rw [pf 2 (by decide) (by decide) (by decide) (by decide) (by decide)]
    have uc_5 : (I_146 mo 5).toInt = (I mo 5).toInt := by rw [pf 5 (by decide) (by decide) (by decide) (by decide) (by decide)]
    have uc_14 : (I_146 mo 14).toInt = (I mo 14).toInt := by rw [pf 14 (by decide) (by decide) (by decide) (by decide) (by decide)]
    have uc_16 : (I_146 mo 16).toInt = (I mo 16).toInt := by rw [pf 16 (by decide) (by decide) (by decide) (by decide) (by decide)]
    have uc_18 : (I_146 mo 18).toInt = (I mo 18).toInt := by rw [pf 18 (by decide) (by decide) (by decide) (by decide) (by decide)]
    refine lv_aload_n F.1 F.2.1 dX7_ringTold_117 rfl (lv_at hl 6 rfl) ?_
    refine z_bipush F dX7_ringTold_118 (by decide) ?_
    refine lv_aload_n F.1 F.2.1 dX7_ringTold_120 rfl (lv_at hl 6 rfl) ?_
    refine lv_iload_n F.1 F.2.1 dX7_ringTold_121 rfl (lv_at hl 5 rfl) ?_
    have b_148 := mJ hv hm
    unfold mNum1 at b_148
    refine g_calli (g_runV (As := [.int (iI v_8)]) (rest := [.int (iI 8), .ref mo]) (ci := 7) F hl.1 hH hS hz (c_X7_columns l g gh T I_146 R J_137 AI_138 AJ AR mo v_8 zv_8 hv hm hT (by omega)) (cwV 1 F.2.2.2.2.1 (good_up gT_X7_columns) rfl rfl rfl hdX7_columns ⟨Nat.le_of_ble_eq_true rfl, Nat.le_of_ble_eq_true rfl⟩) hm (by decide) rfl rfl rfl (Nat.le_of_ble_eq_true rfl) dX7_ringTold_122 ⟨Nat.zero_le _, Nat.zero_le _⟩) hS (fun v_155 I_149 R_150 J_151 AI_152 AJ_153 AR_154 H locs zv_155 hp_156 hH hS => ?_)
    dsimp only at hp_156
    obtain ⟨rfl, rfl, rfl, rfl, rfl, rfl, q_157⟩ := hp_156
    have hcol : (I_146 mo 24).toInt = 0 → 1 ≤ v_155 ∧ v_155 ≤ 4 := fun h => by have q9 := mCol hv hm (z := v_8) (by omega) (by omega); omega
    refine lv_iload_n F.1 F.2.1 dX7_ringTold_125 rfl (lv_at hl 5 rfl) ?_
    refine lv_iload_n F.1 F.2.1 dX7_ringTold_126 rfl (lv_at hl 4 rfl) ?_
    refine lv_iload F.1 F.2.1 dX7_ringTold_127 (lv_at hl 0 rfl) ?_
    refine g_callv (g_runV (As := [.int (iI 8), .int (iI v_155), .int (iI v_8), .int (iI v_30), .int (iI v_141)]) (rest := []) (ci := 7) F hl.1 hH hS hz (c_X7_header l g gh T M I_146 R J_137 AI_138 AJ AR mo 8 v_155 v_8 v_30 v_141 ⟨by decide, by decide⟩ zv_155 zv_8 zv_30 zv_141 hv hm hT (by omega) (by omega)) (cwV 5 F.2.2.2.2.1 (good_up gT_X7_header) rfl rfl rfl hdX7_header ⟨Nat.le_of_ble_eq_true rfl, Nat.le_of_ble_eq_true rfl⟩) hm (by decide) rfl rfl rfl (Nat.le_of_ble_eq_true rfl) dX7_ringTold_129 ⟨Nat.zero_le _, Nat.zero_le _⟩) hS (fun I_158 R_159 J_160 AI_161 AJ_162 AR_163 H locs hp_164 hH hS => ?_)
    dsimp only at hp_164
    obtain ⟨rfl, rfl, rfl, rfl, rfl, hv, hT, hhd⟩ := hp_164
    exact g_vret F hr hlk hH hS hz ⟨rfl, rfl, rfl, hv, hT, pf, by first | omega | rfl | (dsimp only; omega), by (try dsimp only); intro hf ht hn; have q9 := htt (by omega); have qs := hsp (by omega); have qc := hcol (by omega); have e0 := q9.2.2.2 (40 * M + 6 + 4 * 0 + 0) (by omega) (by omega); have e1 := q9.2.2.2 (40 * M + 6 + 4 * 0 + 1) (by omega) (by omega); have e2 := qs.2.1; have e3 := qs.2.2.1; unfold mP at e2 e3; exact row_mk (by omega) (hhd (by omega)) (by omega) (by omega) (by omega) (by omega) (fun h => absurd h (by omega)) (fun h => absurd h (by omega)) (fun h => absurd h (by omega)) (fun h => absurd h (by omega)) (fun h => absurd h (by omega)) (fun h => absurd h (by omega)) (fun _ => ⟨by omega, by omega, by unfold mP; omega, by unfold mP; omega, by unfold mP; omega, by unfold mP; omega, q9.2.2.1, by omega⟩), by (try dsimp only); intro hf; exact (hhd (by omega)).2.1⟩ dX7_ringTold_132
  refine lv_aload_n F.1 F.2.1 dX7_ringTold_87 rfl (lv_at hl 6 rfl) ?_
  refine z_bipush F dX7_ringTold_88 (by decide) ?_
  have b_165 := mJ hv hm
  unfold mNum1 at b_165
  refine g_calli (g_runV (As := [.int (iI 59)]) (rest := []) (ci := 7) F hl.1 hH hS hz (c_X7_isSign l g gh T I_135 R J_137 AI_138 AJ AR mo 59 ⟨by decide, by decide⟩ hv hm hT) (cwV 1 F.2.2.2.2.1 (good_up gT_X7_isSign) rfl rfl rfl hdX7_isSign ⟨Nat.le_of_ble_eq_true rfl, Nat.le_of_ble_eq_true rfl⟩) hm (by decide) rfl rfl rfl (Nat.le_of_ble_eq_true rfl) dX7_ringTold_90 ⟨Nat.zero_le _, Nat.zero_le _⟩) hS (fun v_172 I_166 R_167 J_168 AI_169 AJ_170 AR_171 H locs zv_172 hp_173 hH hS => ?_)
  dsimp only at hp_173
  obtain ⟨rfl, rfl, rfl, rfl, rfl, rfl, q_174⟩ := hp_173
  refine z_if_eq (tgt := 117) F dX7_ringTold_93 (by decide) zv_172 (fun c_175 => ?_) (fun c_175 => ?_)
  · exact cut_117_146 I_135 H locs ls hv pf (by omega) hH hS (lv_sub hl [0, 1, 2, 3, 4, 5, 6] rfl)
  · refine lv_iload F.1 F.2.1 dX7_ringTold_96 (lv_at hl 1 rfl) ?_
    refine z_iconst F dX7_ringTold_98 ?_
    refine z_icmp_gt (tgt := 112) F dX7_ringTold_99 (by decide) zv_134 ⟨by decide, by decide⟩ (fun c_176 => ?_) (fun c_176 => ?_)
    · refine lv_aload_n F.1 F.2.1 dX7_ringTold_112 rfl (lv_at hl 6 rfl) ?_
      refine z_iconst F dX7_ringTold_113 ?_
      refine g_callv (g_runV (As := [.int (iI 5)]) (rest := []) (ci := 7) F hl.1 hH hS hz (c_X7_wrong l g gh T I_135 R J_137 AI_138 AJ AR mo 5 ⟨by decide, by decide⟩ hv hm hT (by omega)) (cwV 1 F.2.2.2.2.1 (good_up gT_X7_wrong) rfl rfl rfl hdX7_wrong ⟨Nat.le_of_ble_eq_true rfl, Nat.le_of_ble_eq_true rfl⟩) hm (by decide) rfl rfl rfl (Nat.le_of_ble_eq_true rfl) dX7_ringTold_114 ⟨Nat.zero_le _, Nat.zero_le _⟩) hS (fun I_177 R_178 J_179 AI_180 AJ_181 AR_182 H locs hp_183 hH hS => ?_)
      dsimp only at hp_183
      obtain ⟨rfl, rfl, rfl, rfl, rfl, hv, pfq, q_184⟩ := hp_183
      have pf := qF_t pf pfq
      have u_185_2 : (I_177 mo 2).toInt = (I mo 2).toInt := by rw [pf 2 (by decide) (by decide) (by decide) (by decide) (by decide)]
      have u_185_5 : (I_177 mo 5).toInt = (I mo 5).toInt := by rw [pf 5 (by decide) (by decide) (by decide) (by decide) (by decide)]
      have u_185_14 : (I_177 mo 14).toInt = (I mo 14).toInt := by rw [pf 14 (by decide) (by decide) (by decide) (by decide) (by decide)]
      have u_185_16 : (I_177 mo 16).toInt = (I mo 16).toInt := by rw [pf 16 (by decide) (by decide) (by decide) (by decide) (by decide)]
      have u_185_18 : (I_177 mo 18).toInt = (I mo 18).toInt := by rw [pf 18 (by decide) (by decide) (by decide) (by decide) (by decide)]
      exact cut_117_146 I_177 H locs ls hv pf (by omega) hH hS (lv_sub hl [0, 1, 2, 3, 4, 5, 6] rfl)
    · refine lv_iload F.1 F.2.1 dX7_ringTold_102 (lv_at hl 0 rfl) ?_
      refine lv_aload_n F.1 F.2.1 dX7_ringTold_104 rfl (lv_at hl 6 rfl) ?_
      refine lv_iload_n F.1 F.2.1 dX7_ringTold_105 rfl (lv_at hl 5 rfl) ?_
      refine g_calli (g_runV (As := [.int (iI v_8)]) (rest := [.int (iI v_141)]) (ci := 7) F hl.1 hH hS hz (c_X7_columns l g gh T I_135 R J_137 AI_138 AJ AR mo v_8 zv_8 hv hm hT (by omega)) (cwV 1 F.2.2.2.2.1 (good_up gT_X7_columns) rfl rfl rfl hdX7_columns ⟨Nat.le_of_ble_eq_true rfl, Nat.le_of_ble_eq_true rfl⟩) hm (by decide) rfl rfl rfl (Nat.le_of_ble_eq_true rfl) dX7_ringTold_106 ⟨Nat.zero_le _, Nat.zero_le _⟩) hS (fun v_192 I_186 R_187 J_188 AI_189 AJ_190 AR_191 H locs zv_192 hp_193 hH hS => ?_)
      dsimp only at hp_193
      obtain ⟨rfl, rfl, rfl, rfl, rfl, rfl, q_194⟩ := hp_193
      refine z_icmp_eq (tgt := 117) F dX7_ringTold_109 (by decide) zv_141 zv_192 (fun c_195 => ?_) (fun c_195 => ?_)
      · exact cut_117_146 I_135 H locs ls hv pf (by omega) hH hS (lv_sub hl [0, 1, 2, 3, 4, 5, 6] rfl)
      · refine lv_aload_n F.1 F.2.1 dX7_ringTold_112 rfl (lv_at hl 6 rfl) ?_
        refine z_iconst F dX7_ringTold_113 ?_
        refine g_callv (g_runV (As := [.int (iI 5)]) (rest := []) (ci := 7) F hl.1 hH hS hz (c_X7_wrong l g gh T I_135 R J_137 AI_138 AJ AR mo 5 ⟨by decide, by decide⟩ hv hm hT (by omega)) (cwV 1 F.2.2.2.2.1 (good_up gT_X7_wrong) rfl rfl rfl hdX7_wrong ⟨Nat.le_of_ble_eq_true rfl, Nat.le_of_ble_eq_true rfl⟩) hm (by decide) rfl rfl rfl (Nat.le_of_ble_eq_true rfl) dX7_ringTold_114 ⟨Nat.zero_le _, Nat.zero_le _⟩) hS (fun I_196 R_197 J_198 AI_199 AJ_200 AR_201 H locs hp_202 hH hS => ?_)
        dsimp only at hp_202
        obtain ⟨rfl, rfl, rfl, rfl, rfl, hv, pfq, q_203⟩ := hp_202
        have pf := qF_t pf pfq
        have u_204_2 : (I_196 mo 2).toInt = (I mo 2).toInt := by rw [pf 2 (by decide) (by decide) (by decide) (by decide) (by decide)]
        have u_204_5 : (I_196 mo 5).toInt = (I mo 5).toInt := by rw [pf 5 (by decide) (by decide) (by decide) (by decide) (by decide)]
        have u_204_14 : (I_196 mo 14).toInt = (I mo 14).toInt := by rw [pf 14 (by decide) (by decide) (by decide) (by decide) (by decide)]
        have u_204_16 : (I_196 mo 16).toInt = (I mo 16).toInt := by rw [pf 16 (by decide) (by decide) (by decide) (by decide) (by decide)]
        have u_204_18 : (I_196 mo 18).toInt = (I mo 18).toInt := by rw [pf 18 (by decide) (by decide) (by decide) (by decide) (by decide)]
        exact cut_117_146 I_196 H locs ls hv pf (by omega) hH hS (lv_sub hl [0, 1, 2, 3, 4, 5, 6] rfl)
