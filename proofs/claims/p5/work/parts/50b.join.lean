def rmX7_joinTold : Room := { frames := 8, cells := 0, slots := 0, locals := 170 }
theorem hdX7_joinTold : yX7_joinTold.cls = RX7 ∧ yX7_joinTold.cls ≠ "java/lang/invoke/MethodHandle" ∧ yX7_joinTold.cls ≠ "java/lang/invoke/VarHandle" ∧ (parseMethodDescriptor yX7_joinTold.desc).map (fun d => d.parameters.length) = some 0 := by decide +kernel
set_option maxHeartbeats 4000000 in
set_option maxRecDepth 100000 in
/-- a join told -/
theorem c_X7_joinTold (l : Launch) (g : gG) (gh : gGh) (T : Nat → Int32) (M : Int) (I : gI) (R : gR) (J : gJ) (AI : gI) (AJ : gJ) (AR : gR) (mo : Nat) (hv : mInv g gh R I AI) (hm : gO g mo 7) (hT : AI (gh 50 0) = T) (hE : (I mo 20).toInt ≤ 936) (hM : (I mo 24).toInt = 0 → (I mo 5).toInt ≤ 15) (hMM : (I mo 5).toInt = M) : gMet l g yX7_joinTold tsX7_joinTold rmX7_joinTold [.ref mo] (I, R, J, AI, AJ, AR) (gQv g (fun w : gS => R = w.2.1 ∧ AJ = w.2.2.2.2.1 ∧ AR = w.2.2.2.2.2 ∧ (mInv g gh R (w.1) (w.2.2.2.1)) ∧ ((w.2.2.2.1) (gh 50 0) = T) ∧ (qF mo I (w.1)) ∧ (((w.1) mo 20).toInt ≤ 936 ∧ (I mo 24).toInt ≤ ((w.1) mo 24).toInt) ∧ (((w.1) mo 24).toInt = 0 → ((w.1) mo 21).toInt = 4 → ((w.1) mo 23).toInt = 59 → rowOK ((w.2.2.2.1) (gh 53 0)) M) ∧ (((w.1) mo 24).toInt = 0 → tI ((w.2.2.2.1) (gh 53 0)) (40 * M) = 3))) := by
  refine gStart (cc := cX7_joinTold) (maxL := 8) (ret := none) (by decide) rfl (Nat.le_of_ble_eq_true rfl) ?_
  intro p e s m below meth c ls F hr hlk hH hz hS hl
  have hl : lv_has ls 8 [(0, .ref mo)] := hl
  have hS : va_S (gA g) s.heap s.heap [] := hS
  obtain ⟨H, hHe⟩ : ∃ H : Heap, H = s.heap := ⟨_, rfl⟩
  obtain ⟨locs, hlo⟩ : ∃ k : List Loc, k = [] := ⟨_, rfl⟩
  have hH : gH g I R J AI AJ AR H := by rw [hHe]; exact hH
  have hS : va_S (gA g) s.heap H locs := by rw [hHe, hlo]; exact hS
  suffices hw : W p l e rmX7_joinTold s m ([.ref mo] : List Value).toArray below meth c H locs 0 0 (MQ below (gQv g (fun w : gS => R = w.2.1 ∧ AJ = w.2.2.2.2.1 ∧ AR = w.2.2.2.2.2 ∧ (mInv g gh R (w.1) (w.2.2.2.1)) ∧ ((w.2.2.2.1) (gh 50 0) = T) ∧ (qF mo I (w.1)) ∧ (((w.1) mo 20).toInt ≤ 936 ∧ (I mo 24).toInt ≤ ((w.1) mo 24).toInt) ∧ (((w.1) mo 24).toInt = 0 → ((w.1) mo 21).toInt = 4 → ((w.1) mo 23).toInt = 59 → rowOK ((w.2.2.2.1) (gh 53 0)) M) ∧ (((w.1) mo 24).toInt = 0 → tI ((w.2.2.2.1) (gh 53 0)) (40 * M) = 3))) ([.ref mo] : List Value).toArray s 0 0 (gA g)) (F0 m 0 ls []) by
    rw [hHe, hlo] at hw; exact hw
  clear hHe hlo
  have pf : qF mo I I := qF_r
  have hb0 := mJ hv hm
  unfold mNum1 at hb0
  have iX7 : ∀ w ∈ u_ws RX7 TX7 32, w ∈ tsX7_joinTold := fun w h => List.mem_cons_of_mem _ (inTB7 w h)
  have k81 : Cond.fieldLink RX7 81 (TX7 24).1 (TX7 24).2.1 (TX7 24).2.2.1 ∈ tsX7_joinTold := List.mem_cons_of_mem _ fl_81
  have k94 : Cond.fieldLink RX7 94 (TX7 21).1 (TX7 21).2.1 (TX7 21).2.2.1 ∈ tsX7_joinTold := List.mem_cons_of_mem _ fl_94
  have k97 : Cond.fieldLink RX7 97 (TX7 23).1 (TX7 23).2.1 (TX7 23).2.2.1 ∈ tsX7_joinTold := List.mem_cons_of_mem _ fl_97
  refine lv_aload_n F.1 F.2.1 dX7_joinTold_0 rfl (lv_at hl 0 rfl) ?_
  have b_1 := mJ hv hm
  unfold mNum1 at b_1
  refine g_calli (g_runV (As := []) (rest := []) (ci := 7) F hl.1 hH hS hz (c_X7_relation l g gh T I R J AI AJ AR mo hv hm hT (by omega)) (cwV 0 F.2.2.2.2.1 (good_up gT_X7_relation) rfl rfl rfl hdX7_relation ⟨Nat.le_of_ble_eq_true rfl, Nat.le_of_ble_eq_true rfl⟩) hm (by decide) rfl rfl rfl (Nat.le_of_ble_eq_true rfl) dX7_joinTold_1 ⟨Nat.zero_le _, Nat.zero_le _⟩) hS (fun v_8 I_2 R_3 J_4 AI_5 AJ_6 AR_7 H locs zv_8 hp_9 hH hS => ?_)
  dsimp only at hp_9
  obtain ⟨rfl, rfl, rfl, rfl, hv, pfq, q_10, q_11⟩ := hp_9
  have pf := qF_t pf pfq
  have u_12_2 : (I_2 mo 2).toInt = (I mo 2).toInt := by rw [pf 2 (by decide) (by decide) (by decide) (by decide) (by decide)]
  have u_12_5 : (I_2 mo 5).toInt = (I mo 5).toInt := by rw [pf 5 (by decide) (by decide) (by decide) (by decide) (by decide)]
  have u_12_14 : (I_2 mo 14).toInt = (I mo 14).toInt := by rw [pf 14 (by decide) (by decide) (by decide) (by decide) (by decide)]
  have u_12_16 : (I_2 mo 16).toInt = (I mo 16).toInt := by rw [pf 16 (by decide) (by decide) (by decide) (by decide) (by decide)]
  have u_12_18 : (I_2 mo 18).toInt = (I mo 18).toInt := by rw [pf 18 (by decide) (by decide) (by decide) (by decide) (by decide)]
  obtain ⟨fa0, efa0⟩ : ∃ q, q = (I_2 mo 24).toInt := ⟨_, rfl⟩
  have hra : fa0 = 0 → v_8 < M := by omega
  refine lv_istore_n (lv' := [(1, .int (iI v_8)), (0, .ref mo)]) F.1 F.2.1 dX7_joinTold_4 rfl hl (by decide) rfl (fun ls hl => ?_)
  refine lv_aload_n F.1 F.2.1 dX7_joinTold_5 rfl (lv_at hl 1 rfl) ?_
  have b_13 := mJ hv hm
  unfold mNum1 at b_13
  refine g_calli (g_runV (As := []) (rest := []) (ci := 7) F hl.1 hH hS hz (c_X7_relation l g gh T I_2 R J_4 AI AJ AR mo hv hm hT (by omega)) (cwV 0 F.2.2.2.2.1 (good_up gT_X7_relation) rfl rfl rfl hdX7_relation ⟨Nat.le_of_ble_eq_true rfl, Nat.le_of_ble_eq_true rfl⟩) hm (by decide) rfl rfl rfl (Nat.le_of_ble_eq_true rfl) dX7_joinTold_6 ⟨Nat.zero_le _, Nat.zero_le _⟩) hS (fun v_20 I_14 R_15 J_16 AI_17 AJ_18 AR_19 H locs zv_20 hp_21 hH hS => ?_)
  dsimp only at hp_21
  obtain ⟨rfl, rfl, rfl, rfl, hv, pfq, q_22, q_23⟩ := hp_21
  have pf := qF_t pf pfq
  have u_24_2 : (I_14 mo 2).toInt = (I mo 2).toInt := by rw [pf 2 (by decide) (by decide) (by decide) (by decide) (by decide)]
  have u_24_5 : (I_14 mo 5).toInt = (I mo 5).toInt := by rw [pf 5 (by decide) (by decide) (by decide) (by decide) (by decide)]
  have u_24_14 : (I_14 mo 14).toInt = (I mo 14).toInt := by rw [pf 14 (by decide) (by decide) (by decide) (by decide) (by decide)]
  have u_24_16 : (I_14 mo 16).toInt = (I mo 16).toInt := by rw [pf 16 (by decide) (by decide) (by decide) (by decide) (by decide)]
  have u_24_18 : (I_14 mo 18).toInt = (I mo 18).toInt := by rw [pf 18 (by decide) (by decide) (by decide) (by decide) (by decide)]
  obtain ⟨f0, ef0⟩ : ∃ q, q = (I_14 mo 24).toInt := ⟨_, rfl⟩
  have hr2 : f0 = 0 → v_20 < M ∧ fa0 = 0 := by omega
  refine lv_istore_n (lv' := [(2, .int (iI v_20)), (1, .int (iI v_8)), (0, .ref mo)]) F.1 F.2.1 dX7_joinTold_9 rfl hl (by decide) rfl (fun ls hl => ?_)
  refine lv_aload_n F.1 F.2.1 dX7_joinTold_10 rfl (lv_at hl 2 rfl) ?_
  refine va_ldcS F.1 F.2.1 F.2.2.2.1 (F.2.2.2.2.2.2.1 14 _ rfl).1 dX7_joinTold_11 ?_
  have b_25 := mJ hv hm
  unfold mNum1 at b_25
  refine g_callv (g_runV (As := [.ref (gSK g 14)]) (rest := []) (ci := 7) F hl.1 hH hS hz (c_X7_mustWord l g gh T 14 _ I_14 R J_16 AI AJ AR mo hv hm hT (by omega) (rfl : sTab[14]? = some _)) (cwV 1 F.2.2.2.2.1 (good_up gT_X7_mustWord) rfl rfl rfl hdX7_mustWord ⟨Nat.le_of_ble_eq_true rfl, Nat.le_of_ble_eq_true rfl⟩) hm (by decide) rfl rfl rfl (Nat.le_of_ble_eq_true rfl) dX7_joinTold_13 ⟨Nat.zero_le _, Nat.zero_le _⟩) hS (fun I_26 R_27 J_28 AI_29 AJ_30 AR_31 H locs hp_32 hH hS => ?_)
  dsimp only at hp_32
  obtain ⟨rfl, rfl, rfl, rfl, hv, pfq, q_33⟩ := hp_32
  have pf := qF_t pf pfq
  have u_34_2 : (I_26 mo 2).toInt = (I mo 2).toInt := by rw [pf 2 (by decide) (by decide) (by decide) (by decide) (by decide)]
  have u_34_5 : (I_26 mo 5).toInt = (I mo 5).toInt := by rw [pf 5 (by decide) (by decide) (by decide) (by decide) (by decide)]
  have u_34_14 : (I_26 mo 14).toInt = (I mo 14).toInt := by rw [pf 14 (by decide) (by decide) (by decide) (by decide) (by decide)]
  have u_34_16 : (I_26 mo 16).toInt = (I mo 16).toInt := by rw [pf 16 (by decide) (by decide) (by decide) (by decide) (by decide)]
  have u_34_18 : (I_26 mo 18).toInt = (I mo 18).toInt := by rw [pf 18 (by decide) (by decide) (by decide) (by decide) (by decide)]
  refine z_iconst F dX7_joinTold_16 ?_
  refine lv_istore_n (lv' := [(3, .int (iI 0)), (2, .int (iI v_20)), (1, .int (iI v_8)), (0, .ref mo)]) F.1 F.2.1 dX7_joinTold_17 rfl hl (by decide) rfl (fun ls hl => ?_)
  refine z_iconst F dX7_joinTold_18 ?_
  refine lv_istore (lv' := [(4, .int (iI 0)), (3, .int (iI 0)), (2, .int (iI v_20)), (1, .int (iI v_8)), (0, .ref mo)]) F.1 F.2.1 dX7_joinTold_19 hl (by decide) rfl (fun ls hl => ?_)
  refine z_iconst F dX7_joinTold_21 ?_
  refine lv_istore (lv' := [(5, .int (iI 1)), (4, .int (iI 0)), (3, .int (iI 0)), (2, .int (iI v_20)), (1, .int (iI v_8)), (0, .ref mo)]) F.1 F.2.1 dX7_joinTold_22 hl (by decide) rfl (fun ls hl => ?_)
  have cut_24_37 : ∀ (NN : Nat) (n gn mr : Int) (I_35 : gI) (J_36 : gJ) (AI_37 : gI) (H : Heap) (locs : List Loc) (ls : Array Slot), zr n → zr gn → zr mr → (mInv g gh R I_35 AI_37) → (AI_37 (gh 50 0) = T) → (qF mo I I_35) → ((I_35 mo 20).toInt ≤ 936 ∧ f0 ≤ (I_35 mo 24).toInt ∧ 0 ≤ n ∧ n ≤ 5 ∧ (mr = 0 ∨ mr = 1)) → ((I_35 mo 24).toInt = 0 → n ≤ 4 ∧ joinP (AI_37 (gh 53 0)) M n) → (6 - n) < ((NN : Nat) : Int) → gH g I_35 R J_36 AI_37 AJ AR H → va_S (gA g) s.heap H locs → lv_has ls 8 [(5, .int (iI mr)), (4, .int (iI gn)), (3, .int (iI n)), (2, .int (iI v_20)), (1, .int (iI v_8)), (0, .ref mo)] → W p l e rmX7_joinTold s m ([.ref mo] : List Value).toArray below meth c H locs 0 0 (MQ below (gQv g (fun w : gS => R = w.2.1 ∧ AJ = w.2.2.2.2.1 ∧ AR = w.2.2.2.2.2 ∧ (mInv g gh R (w.1) (w.2.2.2.1)) ∧ ((w.2.2.2.1) (gh 50 0) = T) ∧ (qF mo I (w.1)) ∧ (((w.1) mo 20).toInt ≤ 936 ∧ (I mo 24).toInt ≤ ((w.1) mo 24).toInt) ∧ (((w.1) mo 24).toInt = 0 → ((w.1) mo 21).toInt = 4 → ((w.1) mo 23).toInt = 59 → rowOK ((w.2.2.2.1) (gh 53 0)) M) ∧ (((w.1) mo 24).toInt = 0 → tI ((w.2.2.2.1) (gh 53 0)) (40 * M) = 3))) ([.ref mo] : List Value).toArray s 0 0 (gA g)) (F0 m 24 ls []) := by
    intro NN24
    induction NN24 with
    | zero =>
      intro n gn mr I_35 J_36 AI_37 H locs ls zn zgn zmr hv hT pf hx hp hm24 hH hS hl
      exact absurd hm24 (by omega)
    | succ NN24 ih24 =>
      intro n gn mr I_35 J_36 AI_37 H locs ls zn zgn zmr hv hT pf hx hp hm24 hH hS hl
      have uc_2 : (I_35 mo 2).toInt = (I mo 2).toInt := by rw [pf 2 (by decide) (by decide) (by decide) (by decide) (by decide)]
      have uc_5 : (I_35 mo 5).toInt = (I mo 5).toInt := by rw [pf 5 (by decide) (by decide) (by decide) (by decide) (by decide)]
      have uc_14 : (I_35 mo 14).toInt = (I mo 14).toInt := by rw [pf 14 (by decide) (by decide) (by decide) (by decide) (by decide)]
      have uc_16 : (I_35 mo 16).toInt = (I mo 16).toInt := by rw [pf 16 (by decide) (by decide) (by decide) (by decide) (by decide)]
      have uc_18 : (I_35 mo 18).toInt = (I mo 18).toInt := by rw [pf 18 (by decide) (by decide) (by decide) (by decide) (by decide)]
      have cut_160_38 : ∀ (H : Heap) (locs : List Loc) (ls : Array Slot), gH g I_35 R J_36 AI_37 AJ AR H → va_S (gA g) s.heap H locs → lv_has ls 8 [(5, .int (iI mr)), (4, .int (iI gn)), (3, .int (iI n)), (2, .int (iI v_20)), (1, .int (iI v_8)), (0, .ref mo)] → W p l e rmX7_joinTold s m ([.ref mo] : List Value).toArray below meth c H locs 0 0 (MQ below (gQv g (fun w : gS => R = w.2.1 ∧ AJ = w.2.2.2.2.1 ∧ AR = w.2.2.2.2.2 ∧ (mInv g gh R (w.1) (w.2.2.2.1)) ∧ ((w.2.2.2.1) (gh 50 0) = T) ∧ (qF mo I (w.1)) ∧ (((w.1) mo 20).toInt ≤ 936 ∧ (I mo 24).toInt ≤ ((w.1) mo 24).toInt) ∧ (((w.1) mo 24).toInt = 0 → ((w.1) mo 21).toInt = 4 → ((w.1) mo 23).toInt = 59 → rowOK ((w.2.2.2.1) (gh 53 0)) M) ∧ (((w.1) mo 24).toInt = 0 → tI ((w.2.2.2.1) (gh 53 0)) (40 * M) = 3))) ([.ref mo] : List Value).toArray s 0 0 (gA g)) (F0 m 160 ls []) := by
        intro H locs ls hH hS hl
        refine lv_aload_n F.1 F.2.1 dX7_joinTold_160 rfl (lv_at hl 5 rfl) ?_
        refine lv_iload_n F.1 F.2.1 dX7_joinTold_161 rfl (lv_at hl 4 rfl) ?_
        have b_40 := mJ hv hm
        unfold mNum1 at b_40
        refine g_calli (g_runV (As := [.int (iI v_8)]) (rest := []) (ci := 7) F hl.1 hH hS hz (c_X7_columns l g gh T I_35 R J_36 AI_37 AJ AR mo v_8 zv_8 hv hm hT (by omega)) (cwV 1 F.2.2.2.2.1 (good_up gT_X7_columns) rfl rfl rfl hdX7_columns ⟨Nat.le_of_ble_eq_true rfl, Nat.le_of_ble_eq_true rfl⟩) hm (by decide) rfl rfl rfl (Nat.le_of_ble_eq_true rfl) dX7_joinTold_162 ⟨Nat.zero_le _, Nat.zero_le _⟩) hS (fun v_47 I_41 R_42 J_43 AI_44 AJ_45 AR_46 H locs zv_47 hp_48 hH hS => ?_)
        dsimp only at hp_48
        obtain ⟨rfl, rfl, rfl, rfl, rfl, rfl, q_49⟩ := hp_48
        have hca : (I_35 mo 24).toInt = 0 → 1 ≤ tI (AI_37 (gh 53 0)) (40 * v_8 + 1) ∧ tI (AI_37 (gh 53 0)) (40 * v_8 + 1) ≤ 4 := fun h => mCol hv hm (z := v_8) (by omega) (by omega)
        have hcb : (I_35 mo 24).toInt = 0 → 1 ≤ tI (AI_37 (gh 53 0)) (40 * v_20 + 1) ∧ tI (AI_37 (gh 53 0)) (40 * v_20 + 1) ≤ 4 := fun h => mCol hv hm (z := v_20) (by omega) (by omega)
        refine lv_istore (lv' := [(6, .int (iI v_47)), (5, .int (iI mr)), (4, .int (iI gn)), (3, .int (iI n)), (2, .int (iI v_20)), (1, .int (iI v_8)), (0, .ref mo)]) F.1 F.2.1 dX7_joinTold_165 hl (by decide) rfl (fun ls hl => ?_)
        refine z_iconst F dX7_joinTold_167 ?_
        refine lv_istore (lv' := [(7, .int (iI 0)), (6, .int (iI v_47)), (5, .int (iI mr)), (4, .int (iI gn)), (3, .int (iI n)), (2, .int (iI v_20)), (1, .int (iI v_8)), (0, .ref mo)]) F.1 F.2.1 dX7_joinTold_168 hl (by decide) rfl (fun ls hl => ?_)
        have cut_170_49 : ∀ (NN : Nat) (cl d : Int) (H : Heap) (locs : List Loc) (ls : Array Slot), zr cl → zr d → (0 ≤ d ∧ ((I_35 mo 24).toInt = 0 → d ≤ 4 ∧ d ≤ tI (AI_37 (gh 53 0)) (40 * v_20 + 1) ∧ cl = tI (AI_37 (gh 53 0)) (40 * v_8 + 1) + mCnt gn d.toNat)) → ((tI (AI_37 (gh 53 0)) (40 * v_20 + 1) - d).toNat : Int) < ((NN : Nat) : Int) → gH g I_35 R J_36 AI_37 AJ AR H → va_S (gA g) s.heap H locs → lv_has ls 8 [(7, .int (iI d)), (6, .int (iI cl)), (5, .int (iI mr)), (4, .int (iI gn)), (3, .int (iI n)), (2, .int (iI v_20)), (1, .int (iI v_8)), (0, .ref mo)] → W p l e rmX7_joinTold s m ([.ref mo] : List Value).toArray below meth c H locs 0 0 (MQ below (gQv g (fun w : gS => R = w.2.1 ∧ AJ = w.2.2.2.2.1 ∧ AR = w.2.2.2.2.2 ∧ (mInv g gh R (w.1) (w.2.2.2.1)) ∧ ((w.2.2.2.1) (gh 50 0) = T) ∧ (qF mo I (w.1)) ∧ (((w.1) mo 20).toInt ≤ 936 ∧ (I mo 24).toInt ≤ ((w.1) mo 24).toInt) ∧ (((w.1) mo 24).toInt = 0 → ((w.1) mo 21).toInt = 4 → ((w.1) mo 23).toInt = 59 → rowOK ((w.2.2.2.1) (gh 53 0)) M) ∧ (((w.1) mo 24).toInt = 0 → tI ((w.2.2.2.1) (gh 53 0)) (40 * M) = 3))) ([.ref mo] : List Value).toArray s 0 0 (gA g)) (F0 m 170 ls []) := by
          intro NN170
          induction NN170 with
          | zero =>
            intro cl d H locs ls zcl zd hcl hm170 hH hS hl
            exact absurd hm170 (by omega)
          | succ NN170 ih170 =>
            intro cl d H locs ls zcl zd hcl hm170 hH hS hl
            have hmd := mCnt_0 (x := gn) (a := d.toNat)
            have hmu := mCnt_u (x := gn) (a := d.toNat)
            refine lv_iload F.1 F.2.1 dX7_joinTold_170 (lv_at hl 0 rfl) ?_
            refine lv_aload_n F.1 F.2.1 dX7_joinTold_172 rfl (lv_at hl 7 rfl) ?_
            refine lv_iload_n F.1 F.2.1 dX7_joinTold_173 rfl (lv_at hl 5 rfl) ?_
            refine g_calli (g_runV (As := [.int (iI v_20)]) (rest := [.int (iI d)]) (ci := 7) F hl.1 hH hS hz (c_X7_columns l g gh T I_35 R J_36 AI_37 AJ AR mo v_20 zv_20 hv hm hT (by omega)) (cwV 1 F.2.2.2.2.1 (good_up gT_X7_columns) rfl rfl rfl hdX7_columns ⟨Nat.le_of_ble_eq_true rfl, Nat.le_of_ble_eq_true rfl⟩) hm (by decide) rfl rfl rfl (Nat.le_of_ble_eq_true rfl) dX7_joinTold_174 ⟨Nat.zero_le _, Nat.zero_le _⟩) hS (fun v_57 I_51 R_52 J_53 AI_54 AJ_55 AR_56 H locs zv_57 hp_58 hH hS => ?_)
            dsimp only at hp_58
            obtain ⟨rfl, rfl, rfl, rfl, rfl, rfl, q_59⟩ := hp_58
            refine z_icmp_ge (tgt := 199) F dX7_joinTold_177 (by decide) zd zv_57 (fun c_60 => ?_) (fun c_60 => ?_)
            · have hcx : (I_35 mo 24).toInt = 0 → cl = tI (AI_37 (gh 53 0)) (40 * v_8 + 1) + mCnt gn (tI (AI_37 (gh 53 0)) (40 * v_20 + 1)).toNat := fun hf => by rw [← (show d = tI (AI_37 (gh 53 0)) (40 * v_20 + 1) by have q := hcl.2 hf; omega)]; exact (hcl.2 hf).2.2
              obtain ⟨f9, ef9⟩ : ∃ q, q = (I_35 mo 24).toInt := ⟨_, rfl⟩
              have hm0 := mCnt_0 (x := gn) (a := (tI (AI_37 (gh 53 0)) (40 * v_20 + 1)).toNat)
              have cut_219_61 : ∀ (I_61 : gI) (H : Heap) (locs : List Loc) (ls : Array Slot), (mInv g gh R I_61 AI_37) → (qF mo I I_61) → ((I_61 mo 20).toInt ≤ 936 ∧ f9 ≤ (I_61 mo 24).toInt ∧ ((I_61 mo 24).toInt = 0 → (I_61 mo 21).toInt = 4 → (I_61 mo 23).toInt = 59 → cl ≤ 4)) → gH g I_61 R J_36 AI_37 AJ AR H → va_S (gA g) s.heap H locs → lv_has ls 8 [(7, .int (iI d)), (6, .int (iI cl)), (5, .int (iI mr)), (4, .int (iI gn)), (3, .int (iI n)), (2, .int (iI v_20)), (1, .int (iI v_8)), (0, .ref mo)] → W p l e rmX7_joinTold s m ([.ref mo] : List Value).toArray below meth c H locs 0 0 (MQ below (gQv g (fun w : gS => R = w.2.1 ∧ AJ = w.2.2.2.2.1 ∧ AR = w.2.2.2.2.2 ∧ (mInv g gh R (w.1) (w.2.2.2.1)) ∧ ((w.2.2.2.1) (gh 50 0) = T) ∧ (qF mo I (w.1)) ∧ (((w.1) mo 20).toInt ≤ 936 ∧ (I mo 24).toInt ≤ ((w.1) mo 24).toInt) ∧ (((w.1) mo 24).toInt = 0 → ((w.1) mo 21).toInt = 4 → ((w.1) mo 23).toInt = 59 → rowOK ((w.2.2.2.1) (gh 53 0)) M) ∧ (((w.1) mo 24).toInt = 0 → tI ((w.2.2.2.1) (gh 53 0)) (40 * M) = 3))) ([.ref mo] : List Value).toArray s 0 0 (gA g)) (F0 m 219 ls []) := by
                intro I_61 H locs ls hv pf h219 hH hS hl
                have uc_2 : (I_61 mo 2).toInt = (I mo 2).toInt := by rw [pf 2 (by decide) (by decide) (by decide) (by decide) (by decide)]
                have uc_5 : (I_61 mo 5).toInt = (I mo 5).toInt := by rw [pf 5 (by decide) (by decide) (by decide) (by decide) (by decide)]
                have uc_14 : (I_61 mo 14).toInt = (I mo 14).toInt := by rw [pf 14 (by decide) (by decide) (by decide) (by decide) (by decide)]
                have uc_16 : (I_61 mo 16).toInt = (I mo 16).toInt := by rw [pf 16 (by decide) (by decide) (by decide) (by decide) (by decide)]
                have uc_18 : (I_61 mo 18).toInt = (I mo 18).toInt := by rw [pf 18 (by decide) (by decide) (by decide) (by decide) (by decide)]
                refine lv_aload_n F.1 F.2.1 dX7_joinTold_219 rfl (lv_at hl 7 rfl) ?_
                refine z_iconst F dX7_joinTold_220 ?_
                refine lv_iload F.1 F.2.1 dX7_joinTold_221 (lv_at hl 1 rfl) ?_
                refine lv_iload_n F.1 F.2.1 dX7_joinTold_223 rfl (lv_at hl 6 rfl) ?_
                refine lv_iload_n F.1 F.2.1 dX7_joinTold_224 rfl (lv_at hl 5 rfl) ?_
                refine lv_iload_n F.1 F.2.1 dX7_joinTold_225 rfl (lv_at hl 4 rfl) ?_
                have b_63 := mJ hv hm
                unfold mNum1 at b_63
                refine g_callv (g_runV (As := [.int (iI 3), .int (iI cl), .int (iI v_8), .int (iI v_20), .int (iI n)]) (rest := []) (ci := 7) F hl.1 hH hS hz (c_X7_header l g gh T M I_61 R J_36 AI_37 AJ AR mo 3 cl v_8 v_20 n ⟨by decide, by decide⟩ zcl zv_8 zv_20 zn hv hm hT (by omega) (by omega)) (cwV 5 F.2.2.2.2.1 (good_up gT_X7_header) rfl rfl rfl hdX7_header ⟨Nat.le_of_ble_eq_true rfl, Nat.le_of_ble_eq_true rfl⟩) hm (by decide) rfl rfl rfl (Nat.le_of_ble_eq_true rfl) dX7_joinTold_226 ⟨Nat.zero_le _, Nat.zero_le _⟩) hS (fun I_64 R_65 J_66 AI_67 AJ_68 AR_69 H locs hp_70 hH hS => ?_)
                dsimp only at hp_70
                obtain ⟨rfl, rfl, rfl, rfl, rfl, hv, hT, hhd⟩ := hp_70
                refine lv_aload_n F.1 F.2.1 dX7_joinTold_229 rfl (lv_at hl 7 rfl) ?_
                refine z_iconst F dX7_joinTold_230 ?_
                refine lv_iload F.1 F.2.1 dX7_joinTold_231 (lv_at hl 3 rfl) ?_
                refine g_callv (g_runV (As := [.int (iI 5), .int (iI gn)]) (rest := []) (ci := 7) F hl.1 hH hS hz (c_X7_sets l g gh T M I_61 R J_36 AI_67 AJ AR mo 5 gn ⟨by decide, by decide⟩ zgn hv hm hT (by omega) (by omega) (by omega)) (cwV 2 F.2.2.2.2.1 (good_up gT_X7_sets) rfl rfl rfl hdX7_sets ⟨Nat.le_of_ble_eq_true rfl, Nat.le_of_ble_eq_true rfl⟩) hm (by decide) rfl rfl rfl (Nat.le_of_ble_eq_true rfl) dX7_joinTold_233 ⟨Nat.zero_le _, Nat.zero_le _⟩) hS (fun I_71 R_72 J_73 AI_74 AJ_75 AR_76 H locs hp_77 hH hS => ?_)
                dsimp only at hp_77
                obtain ⟨rfl, rfl, rfl, rfl, rfl, hv, hT, hs1⟩ := hp_77
                exact g_vret F hr hlk hH hS hz ⟨rfl, rfl, rfl, hv, hT, pf, by first | omega | rfl | (dsimp only; omega), by (try dsimp only); intro hf ht hn; have qa := hca (by omega); have qb := hcb (by omega); have qc := hcx (by omega); have q5 := hP_s5 (by omega) (hhd (by omega)) (hs1 (by omega)); exact row_mk (by omega) q5.1 (by omega) (by omega) (by omega) (by omega) (fun h => absurd h (by omega)) (fun h => absurd h (by omega)) (fun h => absurd h (by omega)) (fun _ => ⟨by omega, by omega, (hp (by omega)).2, by rw [q5.2]; omega⟩) (fun h => absurd h (by omega)) (fun h => absurd h (by omega)) (fun h => absurd h (by omega)), by (try dsimp only); intro hf; exact (hP_s5 (by omega) (hhd (by omega)) (hs1 (by omega))).1.2.1⟩ dX7_joinTold_236
              refine lv_aload_n F.1 F.2.1 dX7_joinTold_199 rfl (lv_at hl 7 rfl) ?_
              refine z_bipush F dX7_joinTold_200 (by decide) ?_
              refine g_calli (g_runV (As := [.int (iI 59)]) (rest := []) (ci := 7) F hl.1 hH hS hz (c_X7_isSign l g gh T I_35 R J_36 AI_37 AJ AR mo 59 ⟨by decide, by decide⟩ hv hm hT) (cwV 1 F.2.2.2.2.1 (good_up gT_X7_isSign) rfl rfl rfl hdX7_isSign ⟨Nat.le_of_ble_eq_true rfl, Nat.le_of_ble_eq_true rfl⟩) hm (by decide) rfl rfl rfl (Nat.le_of_ble_eq_true rfl) dX7_joinTold_202 ⟨Nat.zero_le _, Nat.zero_le _⟩) hS (fun v_84 I_78 R_79 J_80 AI_81 AJ_82 AR_83 H locs zv_84 hp_85 hH hS => ?_)
              dsimp only at hp_85
              obtain ⟨rfl, rfl, rfl, rfl, rfl, rfl, q_86⟩ := hp_85
              refine z_if_eq (tgt := 219) F dX7_joinTold_205 (by decide) zv_84 (fun c_87 => ?_) (fun c_87 => ?_)
              · exact cut_219_61 I_35 H locs ls hv pf (by omega) hH hS (lv_sub hl [0, 1, 2, 3, 4, 5, 6, 7] rfl)
              · refine lv_iload F.1 F.2.1 dX7_joinTold_208 (lv_at hl 1 rfl) ?_
                refine z_iconst F dX7_joinTold_210 ?_
                refine z_icmp_le (tgt := 219) F dX7_joinTold_211 (by decide) zcl ⟨by decide, by decide⟩ (fun c_88 => ?_) (fun c_88 => ?_)
                · exact cut_219_61 I_35 H locs ls hv pf (by omega) hH hS (lv_sub hl [0, 1, 2, 3, 4, 5, 6, 7] rfl)
                · refine lv_aload_n F.1 F.2.1 dX7_joinTold_214 rfl (lv_at hl 7 rfl) ?_
                  refine z_iconst F dX7_joinTold_215 ?_
                  refine g_callv (g_runV (As := [.int (iI 5)]) (rest := []) (ci := 7) F hl.1 hH hS hz (c_X7_wrong l g gh T I_35 R J_36 AI_37 AJ AR mo 5 ⟨by decide, by decide⟩ hv hm hT (by omega)) (cwV 1 F.2.2.2.2.1 (good_up gT_X7_wrong) rfl rfl rfl hdX7_wrong ⟨Nat.le_of_ble_eq_true rfl, Nat.le_of_ble_eq_true rfl⟩) hm (by decide) rfl rfl rfl (Nat.le_of_ble_eq_true rfl) dX7_joinTold_216 ⟨Nat.zero_le _, Nat.zero_le _⟩) hS (fun I_89 R_90 J_91 AI_92 AJ_93 AR_94 H locs hp_95 hH hS => ?_)
                  dsimp only at hp_95
                  obtain ⟨rfl, rfl, rfl, rfl, rfl, hv, pfq, q_96⟩ := hp_95
                  have pf := qF_t pf pfq
                  have u_97_2 : (I_89 mo 2).toInt = (I mo 2).toInt := by rw [pf 2 (by decide) (by decide) (by decide) (by decide) (by decide)]
                  have u_97_5 : (I_89 mo 5).toInt = (I mo 5).toInt := by rw [pf 5 (by decide) (by decide) (by decide) (by decide) (by decide)]
                  have u_97_14 : (I_89 mo 14).toInt = (I mo 14).toInt := by rw [pf 14 (by decide) (by decide) (by decide) (by decide) (by decide)]
                  have u_97_16 : (I_89 mo 16).toInt = (I mo 16).toInt := by rw [pf 16 (by decide) (by decide) (by decide) (by decide) (by decide)]
                  have u_97_18 : (I_89 mo 18).toInt = (I mo 18).toInt := by rw [pf 18 (by decide) (by decide) (by decide) (by decide) (by decide)]
                  exact cut_219_61 I_89 H locs ls hv pf (by omega) hH hS (lv_sub hl [0, 1, 2, 3, 4, 5, 6, 7] rfl)
            · refine lv_iload F.1 F.2.1 dX7_joinTold_180 (lv_at hl 3 rfl) ?_
              refine lv_iload F.1 F.2.1 dX7_joinTold_182 (lv_at hl 0 rfl) ?_
              refine lv_ishr F.1 F.2.1 dX7_joinTold_184 ?_
              refine z_top (fun v_98 zv_98 ev_98 => ?_)
              refine z_iconst F dX7_joinTold_185 ?_
              refine lv_iand F.1 F.2.1 dX7_joinTold_186 ?_
              refine z_top (fun v_99 zv_99 ev_99 => ?_)
              have hb : v_99 = mBit gn d := by rw [ev_99, ev_98]; rfl
              have hb01 := mBit01 gn d
              refine z_if_ne (tgt := 193) F dX7_joinTold_187 (by decide) zv_99 (fun c_100 => ?_) (fun c_100 => ?_)
              · refine z_iinc (lv' := [(7, .int (iI (d + 1))), (6, .int (iI cl)), (5, .int (iI mr)), (4, .int (iI gn)), (3, .int (iI n)), (2, .int (iI v_20)), (1, .int (iI v_8)), (0, .ref mo)]) F dX7_joinTold_193 hl (k := 0) rfl (by decide) rfl (fun ls hl => ?_)
                refine z_goto (tgt := 170) F dX7_joinTold_196 (by decide) ?_
                exact ih170 cl (d + 1) H locs ls zcl ⟨by omega, by omega⟩ (by first | exact ⟨by omega, fun hf => ⟨by omega, by omega, by show _ = _ + (0 : Int); omega⟩⟩ | exact ⟨by omega, fun hf => ⟨by have q := hcb hf; omega, by omega, by have q := hcl.2 hf; rw [mCnt_z (by omega) (by omega)]; omega⟩⟩ | exact ⟨by omega, fun hf => ⟨by have q := hcb hf; omega, by omega, by have q := hcl.2 hf; have q1 := hca hf; have q2 := fc9 (by omega); rw [mCnt_s (by omega) (by omega)]; omega⟩⟩) (by omega) hH hS (lv_sub hl [0, 1, 2, 3, 4, 5, 6, 7] rfl)
              · refine z_iinc (lv' := [(6, .int (iI (cl + 1))), (7, .int (iI d)), (5, .int (iI mr)), (4, .int (iI gn)), (3, .int (iI n)), (2, .int (iI v_20)), (1, .int (iI v_8)), (0, .ref mo)]) F dX7_joinTold_190 hl (k := 1) rfl (by decide) rfl (fun ls hl => ?_)
                obtain ⟨c9, zc9, ec9, fc9⟩ := z_wrap (cl + 1)
                rw [ec9] at hl
                refine z_iinc (lv' := [(7, .int (iI (d + 1))), (6, .int (iI c9)), (5, .int (iI mr)), (4, .int (iI gn)), (3, .int (iI n)), (2, .int (iI v_20)), (1, .int (iI v_8)), (0, .ref mo)]) F dX7_joinTold_193 hl (k := 1) rfl (by decide) rfl (fun ls hl => ?_)
                refine z_goto (tgt := 170) F dX7_joinTold_196 (by decide) ?_
                exact ih170 c9 (d + 1) H locs ls zc9 ⟨by omega, by omega⟩ (by first | exact ⟨by omega, fun hf => ⟨by omega, by omega, by show _ = _ + (0 : Int); omega⟩⟩ | exact ⟨by omega, fun hf => ⟨by have q := hcb hf; omega, by omega, by have q := hcl.2 hf; rw [mCnt_z (by omega) (by omega)]; omega⟩⟩ | exact ⟨by omega, fun hf => ⟨by have q := hcb hf; omega, by omega, by have q := hcl.2 hf; have q1 := hca hf; have q2 := fc9 (by omega); rw [mCnt_s (by omega) (by omega)]; omega⟩⟩) (by omega) hH hS (lv_sub hl [0, 1, 2, 3, 4, 5, 6, 7] rfl)
        exact cut_170_49 ((((tI (AI_37 (gh 53 0)) (40 * v_20 + 1) - 0).toNat : Int) + 1 : Int).toNat) v_47 0 H locs ls zv_47 ⟨by decide, by decide⟩ (by first | exact ⟨by omega, fun hf => ⟨by omega, by omega, by show _ = _ + (0 : Int); omega⟩⟩ | exact ⟨by omega, fun hf => ⟨by have q := hcb hf; omega, by omega, by have q := hcl.2 hf; rw [mCnt_z (by omega) (by omega)]; omega⟩⟩ | exact ⟨by omega, fun hf => ⟨by have q := hcb hf; omega, by omega, by have q := hcl.2 hf; have q1 := hca hf; have q2 := fc9 (by omega); rw [mCnt_s (by omega) (by omega)]; omega⟩⟩) (by omega) hH hS (lv_sub hl [0, 1, 2, 3, 4, 5, 6, 7] rfl)
      refine lv_iload F.1 F.2.1 dX7_joinTold_24 (lv_at hl 0 rfl) ?_
      refine z_if_eq (tgt := 160) F dX7_joinTold_26 (by decide) zmr (fun c_101 => ?_) (fun c_101 => ?_)
      · exact cut_160_38 H locs ls hH hS (lv_sub hl [0, 1, 2, 3, 4, 5] rfl)
      · refine lv_aload_n F.1 F.2.1 dX7_joinTold_29 rfl (lv_at hl 5 rfl) ?_
        refine g_getI (ci := 7) (k := 24) F hH rfl (by decide) iX7 hm (by decide) rfl k81 dX7_joinTold_30 ?_
        have b_102 := mJ hv hm
        unfold mNum1 at b_102
        refine z_if_ne (tgt := 160) F dX7_joinTold_33 (by decide) (zr_t _) (fun c_103 => ?_) (fun c_103 => ?_)
        · exact cut_160_38 H locs ls hH hS (lv_sub hl [0, 1, 2, 3, 4, 5] rfl)
        · have cut_82_104 : ∀ (I_104 : gI) (H : Heap) (locs : List Loc) (ls : Array Slot), (mInv g gh R I_104 AI_37) → (qF mo I I_104) → ((I_104 mo 20).toInt ≤ 936 ∧ f0 ≤ (I_104 mo 24).toInt ∧ ((I_104 mo 24).toInt = 0 → n ≤ 3)) → gH g I_104 R J_36 AI_37 AJ AR H → va_S (gA g) s.heap H locs → lv_has ls 8 [(5, .int (iI mr)), (4, .int (iI gn)), (3, .int (iI n)), (2, .int (iI v_20)), (1, .int (iI v_8)), (0, .ref mo)] → W p l e rmX7_joinTold s m ([.ref mo] : List Value).toArray below meth c H locs 0 0 (MQ below (gQv g (fun w : gS => R = w.2.1 ∧ AJ = w.2.2.2.2.1 ∧ AR = w.2.2.2.2.2 ∧ (mInv g gh R (w.1) (w.2.2.2.1)) ∧ ((w.2.2.2.1) (gh 50 0) = T) ∧ (qF mo I (w.1)) ∧ (((w.1) mo 20).toInt ≤ 936 ∧ (I mo 24).toInt ≤ ((w.1) mo 24).toInt) ∧ (((w.1) mo 24).toInt = 0 → ((w.1) mo 21).toInt = 4 → ((w.1) mo 23).toInt = 59 → rowOK ((w.2.2.2.1) (gh 53 0)) M) ∧ (((w.1) mo 24).toInt = 0 → tI ((w.2.2.2.1) (gh 53 0)) (40 * M) = 3))) ([.ref mo] : List Value).toArray s 0 0 (gA g)) (F0 m 82 ls []) := by
            intro I_104 H locs ls hv pf hj36 hH hS hl
            have uc_2 : (I_104 mo 2).toInt = (I mo 2).toInt := by rw [pf 2 (by decide) (by decide) (by decide) (by decide) (by decide)]
            have uc_5 : (I_104 mo 5).toInt = (I mo 5).toInt := by rw [pf 5 (by decide) (by decide) (by decide) (by decide) (by decide)]
            have uc_14 : (I_104 mo 14).toInt = (I mo 14).toInt := by rw [pf 14 (by decide) (by decide) (by decide) (by decide) (by decide)]
            have uc_16 : (I_104 mo 16).toInt = (I mo 16).toInt := by rw [pf 16 (by decide) (by decide) (by decide) (by decide) (by decide)]
            have uc_18 : (I_104 mo 18).toInt = (I mo 18).toInt := by rw [pf 18 (by decide) (by decide) (by decide) (by decide) (by decide)]
            refine lv_aload_n F.1 F.2.1 dX7_joinTold_82 rfl (lv_at hl 5 rfl) ?_
            refine lv_aload_n F.1 F.2.1 dX7_joinTold_83 rfl (lv_at hl 5 rfl) ?_
            refine lv_iload_n F.1 F.2.1 dX7_joinTold_84 rfl (lv_at hl 4 rfl) ?_
            have b_106 := mJ hv hm
            unfold mNum1 at b_106
            refine g_calli (g_runV (As := [.int (iI v_8)]) (rest := [.ref mo]) (ci := 7) F hl.1 hH hS hz (c_X7_columns l g gh T I_104 R J_36 AI_37 AJ AR mo v_8 zv_8 hv hm hT (by omega)) (cwV 1 F.2.2.2.2.1 (good_up gT_X7_columns) rfl rfl rfl hdX7_columns ⟨Nat.le_of_ble_eq_true rfl, Nat.le_of_ble_eq_true rfl⟩) hm (by decide) rfl rfl rfl (Nat.le_of_ble_eq_true rfl) dX7_joinTold_85 ⟨Nat.zero_le _, Nat.zero_le _⟩) hS (fun v_113 I_107 R_108 J_109 AI_110 AJ_111 AR_112 H locs zv_113 hp_114 hH hS => ?_)
            dsimp only at hp_114
            obtain ⟨rfl, rfl, rfl, rfl, rfl, rfl, q_115⟩ := hp_114
            refine g_calli (g_runV (As := [.int (iI v_113)]) (rest := []) (ci := 7) F hl.1 hH hS hz (c_X7_column l g gh T I_104 R J_36 AI_37 AJ AR mo v_113 zv_113 hv hm hT (by omega)) (cwV 1 F.2.2.2.2.1 (good_up gT_X7_column) rfl rfl rfl hdX7_column ⟨Nat.le_of_ble_eq_true rfl, Nat.le_of_ble_eq_true rfl⟩) hm (by decide) rfl rfl rfl (Nat.le_of_ble_eq_true rfl) dX7_joinTold_88 ⟨Nat.zero_le _, Nat.zero_le _⟩) hS (fun v_122 I_116 R_117 J_118 AI_119 AJ_120 AR_121 H locs zv_122 hp_123 hH hS => ?_)
            dsimp only at hp_123
            obtain ⟨rfl, rfl, rfl, rfl, hv, pfq, q_124, q_125⟩ := hp_123
            have pf := qF_t pf pfq
            have u_126_2 : (I_116 mo 2).toInt = (I mo 2).toInt := by rw [pf 2 (by decide) (by decide) (by decide) (by decide) (by decide)]
            have u_126_5 : (I_116 mo 5).toInt = (I mo 5).toInt := by rw [pf 5 (by decide) (by decide) (by decide) (by decide) (by decide)]
            have u_126_14 : (I_116 mo 14).toInt = (I mo 14).toInt := by rw [pf 14 (by decide) (by decide) (by decide) (by decide) (by decide)]
            have u_126_16 : (I_116 mo 16).toInt = (I mo 16).toInt := by rw [pf 16 (by decide) (by decide) (by decide) (by decide) (by decide)]
            have u_126_18 : (I_116 mo 18).toInt = (I mo 18).toInt := by rw [pf 18 (by decide) (by decide) (by decide) (by decide) (by decide)]
            obtain ⟨f1, ef1⟩ : ∃ q, q = (I_116 mo 24).toInt := ⟨_, rfl⟩
            have hc1 : f1 = 0 → 0 ≤ v_122 ∧ v_122 ≤ 3 := by omega
            refine lv_istore (lv' := [(6, .int (iI v_122)), (5, .int (iI mr)), (4, .int (iI gn)), (3, .int (iI n)), (2, .int (iI v_20)), (1, .int (iI v_8)), (0, .ref mo)]) F.1 F.2.1 dX7_joinTold_91 hl (by decide) rfl (fun ls hl => ?_)
            refine lv_aload_n F.1 F.2.1 dX7_joinTold_93 rfl (lv_at hl 6 rfl) ?_
            refine z_bipush F dX7_joinTold_94 (by decide) ?_
            have b_127 := mJ hv hm
            unfold mNum1 at b_127
            refine g_callv (g_runV (As := [.int (iI 61)]) (rest := []) (ci := 7) F hl.1 hH hS hz (c_X7_mustSign l g gh T I_116 R J_118 AI_37 AJ AR mo 61 ⟨by decide, by decide⟩ hv hm hT (by omega)) (cwV 1 F.2.2.2.2.1 (good_up gT_X7_mustSign) rfl rfl rfl hdX7_mustSign ⟨Nat.le_of_ble_eq_true rfl, Nat.le_of_ble_eq_true rfl⟩) hm (by decide) rfl rfl rfl (Nat.le_of_ble_eq_true rfl) dX7_joinTold_96 ⟨Nat.zero_le _, Nat.zero_le _⟩) hS (fun I_128 R_129 J_130 AI_131 AJ_132 AR_133 H locs hp_134 hH hS => ?_)
            dsimp only at hp_134
            obtain ⟨rfl, rfl, rfl, rfl, hv, pfq, q_135, q_136⟩ := hp_134
            have pf := qF_t pf pfq
            have u_137_2 : (I_128 mo 2).toInt = (I mo 2).toInt := by rw [pf 2 (by decide) (by decide) (by decide) (by decide) (by decide)]
            have u_137_5 : (I_128 mo 5).toInt = (I mo 5).toInt := by rw [pf 5 (by decide) (by decide) (by decide) (by decide) (by decide)]
            have u_137_14 : (I_128 mo 14).toInt = (I mo 14).toInt := by rw [pf 14 (by decide) (by decide) (by decide) (by decide) (by decide)]
            have u_137_16 : (I_128 mo 16).toInt = (I mo 16).toInt := by rw [pf 16 (by decide) (by decide) (by decide) (by decide) (by decide)]
            have u_137_18 : (I_128 mo 18).toInt = (I mo 18).toInt := by rw [pf 18 (by decide) (by decide) (by decide) (by decide) (by decide)]
            refine lv_aload_n F.1 F.2.1 dX7_joinTold_99 rfl (lv_at hl 6 rfl) ?_
            refine lv_aload_n F.1 F.2.1 dX7_joinTold_100 rfl (lv_at hl 6 rfl) ?_
            refine lv_iload_n F.1 F.2.1 dX7_joinTold_101 rfl (lv_at hl 4 rfl) ?_
            have b_138 := mJ hv hm
            unfold mNum1 at b_138
            refine g_calli (g_runV (As := [.int (iI v_20)]) (rest := [.ref mo]) (ci := 7) F hl.1 hH hS hz (c_X7_columns l g gh T I_128 R J_130 AI_37 AJ AR mo v_20 zv_20 hv hm hT (by omega)) (cwV 1 F.2.2.2.2.1 (good_up gT_X7_columns) rfl rfl rfl hdX7_columns ⟨Nat.le_of_ble_eq_true rfl, Nat.le_of_ble_eq_true rfl⟩) hm (by decide) rfl rfl rfl (Nat.le_of_ble_eq_true rfl) dX7_joinTold_102 ⟨Nat.zero_le _, Nat.zero_le _⟩) hS (fun v_145 I_139 R_140 J_141 AI_142 AJ_143 AR_144 H locs zv_145 hp_146 hH hS => ?_)
            dsimp only at hp_146
            obtain ⟨rfl, rfl, rfl, rfl, rfl, rfl, q_147⟩ := hp_146
            refine g_calli (g_runV (As := [.int (iI v_145)]) (rest := []) (ci := 7) F hl.1 hH hS hz (c_X7_column l g gh T I_128 R J_130 AI_37 AJ AR mo v_145 zv_145 hv hm hT (by omega)) (cwV 1 F.2.2.2.2.1 (good_up gT_X7_column) rfl rfl rfl hdX7_column ⟨Nat.le_of_ble_eq_true rfl, Nat.le_of_ble_eq_true rfl⟩) hm (by decide) rfl rfl rfl (Nat.le_of_ble_eq_true rfl) dX7_joinTold_105 ⟨Nat.zero_le _, Nat.zero_le _⟩) hS (fun v_154 I_148 R_149 J_150 AI_151 AJ_152 AR_153 H locs zv_154 hp_155 hH hS => ?_)
            dsimp only at hp_155
            obtain ⟨rfl, rfl, rfl, rfl, hv, pfq, q_156, q_157⟩ := hp_155
            have pf := qF_t pf pfq
            have u_158_2 : (I_148 mo 2).toInt = (I mo 2).toInt := by rw [pf 2 (by decide) (by decide) (by decide) (by decide) (by decide)]
            have u_158_5 : (I_148 mo 5).toInt = (I mo 5).toInt := by rw [pf 5 (by decide) (by decide) (by decide) (by decide) (by decide)]
            have u_158_14 : (I_148 mo 14).toInt = (I mo 14).toInt := by rw [pf 14 (by decide) (by decide) (by decide) (by decide) (by decide)]
            have u_158_16 : (I_148 mo 16).toInt = (I mo 16).toInt := by rw [pf 16 (by decide) (by decide) (by decide) (by decide) (by decide)]
            have u_158_18 : (I_148 mo 18).toInt = (I mo 18).toInt := by rw [pf 18 (by decide) (by decide) (by decide) (by decide) (by decide)]
            obtain ⟨f2, ef2⟩ : ∃ q, q = (I_148 mo 24).toInt := ⟨_, rfl⟩
            have hd1 : f2 = 0 → 0 ≤ v_154 ∧ v_154 ≤ 3 := by omega
            refine lv_istore (lv' := [(7, .int (iI v_154)), (6, .int (iI v_122)), (5, .int (iI mr)), (4, .int (iI gn)), (3, .int (iI n)), (2, .int (iI v_20)), (1, .int (iI v_8)), (0, .ref mo)]) F.1 F.2.1 dX7_joinTold_108 hl (by decide) rfl (fun ls hl => ?_)
            refine lv_aload_n F.1 F.2.1 dX7_joinTold_110 rfl (lv_at hl 7 rfl) ?_
            refine lv_iload_n F.1 F.2.1 dX7_joinTold_111 rfl (lv_at hl 4 rfl) ?_
            refine lv_iload F.1 F.2.1 dX7_joinTold_112 (lv_at hl 1 rfl) ?_
            refine lv_iload F.1 F.2.1 dX7_joinTold_114 (lv_at hl 0 rfl) ?_
            refine z_iconst F dX7_joinTold_116 ?_
            refine z_iconst F dX7_joinTold_117 ?_
            have b_159 := mJ hv hm
            unfold mNum1 at b_159
            refine g_callv (g_runV (As := [.int (iI n), .int (iI v_122), .int (iI v_154), .int (iI 0), .int (iI 0)]) (rest := []) (ci := 7) F hl.1 hH hS hz (c_X7_setsPart l g gh T M I_148 R J_150 AI_37 AJ AR mo n v_122 v_154 0 0 zn zv_122 zv_154 ⟨by decide, by decide⟩ ⟨by decide, by decide⟩ hv hm hT (by omega) (by omega) (by omega)) (cwV 5 F.2.2.2.2.1 (good_up gT_X7_setsPart) rfl rfl rfl hdX7_setsPart ⟨Nat.le_of_ble_eq_true rfl, Nat.le_of_ble_eq_true rfl⟩) hm (by decide) rfl rfl rfl (Nat.le_of_ble_eq_true rfl) dX7_joinTold_118 ⟨Nat.zero_le _, Nat.zero_le _⟩) hS (fun I_160 R_161 J_162 AI_163 AJ_164 AR_165 H locs hp_166 hH hS => ?_)
            dsimp only at hp_166
            obtain ⟨rfl, rfl, rfl, rfl, rfl, hv, hT, hsp⟩ := hp_166
            have cut_137_166 : ∀ (gn2 : Int) (H : Heap) (locs : List Loc) (ls : Array Slot), zr gn2 → gH g I_148 R J_150 AI_163 AJ AR H → va_S (gA g) s.heap H locs → lv_has ls 8 [(7, .int (iI v_154)), (6, .int (iI v_122)), (5, .int (iI mr)), (4, .int (iI gn2)), (3, .int (iI n)), (2, .int (iI v_20)), (1, .int (iI v_8)), (0, .ref mo)] → W p l e rmX7_joinTold s m ([.ref mo] : List Value).toArray below meth c H locs 0 0 (MQ below (gQv g (fun w : gS => R = w.2.1 ∧ AJ = w.2.2.2.2.1 ∧ AR = w.2.2.2.2.2 ∧ (mInv g gh R (w.1) (w.2.2.2.1)) ∧ ((w.2.2.2.1) (gh 50 0) = T) ∧ (qF mo I (w.1)) ∧ (((w.1) mo 20).toInt ≤ 936 ∧ (I mo 24).toInt ≤ ((w.1) mo 24).toInt) ∧ (((w.1) mo 24).toInt = 0 → ((w.1) mo 21).toInt = 4 → ((w.1) mo 23).toInt = 59 → rowOK ((w.2.2.2.1) (gh 53 0)) M) ∧ (((w.1) mo 24).toInt = 0 → tI ((w.2.2.2.1) (gh 53 0)) (40 * M) = 3))) ([.ref mo] : List Value).toArray s 0 0 (gA g)) (F0 m 137 ls []) := by
              intro gn2 H locs ls zgn2 hH hS hl
              refine z_iinc (lv' := [(3, .int (iI (n + 1))), (7, .int (iI v_154)), (6, .int (iI v_122)), (5, .int (iI mr)), (4, .int (iI gn2)), (2, .int (iI v_20)), (1, .int (iI v_8)), (0, .ref mo)]) F dX7_joinTold_137 hl (k := 4) rfl (by decide) rfl (fun ls hl => ?_)
              refine lv_aload_n F.1 F.2.1 dX7_joinTold_140 rfl (lv_at hl 7 rfl) ?_
              refine z_bipush F dX7_joinTold_141 (by decide) ?_
              refine g_calli (g_runV (As := [.int (iI 44)]) (rest := []) (ci := 7) F hl.1 hH hS hz (c_X7_isSign l g gh T I_148 R J_150 AI_163 AJ AR mo 44 ⟨by decide, by decide⟩ hv hm hT) (cwV 1 F.2.2.2.2.1 (good_up gT_X7_isSign) rfl rfl rfl hdX7_isSign ⟨Nat.le_of_ble_eq_true rfl, Nat.le_of_ble_eq_true rfl⟩) hm (by decide) rfl rfl rfl (Nat.le_of_ble_eq_true rfl) dX7_joinTold_143 ⟨Nat.zero_le _, Nat.zero_le _⟩) hS (fun v_174 I_168 R_169 J_170 AI_171 AJ_172 AR_173 H locs zv_174 hp_175 hH hS => ?_)
              dsimp only at hp_175
              obtain ⟨rfl, rfl, rfl, rfl, rfl, rfl, q_176⟩ := hp_175
              refine lv_istore (lv' := [(5, .int (iI v_174)), (3, .int (iI (n + 1))), (7, .int (iI v_154)), (6, .int (iI v_122)), (4, .int (iI gn2)), (2, .int (iI v_20)), (1, .int (iI v_8)), (0, .ref mo)]) F.1 F.2.1 dX7_joinTold_146 hl (by decide) rfl (fun ls hl => ?_)
              refine lv_iload F.1 F.2.1 dX7_joinTold_148 (lv_at hl 0 rfl) ?_
              refine z_if_eq (tgt := 157) F dX7_joinTold_150 (by decide) zv_174 (fun c_177 => ?_) (fun c_177 => ?_)
              · refine z_goto (tgt := 24) F dX7_joinTold_157 (by decide) ?_
                exact ih24 (n + 1) gn2 v_174 I_148 J_150 AI_163 H locs ls ⟨by omega, by omega⟩ zgn2 zv_174 hv hT pf (by omega) (by first | exact (fun _ => ⟨by omega, fun k a b => absurd b (by omega)⟩) | exact (fun hf => ⟨by omega, joinP_step (by omega) (hp (by omega)).2 (hsp (by omega)) (by omega) (by omega)⟩)) (by omega) hH hS (lv_sub hl [0, 4, 1, 5, 6, 7] rfl)
              · refine lv_aload_n F.1 F.2.1 dX7_joinTold_153 rfl (lv_at hl 7 rfl) ?_
                refine g_callv (g_runV (As := []) (rest := []) (ci := 7) F hl.1 hH hS hz (c_X7_next l g gh T I_148 R J_150 AI_163 AJ AR mo hv hm hT (by omega)) (cwV 0 F.2.2.2.2.1 (good_up gT_X7_next) rfl rfl rfl hdX7_next ⟨Nat.le_of_ble_eq_true rfl, Nat.le_of_ble_eq_true rfl⟩) hm (by decide) rfl rfl rfl (Nat.le_of_ble_eq_true rfl) dX7_joinTold_154 ⟨Nat.zero_le _, Nat.zero_le _⟩) hS (fun I_178 R_179 J_180 AI_181 AJ_182 AR_183 H locs hp_184 hH hS => ?_)
                dsimp only at hp_184
                obtain ⟨rfl, rfl, rfl, rfl, hv, pfq, q_185, q_186⟩ := hp_184
                have pf := qF_t pf pfq
                have u_187_2 : (I_178 mo 2).toInt = (I mo 2).toInt := by rw [pf 2 (by decide) (by decide) (by decide) (by decide) (by decide)]
                have u_187_5 : (I_178 mo 5).toInt = (I mo 5).toInt := by rw [pf 5 (by decide) (by decide) (by decide) (by decide) (by decide)]
                have u_187_14 : (I_178 mo 14).toInt = (I mo 14).toInt := by rw [pf 14 (by decide) (by decide) (by decide) (by decide) (by decide)]
                have u_187_16 : (I_178 mo 16).toInt = (I mo 16).toInt := by rw [pf 16 (by decide) (by decide) (by decide) (by decide) (by decide)]
                have u_187_18 : (I_178 mo 18).toInt = (I mo 18).toInt := by rw [pf 18 (by decide) (by decide) (by decide) (by decide) (by decide)]
                refine z_goto (tgt := 24) F dX7_joinTold_157 (by decide) ?_
                exact ih24 (n + 1) gn2 v_174 I_178 J_180 AI_163 H locs ls ⟨by omega, by omega⟩ zgn2 zv_174 hv hT pf (by omega) (by first | exact (fun _ => ⟨by omega, fun k a b => absurd b (by omega)⟩) | exact (fun hf => ⟨by omega, joinP_step (by omega) (hp (by omega)).2 (hsp (by omega)) (by omega) (by omega)⟩)) (by omega) hH hS (lv_sub hl [0, 4, 1, 5, 6, 7] rfl)
            refine lv_aload_n F.1 F.2.1 dX7_joinTold_121 rfl (lv_at hl 7 rfl) ?_
            refine g_getI (ci := 7) (k := 24) F hH rfl (by decide) iX7 hm (by decide) rfl k81 dX7_joinTold_122 ?_
            refine z_if_ne (tgt := 137) F dX7_joinTold_125 (by decide) (zr_t _) (fun c_188 => ?_) (fun c_188 => ?_)
            · exact cut_137_166 gn H locs ls zgn hH hS (lv_sub hl [0, 1, 2, 3, 4, 5, 6, 7] rfl)
            · refine lv_iload F.1 F.2.1 dX7_joinTold_128 (lv_at hl 3 rfl) ?_
              refine z_iconst F dX7_joinTold_130 ?_
              refine lv_iload F.1 F.2.1 dX7_joinTold_131 (lv_at hl 0 rfl) ?_
              refine lv_ishl F.1 F.2.1 dX7_joinTold_133 ?_
              refine z_top (fun v_189 zv_189 ev_189 => ?_)
              refine lv_ior F.1 F.2.1 dX7_joinTold_134 ?_
              refine z_top (fun v_190 zv_190 ev_190 => ?_)
              refine lv_istore (lv' := [(4, .int (iI v_190)), (7, .int (iI v_154)), (6, .int (iI v_122)), (5, .int (iI mr)), (3, .int (iI n)), (2, .int (iI v_20)), (1, .int (iI v_8)), (0, .ref mo)]) F.1 F.2.1 dX7_joinTold_135 hl (by decide) rfl (fun ls hl => ?_)
              exact cut_137_166 v_190 H locs ls zv_190 hH hS (lv_sub hl [1, 2, 3, 0, 4, 5, 6, 7] rfl)
          refine lv_iload_n F.1 F.2.1 dX7_joinTold_36 rfl (lv_at hl 2 rfl) ?_
          refine z_iconst F dX7_joinTold_37 ?_
          refine z_icmp_ne (tgt := 82) F dX7_joinTold_38 (by decide) zn ⟨by decide, by decide⟩ (fun c_191 => ?_) (fun c_191 => ?_)
          · exact cut_82_104 I_35 H locs ls hv pf (by omega) hH hS (lv_sub hl [0, 1, 2, 3, 4, 5] rfl)
          · refine lv_aload_n F.1 F.2.1 dX7_joinTold_41 rfl (lv_at hl 5 rfl) ?_
            have cut_79_191 : ∀ (kd : Int) (H : Heap) (locs : List Loc) (ls : Array Slot), zr kd → (1 ≤ kd ∧ kd ≤ 8) → gH g I_35 R J_36 AI_37 AJ AR H → va_S (gA g) s.heap H locs → lv_has ls 8 [(5, .int (iI mr)), (4, .int (iI gn)), (3, .int (iI n)), (2, .int (iI v_20)), (1, .int (iI v_8)), (0, .ref mo)] → W p l e rmX7_joinTold s m ([.ref mo] : List Value).toArray below meth c H locs 0 0 (MQ below (gQv g (fun w : gS => R = w.2.1 ∧ AJ = w.2.2.2.2.1 ∧ AR = w.2.2.2.2.2 ∧ (mInv g gh R (w.1) (w.2.2.2.1)) ∧ ((w.2.2.2.1) (gh 50 0) = T) ∧ (qF mo I (w.1)) ∧ (((w.1) mo 20).toInt ≤ 936 ∧ (I mo 24).toInt ≤ ((w.1) mo 24).toInt) ∧ (((w.1) mo 24).toInt = 0 → ((w.1) mo 21).toInt = 4 → ((w.1) mo 23).toInt = 59 → rowOK ((w.2.2.2.1) (gh 53 0)) M) ∧ (((w.1) mo 24).toInt = 0 → tI ((w.2.2.2.1) (gh 53 0)) (40 * M) = 3))) ([.ref mo] : List Value).toArray s 0 0 (gA g)) (F0 m 79 ls [.int (iI kd), .ref mo]) := by
              intro kd H locs ls zkd hkd hH hS hl
              refine g_callv (g_runV (As := [.int (iI kd)]) (rest := []) (ci := 7) F hl.1 hH hS hz (c_X7_wrong l g gh T I_35 R J_36 AI_37 AJ AR mo kd zkd hv hm hT (by omega)) (cwV 1 F.2.2.2.2.1 (good_up gT_X7_wrong) rfl rfl rfl hdX7_wrong ⟨Nat.le_of_ble_eq_true rfl, Nat.le_of_ble_eq_true rfl⟩) hm (by decide) rfl rfl rfl (Nat.le_of_ble_eq_true rfl) dX7_joinTold_79 ⟨Nat.zero_le _, Nat.zero_le _⟩) hS (fun I_193 R_194 J_195 AI_196 AJ_197 AR_198 H locs hp_199 hH hS => ?_)
              dsimp only at hp_199
              obtain ⟨rfl, rfl, rfl, rfl, rfl, hv, pfq, q_200⟩ := hp_199
              have pf := qF_t pf pfq
              have u_201_2 : (I_193 mo 2).toInt = (I mo 2).toInt := by rw [pf 2 (by decide) (by decide) (by decide) (by decide) (by decide)]
              have u_201_5 : (I_193 mo 5).toInt = (I mo 5).toInt := by rw [pf 5 (by decide) (by decide) (by decide) (by decide) (by decide)]
              have u_201_14 : (I_193 mo 14).toInt = (I mo 14).toInt := by rw [pf 14 (by decide) (by decide) (by decide) (by decide) (by decide)]
              have u_201_16 : (I_193 mo 16).toInt = (I mo 16).toInt := by rw [pf 16 (by decide) (by decide) (by decide) (by decide) (by decide)]
              have u_201_18 : (I_193 mo 18).toInt = (I mo 18).toInt := by rw [pf 18 (by decide) (by decide) (by decide) (by decide) (by decide)]
              exact cut_82_104 I_193 H locs ls hv pf (by omega) hH hS (lv_sub hl [0, 1, 2, 3, 4, 5] rfl)
            refine lv_aload_n F.1 F.2.1 dX7_joinTold_42 rfl (lv_at hl 5 rfl) ?_
            refine g_getI (ci := 7) (k := 21) F hH rfl (by decide) iX7 hm (by decide) rfl k94 dX7_joinTold_43 ?_
            refine z_iconst F dX7_joinTold_46 ?_
            refine z_icmp_ne (tgt := 66) F dX7_joinTold_47 (by decide) (zr_t _) ⟨by decide, by decide⟩ (fun c_202 => ?_) (fun c_202 => ?_)
            · refine lv_aload_n F.1 F.2.1 dX7_joinTold_66 rfl (lv_at hl 5 rfl) ?_
              refine g_getI (ci := 7) (k := 21) F hH rfl (by decide) iX7 hm (by decide) rfl k94 dX7_joinTold_67 ?_
              refine z_iconst F dX7_joinTold_70 ?_
              refine z_icmp_ne (tgt := 78) F dX7_joinTold_71 (by decide) (zr_t _) ⟨by decide, by decide⟩ (fun c_203 => ?_) (fun c_203 => ?_)
              · refine z_iconst F dX7_joinTold_78 ?_
                exact cut_79_191 1 H locs ls ⟨by decide, by decide⟩ (by omega) hH hS (lv_sub hl [0, 1, 2, 3, 4, 5] rfl)
              · exact absurd trivial (by omega)
            · refine lv_aload_n F.1 F.2.1 dX7_joinTold_50 rfl (lv_at hl 5 rfl) ?_
              refine g_getI (ci := 7) (k := 23) F hH rfl (by decide) iX7 hm (by decide) rfl k97 dX7_joinTold_51 ?_
              refine lv_aload_n F.1 F.2.1 dX7_joinTold_54 rfl (lv_at hl 5 rfl) ?_
              refine lv_iload_n F.1 F.2.1 dX7_joinTold_55 rfl (lv_at hl 4 rfl) ?_
              refine g_calli (g_runV (As := [.int (iI v_8)]) (rest := [.int (iI ((I_35 mo 23).toInt)), .ref mo]) (ci := 7) F hl.1 hH hS hz (c_X7_columns l g gh T I_35 R J_36 AI_37 AJ AR mo v_8 zv_8 hv hm hT (by omega)) (cwV 1 F.2.2.2.2.1 (good_up gT_X7_columns) rfl rfl rfl hdX7_columns ⟨Nat.le_of_ble_eq_true rfl, Nat.le_of_ble_eq_true rfl⟩) hm (by decide) rfl rfl rfl (Nat.le_of_ble_eq_true rfl) dX7_joinTold_56 ⟨Nat.zero_le _, Nat.zero_le _⟩) hS (fun v_210 I_204 R_205 J_206 AI_207 AJ_208 AR_209 H locs zv_210 hp_211 hH hS => ?_)
              dsimp only at hp_211
              obtain ⟨rfl, rfl, rfl, rfl, rfl, rfl, q_212⟩ := hp_211
              refine z_icmp_lt (tgt := 66) F dX7_joinTold_59 (by decide) (zr_t _) zv_210 (fun c_213 => ?_) (fun c_213 => ?_)
              · refine lv_aload_n F.1 F.2.1 dX7_joinTold_66 rfl (lv_at hl 5 rfl) ?_
                refine g_getI (ci := 7) (k := 21) F hH rfl (by decide) iX7 hm (by decide) rfl k94 dX7_joinTold_67 ?_
                refine z_iconst F dX7_joinTold_70 ?_
                refine z_icmp_ne (tgt := 78) F dX7_joinTold_71 (by decide) (zr_t _) ⟨by decide, by decide⟩ (fun c_214 => ?_) (fun c_214 => ?_)
                · exact absurd trivial (by omega)
                · refine z_iconst F dX7_joinTold_74 ?_
                  refine z_goto (tgt := 79) F dX7_joinTold_75 (by decide) ?_
                  exact cut_79_191 4 H locs ls ⟨by decide, by decide⟩ (by omega) hH hS (lv_sub hl [0, 1, 2, 3, 4, 5] rfl)
              · refine z_iconst F dX7_joinTold_62 ?_
                refine z_goto (tgt := 79) F dX7_joinTold_63 (by decide) ?_
                exact cut_79_191 2 H locs ls ⟨by decide, by decide⟩ (by omega) hH hS (lv_sub hl [0, 1, 2, 3, 4, 5] rfl)
  exact cut_24_37 (((6 - 0) + 1 : Int).toNat) 0 0 1 I_26 J_28 AI H locs ls ⟨by decide, by decide⟩ ⟨by decide, by decide⟩ ⟨by decide, by decide⟩ hv hT pf (by omega) (by first | exact (fun _ => ⟨by omega, fun k a b => absurd b (by omega)⟩) | exact (fun hf => ⟨by omega, joinP_step (by omega) (hp (by omega)).2 (hsp (by omega)) (by omega) (by omega)⟩)) (by omega) hH hS (lv_sub hl [0, 1, 2, 3, 4, 5] rfl)

def rmX7_bothTold : Room := { frames := 8, cells := 0, slots := 0, locals := 170 }
theorem hdX7_bothTold : yX7_bothTold.cls = RX7 ∧ yX7_bothTold.cls ≠ "java/lang/invoke/MethodHandle" ∧ yX7_bothTold.cls ≠ "java/lang/invoke/VarHandle" ∧ (parseMethodDescriptor yX7_bothTold.desc).map (fun d => d.parameters.length) = some 1 := by decide +kernel
set_option maxHeartbeats 4000000 in
set_option maxRecDepth 100000 in
/-- two relations told -/
theorem c_X7_bothTold (l : Launch) (g : gG) (gh : gGh) (T : Nat → Int32) (M : Int) (I : gI) (R : gR) (J : gJ) (AI : gI) (AJ : gJ) (AR : gR) (mo : Nat) (kd : Int) (zkd : zr kd) (hv : mInv g gh R I AI) (hm : gO g mo 7) (hT : AI (gh 50 0) = T) (hE : (I mo 20).toInt ≤ 936) (hM : (I mo 24).toInt = 0 → (I mo 5).toInt ≤ 15) (hMM : (I mo 5).toInt = M) (hkd : kd = 4 ∨ kd = 5) : gMet l g yX7_bothTold tsX7_bothTold rmX7_bothTold [.ref mo, .int (iI kd)] (I, R, J, AI, AJ, AR) (gQv g (fun w : gS => R = w.2.1 ∧ AJ = w.2.2.2.2.1 ∧ AR = w.2.2.2.2.2 ∧ (mInv g gh R (w.1) (w.2.2.2.1)) ∧ ((w.2.2.2.1) (gh 50 0) = T) ∧ (qF mo I (w.1)) ∧ (((w.1) mo 20).toInt ≤ 936 ∧ (I mo 24).toInt ≤ ((w.1) mo 24).toInt) ∧ (((w.1) mo 24).toInt = 0 → ((w.1) mo 21).toInt = 4 → ((w.1) mo 23).toInt = 59 → rowOK ((w.2.2.2.1) (gh 53 0)) M) ∧ (((w.1) mo 24).toInt = 0 → tI ((w.2.2.2.1) (gh 53 0)) (40 * M) = kd))) := by
  refine gStart (cc := cX7_bothTold) (maxL := 4) (ret := none) (by decide) rfl (Nat.le_of_ble_eq_true rfl) ?_
  intro p e s m below meth c ls F hr hlk hH hz hS hl
  have hl : lv_has ls 4 [(0, .ref mo), (1, .int (iI kd))] := hl
  have hS : va_S (gA g) s.heap s.heap [] := hS
  obtain ⟨H, hHe⟩ : ∃ H : Heap, H = s.heap := ⟨_, rfl⟩
  obtain ⟨locs, hlo⟩ : ∃ k : List Loc, k = [] := ⟨_, rfl⟩
  have hH : gH g I R J AI AJ AR H := by rw [hHe]; exact hH
  have hS : va_S (gA g) s.heap H locs := by rw [hHe, hlo]; exact hS
  suffices hw : W p l e rmX7_bothTold s m ([.ref mo, .int (iI kd)] : List Value).toArray below meth c H locs 0 0 (MQ below (gQv g (fun w : gS => R = w.2.1 ∧ AJ = w.2.2.2.2.1 ∧ AR = w.2.2.2.2.2 ∧ (mInv g gh R (w.1) (w.2.2.2.1)) ∧ ((w.2.2.2.1) (gh 50 0) = T) ∧ (qF mo I (w.1)) ∧ (((w.1) mo 20).toInt ≤ 936 ∧ (I mo 24).toInt ≤ ((w.1) mo 24).toInt) ∧ (((w.1) mo 24).toInt = 0 → ((w.1) mo 21).toInt = 4 → ((w.1) mo 23).toInt = 59 → rowOK ((w.2.2.2.1) (gh 53 0)) M) ∧ (((w.1) mo 24).toInt = 0 → tI ((w.2.2.2.1) (gh 53 0)) (40 * M) = kd))) ([.ref mo, .int (iI kd)] : List Value).toArray s 0 0 (gA g)) (F0 m 0 ls []) by
    rw [hHe, hlo] at hw; exact hw
  clear hHe hlo
  have pf : qF mo I I := qF_r
  have hb0 := mJ hv hm
  unfold mNum1 at hb0
  have iX7 : ∀ w ∈ u_ws RX7 TX7 32, w ∈ tsX7_bothTold := fun w h => List.mem_cons_of_mem _ (inTB7 w h)
  have k81 : Cond.fieldLink RX7 81 (TX7 24).1 (TX7 24).2.1 (TX7 24).2.2.1 ∈ tsX7_bothTold := List.mem_cons_of_mem _ fl_81
  have k94 : Cond.fieldLink RX7 94 (TX7 21).1 (TX7 21).2.1 (TX7 21).2.2.1 ∈ tsX7_bothTold := List.mem_cons_of_mem _ fl_94
  have k111 : Cond.fieldLink RX7 111 (TX7 22).1 (TX7 22).2.1 (TX7 22).2.2.1 ∈ tsX7_bothTold := List.mem_cons_of_mem _ fl_111
  refine lv_aload_n F.1 F.2.1 dX7_bothTold_0 rfl (lv_at hl 0 rfl) ?_
  have b_1 := mJ hv hm
  unfold mNum1 at b_1
  refine g_calli (g_runV (As := []) (rest := []) (ci := 7) F hl.1 hH hS hz (c_X7_relation l g gh T I R J AI AJ AR mo hv hm hT (by omega)) (cwV 0 F.2.2.2.2.1 (good_up gT_X7_relation) rfl rfl rfl hdX7_relation ⟨Nat.le_of_ble_eq_true rfl, Nat.le_of_ble_eq_true rfl⟩) hm (by decide) rfl rfl rfl (Nat.le_of_ble_eq_true rfl) dX7_bothTold_1 ⟨Nat.zero_le _, Nat.zero_le _⟩) hS (fun v_8 I_2 R_3 J_4 AI_5 AJ_6 AR_7 H locs zv_8 hp_9 hH hS => ?_)
  dsimp only at hp_9
  obtain ⟨rfl, rfl, rfl, rfl, hv, pfq, q_10, q_11⟩ := hp_9
  have pf := qF_t pf pfq
  have u_12_2 : (I_2 mo 2).toInt = (I mo 2).toInt := by rw [pf 2 (by decide) (by decide) (by decide) (by decide) (by decide)]
  have u_12_5 : (I_2 mo 5).toInt = (I mo 5).toInt := by rw [pf 5 (by decide) (by decide) (by decide) (by decide) (by decide)]
  have u_12_14 : (I_2 mo 14).toInt = (I mo 14).toInt := by rw [pf 14 (by decide) (by decide) (by decide) (by decide) (by decide)]
  have u_12_16 : (I_2 mo 16).toInt = (I mo 16).toInt := by rw [pf 16 (by decide) (by decide) (by decide) (by decide) (by decide)]
  have u_12_18 : (I_2 mo 18).toInt = (I mo 18).toInt := by rw [pf 18 (by decide) (by decide) (by decide) (by decide) (by decide)]
  obtain ⟨fa0, efa0⟩ : ∃ q, q = (I_2 mo 24).toInt := ⟨_, rfl⟩
  have hra : fa0 = 0 → v_8 < M := by omega
  refine lv_istore_n (lv' := [(2, .int (iI v_8)), (0, .ref mo), (1, .int (iI kd))]) F.1 F.2.1 dX7_bothTold_4 rfl hl (by decide) rfl (fun ls hl => ?_)
  have cut_63_13 : ∀ (I_13 : gI) (H : Heap) (locs : List Loc) (ls : Array Slot), (mInv g gh R I_13 AI) → (qF mo I I_13) → ((I_13 mo 20).toInt ≤ 936 ∧ fa0 ≤ (I_13 mo 24).toInt) → gH g I_13 R J_4 AI AJ AR H → va_S (gA g) s.heap H locs → lv_has ls 4 [(2, .int (iI v_8)), (0, .ref mo), (1, .int (iI kd))] → W p l e rmX7_bothTold s m ([.ref mo, .int (iI kd)] : List Value).toArray below meth c H locs 0 0 (MQ below (gQv g (fun w : gS => R = w.2.1 ∧ AJ = w.2.2.2.2.1 ∧ AR = w.2.2.2.2.2 ∧ (mInv g gh R (w.1) (w.2.2.2.1)) ∧ ((w.2.2.2.1) (gh 50 0) = T) ∧ (qF mo I (w.1)) ∧ (((w.1) mo 20).toInt ≤ 936 ∧ (I mo 24).toInt ≤ ((w.1) mo 24).toInt) ∧ (((w.1) mo 24).toInt = 0 → ((w.1) mo 21).toInt = 4 → ((w.1) mo 23).toInt = 59 → rowOK ((w.2.2.2.1) (gh 53 0)) M) ∧ (((w.1) mo 24).toInt = 0 → tI ((w.2.2.2.1) (gh 53 0)) (40 * M) = kd))) ([.ref mo, .int (iI kd)] : List Value).toArray s 0 0 (gA g)) (F0 m 63 ls []) := by
    intro I_13 H locs ls hv pf hj5 hH hS hl
    have uc_2 : (I_13 mo 2).toInt = (I mo 2).toInt := by rw [pf 2 (by decide) (by decide) (by decide) (by decide) (by decide)]
    have uc_5 : (I_13 mo 5).toInt = (I mo 5).toInt := by rw [pf 5 (by decide) (by decide) (by decide) (by decide) (by decide)]
    have uc_14 : (I_13 mo 14).toInt = (I mo 14).toInt := by rw [pf 14 (by decide) (by decide) (by decide) (by decide) (by decide)]
    have uc_16 : (I_13 mo 16).toInt = (I mo 16).toInt := by rw [pf 16 (by decide) (by decide) (by decide) (by decide) (by decide)]
    have uc_18 : (I_13 mo 18).toInt = (I mo 18).toInt := by rw [pf 18 (by decide) (by decide) (by decide) (by decide) (by decide)]
    refine lv_aload_n F.1 F.2.1 dX7_bothTold_63 rfl (lv_at hl 1 rfl) ?_
    have b_15 := mJ hv hm
    unfold mNum1 at b_15
    refine g_calli (g_runV (As := []) (rest := []) (ci := 7) F hl.1 hH hS hz (c_X7_relation l g gh T I_13 R J_4 AI AJ AR mo hv hm hT (by omega)) (cwV 0 F.2.2.2.2.1 (good_up gT_X7_relation) rfl rfl rfl hdX7_relation ⟨Nat.le_of_ble_eq_true rfl, Nat.le_of_ble_eq_true rfl⟩) hm (by decide) rfl rfl rfl (Nat.le_of_ble_eq_true rfl) dX7_bothTold_64 ⟨Nat.zero_le _, Nat.zero_le _⟩) hS (fun v_22 I_16 R_17 J_18 AI_19 AJ_20 AR_21 H locs zv_22 hp_23 hH hS => ?_)
    dsimp only at hp_23
    obtain ⟨rfl, rfl, rfl, rfl, hv, pfq, q_24, q_25⟩ := hp_23
    have pf := qF_t pf pfq
    have u_26_2 : (I_16 mo 2).toInt = (I mo 2).toInt := by rw [pf 2 (by decide) (by decide) (by decide) (by decide) (by decide)]
    have u_26_5 : (I_16 mo 5).toInt = (I mo 5).toInt := by rw [pf 5 (by decide) (by decide) (by decide) (by decide) (by decide)]
    have u_26_14 : (I_16 mo 14).toInt = (I mo 14).toInt := by rw [pf 14 (by decide) (by decide) (by decide) (by decide) (by decide)]
    have u_26_16 : (I_16 mo 16).toInt = (I mo 16).toInt := by rw [pf 16 (by decide) (by decide) (by decide) (by decide) (by decide)]
    have u_26_18 : (I_16 mo 18).toInt = (I mo 18).toInt := by rw [pf 18 (by decide) (by decide) (by decide) (by decide) (by decide)]
    obtain ⟨f0, ef0⟩ : ∃ q, q = (I_16 mo 24).toInt := ⟨_, rfl⟩
    have hr2 : f0 = 0 → v_22 < M ∧ fa0 = 0 := by omega
    refine lv_istore_n (lv' := [(3, .int (iI v_22)), (2, .int (iI v_8)), (0, .ref mo), (1, .int (iI kd))]) F.1 F.2.1 dX7_bothTold_67 rfl hl (by decide) rfl (fun ls hl => ?_)
    refine lv_aload_n F.1 F.2.1 dX7_bothTold_68 rfl (lv_at hl 2 rfl) ?_
    refine lv_iload_n F.1 F.2.1 dX7_bothTold_69 rfl (lv_at hl 3 rfl) ?_
    refine lv_aload_n F.1 F.2.1 dX7_bothTold_70 rfl (lv_at hl 2 rfl) ?_
    refine lv_iload_n F.1 F.2.1 dX7_bothTold_71 rfl (lv_at hl 1 rfl) ?_
    have b_27 := mJ hv hm
    unfold mNum1 at b_27
    refine g_calli (g_runV (As := [.int (iI v_8)]) (rest := [.int (iI kd), .ref mo]) (ci := 7) F hl.1 hH hS hz (c_X7_columns l g gh T I_16 R J_18 AI AJ AR mo v_8 zv_8 hv hm hT (by omega)) (cwV 1 F.2.2.2.2.1 (good_up gT_X7_columns) rfl rfl rfl hdX7_columns ⟨Nat.le_of_ble_eq_true rfl, Nat.le_of_ble_eq_true rfl⟩) hm (by decide) rfl rfl rfl (Nat.le_of_ble_eq_true rfl) dX7_bothTold_72 ⟨Nat.zero_le _, Nat.zero_le _⟩) hS (fun v_34 I_28 R_29 J_30 AI_31 AJ_32 AR_33 H locs zv_34 hp_35 hH hS => ?_)
    dsimp only at hp_35
    obtain ⟨rfl, rfl, rfl, rfl, rfl, rfl, q_36⟩ := hp_35
    have hcol : (I_16 mo 24).toInt = 0 → 1 ≤ v_34 ∧ v_34 ≤ 4 := fun h => by have q9 := mCol hv hm (z := v_8) (by omega) (by omega); omega
    refine lv_iload_n F.1 F.2.1 dX7_bothTold_75 rfl (lv_at hl 1 rfl) ?_
    refine lv_iload_n F.1 F.2.1 dX7_bothTold_76 rfl (lv_at hl 0 rfl) ?_
    refine z_iconst F dX7_bothTold_77 ?_
    refine g_callv (g_runV (As := [.int (iI kd), .int (iI v_34), .int (iI v_8), .int (iI v_22), .int (iI 0)]) (rest := []) (ci := 7) F hl.1 hH hS hz (c_X7_header l g gh T M I_16 R J_18 AI AJ AR mo kd v_34 v_8 v_22 0 zkd zv_34 zv_8 zv_22 ⟨by decide, by decide⟩ hv hm hT (by omega) (by omega)) (cwV 5 F.2.2.2.2.1 (good_up gT_X7_header) rfl rfl rfl hdX7_header ⟨Nat.le_of_ble_eq_true rfl, Nat.le_of_ble_eq_true rfl⟩) hm (by decide) rfl rfl rfl (Nat.le_of_ble_eq_true rfl) dX7_bothTold_78 ⟨Nat.zero_le _, Nat.zero_le _⟩) hS (fun I_37 R_38 J_39 AI_40 AJ_41 AR_42 H locs hp_43 hH hS => ?_)
    dsimp only at hp_43
    obtain ⟨rfl, rfl, rfl, rfl, rfl, hv, hT, hhd⟩ := hp_43
    exact g_vret F hr hlk hH hS hz ⟨rfl, rfl, rfl, hv, hT, pf, by first | omega | rfl | (dsimp only; omega), by (try dsimp only); intro hf ht hn; exact row_mk (by omega) (hhd (by omega)) (by omega) (hcol (by omega)) (by omega) (by omega) (fun h => absurd h (by omega)) (fun h => absurd h (by omega)) (fun h => absurd h (by omega)) (fun h => absurd h (by omega)) (fun _ => by omega) (fun h => absurd h (by omega)) (fun h => absurd h (by omega)), by (try dsimp only); intro hf; exact (hhd (by omega)).2.1⟩ dX7_bothTold_81
  refine lv_aload_n F.1 F.2.1 dX7_bothTold_5 rfl (lv_at hl 1 rfl) ?_
  refine g_getI (ci := 7) (k := 24) F hH rfl (by decide) iX7 hm (by decide) rfl k81 dX7_bothTold_6 ?_
  have b_44 := mJ hv hm
  unfold mNum1 at b_44
  refine z_if_ne (tgt := 63) F dX7_bothTold_9 (by decide) (zr_t _) (fun c_45 => ?_) (fun c_45 => ?_)
  · exact cut_63_13 I_2 H locs ls hv pf (by omega) hH hS (lv_sub hl [0, 1, 2] rfl)
  · refine lv_aload_n F.1 F.2.1 dX7_bothTold_12 rfl (lv_at hl 1 rfl) ?_
    refine g_getI (ci := 7) (k := 21) F hH rfl (by decide) iX7 hm (by decide) rfl k94 dX7_bothTold_13 ?_
    refine z_iconst F dX7_bothTold_16 ?_
    refine z_icmp_ne (tgt := 63) F dX7_bothTold_17 (by decide) (zr_t _) ⟨by decide, by decide⟩ (fun c_46 => ?_) (fun c_46 => ?_)
    · exact cut_63_13 I_2 H locs ls hv pf (by omega) hH hS (lv_sub hl [0, 1, 2] rfl)
    · refine lv_aload_n F.1 F.2.1 dX7_bothTold_20 rfl (lv_at hl 1 rfl) ?_
      refine g_calli (g_runV (As := []) (rest := []) (ci := 7) F hl.1 hH hS hz (c_X7_isReserved l g gh T I_2 R J_4 AI AJ AR mo hv hm hT) (cwV 0 F.2.2.2.2.1 (good_up gT_X7_isReserved) rfl rfl rfl hdX7_isReserved ⟨Nat.le_of_ble_eq_true rfl, Nat.le_of_ble_eq_true rfl⟩) hm (by decide) rfl rfl rfl (Nat.le_of_ble_eq_true rfl) dX7_bothTold_21 ⟨Nat.zero_le _, Nat.zero_le _⟩) hS (fun v_53 I_47 R_48 J_49 AI_50 AJ_51 AR_52 H locs zv_53 hp_54 hH hS => ?_)
      dsimp only at hp_54
      obtain ⟨rfl, rfl, rfl, rfl, rfl, rfl, q_55⟩ := hp_54
      refine z_if_ne (tgt := 63) F dX7_bothTold_24 (by decide) zv_53 (fun c_56 => ?_) (fun c_56 => ?_)
      · exact cut_63_13 I_2 H locs ls hv pf (by omega) hH hS (lv_sub hl [0, 1, 2] rfl)
      · refine lv_aload_n F.1 F.2.1 dX7_bothTold_27 rfl (lv_at hl 1 rfl) ?_
        refine lv_aload_n F.1 F.2.1 dX7_bothTold_28 rfl (lv_at hl 1 rfl) ?_
        refine g_getJ (ci := 7) (k := 22) F hH rfl (by decide) iX7 hm (by decide) rfl k111 dX7_bothTold_29 ?_
        refine lv_topl (fun j_57 ej_57 => ?_)
        refine g_calli (g_runV (As := [.long j_57]) (rest := []) (ci := 7) F hl.1 hH hS hz (c_X7_named l g gh T I_2 R J_4 AI AJ AR mo j_57 hv hm hT) (cwV 1 F.2.2.2.2.1 (good_up gT_X7_named) rfl rfl rfl hdX7_named ⟨Nat.le_of_ble_eq_true rfl, Nat.le_of_ble_eq_true rfl⟩) hm (by decide) rfl rfl rfl (Nat.le_of_ble_eq_true rfl) dX7_bothTold_32 ⟨Nat.zero_le _, Nat.zero_le _⟩) hS (fun v_64 I_58 R_59 J_60 AI_61 AJ_62 AR_63 H locs zv_64 hp_65 hH hS => ?_)
        dsimp only at hp_65
        obtain ⟨rfl, rfl, rfl, rfl, rfl, rfl, q_66, hn1⟩ := hp_65
        refine z_if_lt (tgt := 63) F dX7_bothTold_35 (by decide) zv_64 (fun c_67 => ?_) (fun c_67 => ?_)
        · exact cut_63_13 I_2 H locs ls hv pf (by omega) hH hS (lv_sub hl [0, 1, 2] rfl)
        · refine lv_aload_n F.1 F.2.1 dX7_bothTold_38 rfl (lv_at hl 1 rfl) ?_
          refine lv_aload_n F.1 F.2.1 dX7_bothTold_39 rfl (lv_at hl 1 rfl) ?_
          refine lv_aload_n F.1 F.2.1 dX7_bothTold_40 rfl (lv_at hl 1 rfl) ?_
          refine g_getJ (ci := 7) (k := 22) F hH rfl (by decide) iX7 hm (by decide) rfl k111 dX7_bothTold_41 ?_
          refine lv_topl (fun j_68 ej_68 => ?_)
          refine g_calli (g_runV (As := [.long j_68]) (rest := [.ref mo]) (ci := 7) F hl.1 hH hS hz (c_X7_named l g gh T I_2 R J_4 AI AJ AR mo j_68 hv hm hT) (cwV 1 F.2.2.2.2.1 (good_up gT_X7_named) rfl rfl rfl hdX7_named ⟨Nat.le_of_ble_eq_true rfl, Nat.le_of_ble_eq_true rfl⟩) hm (by decide) rfl rfl rfl (Nat.le_of_ble_eq_true rfl) dX7_bothTold_44 ⟨Nat.zero_le _, Nat.zero_le _⟩) hS (fun v_75 I_69 R_70 J_71 AI_72 AJ_73 AR_74 H locs zv_75 hp_76 hH hS => ?_)
          dsimp only at hp_76
          obtain ⟨rfl, rfl, rfl, rfl, rfl, rfl, q_77, hn2⟩ := hp_76
          have hge2 : 0 ≤ v_75 := Int.not_lt.mp (fun h => hn2.2 h v_64 (by omega) (by omega) (by rw [ej_68, ← ej_57]; exact hn1.1 (by omega)))
          refine g_calli (g_runV (As := [.int (iI v_75)]) (rest := []) (ci := 7) F hl.1 hH hS hz (c_X7_columns l g gh T I_2 R J_4 AI AJ AR mo v_75 zv_75 hv hm hT (by omega)) (cwV 1 F.2.2.2.2.1 (good_up gT_X7_columns) rfl rfl rfl hdX7_columns ⟨Nat.le_of_ble_eq_true rfl, Nat.le_of_ble_eq_true rfl⟩) hm (by decide) rfl rfl rfl (Nat.le_of_ble_eq_true rfl) dX7_bothTold_47 ⟨Nat.zero_le _, Nat.zero_le _⟩) hS (fun v_84 I_78 R_79 J_80 AI_81 AJ_82 AR_83 H locs zv_84 hp_85 hH hS => ?_)
          dsimp only at hp_85
          obtain ⟨rfl, rfl, rfl, rfl, rfl, rfl, q_86⟩ := hp_85
          refine lv_aload_n F.1 F.2.1 dX7_bothTold_50 rfl (lv_at hl 1 rfl) ?_
          refine lv_iload_n F.1 F.2.1 dX7_bothTold_51 rfl (lv_at hl 0 rfl) ?_
          refine g_calli (g_runV (As := [.int (iI v_8)]) (rest := [.int (iI v_84)]) (ci := 7) F hl.1 hH hS hz (c_X7_columns l g gh T I_2 R J_4 AI AJ AR mo v_8 zv_8 hv hm hT (by omega)) (cwV 1 F.2.2.2.2.1 (good_up gT_X7_columns) rfl rfl rfl hdX7_columns ⟨Nat.le_of_ble_eq_true rfl, Nat.le_of_ble_eq_true rfl⟩) hm (by decide) rfl rfl rfl (Nat.le_of_ble_eq_true rfl) dX7_bothTold_52 ⟨Nat.zero_le _, Nat.zero_le _⟩) hS (fun v_93 I_87 R_88 J_89 AI_90 AJ_91 AR_92 H locs zv_93 hp_94 hH hS => ?_)
          dsimp only at hp_94
          obtain ⟨rfl, rfl, rfl, rfl, rfl, rfl, q_95⟩ := hp_94
          refine z_icmp_eq (tgt := 63) F dX7_bothTold_55 (by decide) zv_84 zv_93 (fun c_96 => ?_) (fun c_96 => ?_)
          · exact cut_63_13 I_2 H locs ls hv pf (by omega) hH hS (lv_sub hl [0, 1, 2] rfl)
          · refine lv_aload_n F.1 F.2.1 dX7_bothTold_58 rfl (lv_at hl 1 rfl) ?_
            refine z_iconst F dX7_bothTold_59 ?_
            refine g_callv (g_runV (As := [.int (iI 5)]) (rest := []) (ci := 7) F hl.1 hH hS hz (c_X7_wrong l g gh T I_2 R J_4 AI AJ AR mo 5 ⟨by decide, by decide⟩ hv hm hT (by omega)) (cwV 1 F.2.2.2.2.1 (good_up gT_X7_wrong) rfl rfl rfl hdX7_wrong ⟨Nat.le_of_ble_eq_true rfl, Nat.le_of_ble_eq_true rfl⟩) hm (by decide) rfl rfl rfl (Nat.le_of_ble_eq_true rfl) dX7_bothTold_60 ⟨Nat.zero_le _, Nat.zero_le _⟩) hS (fun I_97 R_98 J_99 AI_100 AJ_101 AR_102 H locs hp_103 hH hS => ?_)
            dsimp only at hp_103
            obtain ⟨rfl, rfl, rfl, rfl, rfl, hv, pfq, q_104⟩ := hp_103
            have pf := qF_t pf pfq
            have u_105_2 : (I_97 mo 2).toInt = (I mo 2).toInt := by rw [pf 2 (by decide) (by decide) (by decide) (by decide) (by decide)]
            have u_105_5 : (I_97 mo 5).toInt = (I mo 5).toInt := by rw [pf 5 (by decide) (by decide) (by decide) (by decide) (by decide)]
            have u_105_14 : (I_97 mo 14).toInt = (I mo 14).toInt := by rw [pf 14 (by decide) (by decide) (by decide) (by decide) (by decide)]
            have u_105_16 : (I_97 mo 16).toInt = (I mo 16).toInt := by rw [pf 16 (by decide) (by decide) (by decide) (by decide) (by decide)]
            have u_105_18 : (I_97 mo 18).toInt = (I mo 18).toInt := by rw [pf 18 (by decide) (by decide) (by decide) (by decide) (by decide)]
            exact cut_63_13 I_97 H locs ls hv pf (by omega) hH hS (lv_sub hl [0, 1, 2] rfl)
