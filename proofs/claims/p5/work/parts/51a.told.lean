theorem kind0_step {f f' : Nat → Int32} {M cl one oth ps : Int} (hM : 0 ≤ M) (h : ∀ r : Int, 0 ≤ r → r < M → tI f (40 * r) = 0) (hp : hP f f' M 0 cl one oth ps) : ∀ r : Int, 0 ≤ r → r < M + 1 → tI f' (40 * r) = 0 := fun r h0 h1 => by
  by_cases q : r = M
  · rw [q]; exact hp.2.1
  · rw [hp.1 _ (by omega) (by omega)]; exact h r h0 (by omega)
theorem mCp {g : gG} {gh : gGh} {R : gR} {I AI AI' : gI} {m : Nat} {i v : Int} (hv : mInv g gh R I AI) (hm : gO g m 7) (h0 : 0 ≤ i) (e : AI' = gup2 AI (gh 50 0) i.toNat (iI v)) (ev : v = (AI (gh 53 0) i.toNat).toInt)
    (h : ∀ y : Int, 0 ≤ y → y < i → tI (AI (gh 50 0)) y = tI (AI (gh 53 0)) y) : ∀ y : Int, 0 ≤ y → y < i + 1 → tI (AI' (gh 50 0)) y = tI (AI' (gh 53 0)) y := fun y a b => by
  have e3 : AI' (gh 53 0) = AI (gh 53 0) := mK hv hm (p := (3, 640)) (q := (0, 640)) (by decide) (by decide) (by decide) (fun b hb => by rw [e]; exact funext fun j => gup2_a _ _ hb)
  rw [e3, e]
  by_cases q : y = i
  · rw [q, ev]; unfold tI; rw [gup2_s, iI_self]
  · rw [tI_k h0 a q]; exact h y a (by omega)
def rmX7_tableTold : Room := { frames := 8, cells := 0, slots := 0, locals := 169 }
theorem hdX7_tableTold : yX7_tableTold.cls = RX7 ∧ yX7_tableTold.cls ≠ "java/lang/invoke/MethodHandle" ∧ yX7_tableTold.cls ≠ "java/lang/invoke/VarHandle" ∧ (parseMethodDescriptor yX7_tableTold.desc).map (fun d => d.parameters.length) = some 1 := by decide +kernel
set_option maxHeartbeats 4000000 in
set_option maxRecDepth 100000 in
/-- a table told -/
theorem c_X7_tableTold (l : Launch) (g : gG) (gh : gGh) (T : Nat → Int32) (M : Int) (I : gI) (R : gR) (J : gJ) (AI : gI) (AJ : gJ) (AR : gR) (mo : Nat) (bh : Int) (zbh : zr bh) (hv : mInv g gh R I AI) (hm : gO g mo 7) (hT : AI (gh 50 0) = T) (hE : (I mo 20).toInt ≤ 936) (hMM : (I mo 5).toInt = M) (hbh : bh = 0 ∨ bh = 1) (htb : bh = 0 → ∀ r : Int, 0 ≤ r → r < M → tI (AI (gh 53 0)) (40 * r) = 0) : gMet l g yX7_tableTold tsX7_tableTold rmX7_tableTold [.ref mo, .int (iI bh)] (I, R, J, AI, AJ, AR) (gQv g (fun w : gS => R = w.2.1 ∧ AR = w.2.2.2.2.2 ∧ (mInv g gh R (w.1) (w.2.2.2.1)) ∧ ((w.2.2.2.1) (gh 50 0) = T) ∧ (qF mo I (w.1)) ∧ (((w.1) mo 20).toInt ≤ 936 ∧ (I mo 24).toInt ≤ ((w.1) mo 24).toInt) ∧ (((w.1) mo 24).toInt = 0 → ((w.1) mo 21).toInt = 4 → ((w.1) mo 23).toInt = 59 → rowOK ((w.2.2.2.1) (gh 53 0)) M) ∧ (((w.1) mo 24).toInt = 0 → M ≤ 15 ∧ bh = 0 ∧ ∀ r : Int, 0 ≤ r → r < M + 1 → tI ((w.2.2.2.1) (gh 53 0)) (40 * r) = 0))) := by
  refine gStart (cc := cX7_tableTold) (maxL := 3) (ret := none) (by decide) rfl (Nat.le_of_ble_eq_true rfl) ?_
  intro p e s m below meth c ls F hr hlk hH hz hS hl
  have hl : lv_has ls 3 [(0, .ref mo), (1, .int (iI bh))] := hl
  have hS : va_S (gA g) s.heap s.heap [] := hS
  obtain ⟨H, hHe⟩ : ∃ H : Heap, H = s.heap := ⟨_, rfl⟩
  obtain ⟨locs, hlo⟩ : ∃ k : List Loc, k = [] := ⟨_, rfl⟩
  have hH : gH g I R J AI AJ AR H := by rw [hHe]; exact hH
  have hS : va_S (gA g) s.heap H locs := by rw [hHe, hlo]; exact hS
  suffices hw : W p l e rmX7_tableTold s m ([.ref mo, .int (iI bh)] : List Value).toArray below meth c H locs 0 0 (MQ below (gQv g (fun w : gS => R = w.2.1 ∧ AR = w.2.2.2.2.2 ∧ (mInv g gh R (w.1) (w.2.2.2.1)) ∧ ((w.2.2.2.1) (gh 50 0) = T) ∧ (qF mo I (w.1)) ∧ (((w.1) mo 20).toInt ≤ 936 ∧ (I mo 24).toInt ≤ ((w.1) mo 24).toInt) ∧ (((w.1) mo 24).toInt = 0 → ((w.1) mo 21).toInt = 4 → ((w.1) mo 23).toInt = 59 → rowOK ((w.2.2.2.1) (gh 53 0)) M) ∧ (((w.1) mo 24).toInt = 0 → M ≤ 15 ∧ bh = 0 ∧ ∀ r : Int, 0 ≤ r → r < M + 1 → tI ((w.2.2.2.1) (gh 53 0)) (40 * r) = 0))) ([.ref mo, .int (iI bh)] : List Value).toArray s 0 0 (gA g)) (F0 m 0 ls []) by
    rw [hHe, hlo] at hw; exact hw
  clear hHe hlo
  have pf : qF mo I I := qF_r
  have hb0 := mJ hv hm
  unfold mNum1 at hb0
  have iX7 : ∀ w ∈ u_ws RX7 TX7 32, w ∈ tsX7_tableTold := fun w h => List.mem_cons_of_mem _ (inTB7 w h)
  have k184 : Cond.fieldLink RX7 184 (TX7 5).1 (TX7 5).2.1 (TX7 5).2.2.1 ∈ tsX7_tableTold := List.mem_cons_of_mem _ fl_184
  have k81 : Cond.fieldLink RX7 81 (TX7 24).1 (TX7 24).2.1 (TX7 24).2.2.1 ∈ tsX7_tableTold := List.mem_cons_of_mem _ fl_81
  have k94 : Cond.fieldLink RX7 94 (TX7 21).1 (TX7 21).2.1 (TX7 21).2.2.1 ∈ tsX7_tableTold := List.mem_cons_of_mem _ fl_94
  have k97 : Cond.fieldLink RX7 97 (TX7 23).1 (TX7 23).2.1 (TX7 23).2.2.1 ∈ tsX7_tableTold := List.mem_cons_of_mem _ fl_97
  have cut_14_1 : ∀ (I_1 : gI) (H : Heap) (locs : List Loc) (ls : Array Slot), (mInv g gh R I_1 AI) → (qF mo I I_1) → ((I_1 mo 20).toInt ≤ 936 ∧ (I mo 24).toInt ≤ (I_1 mo 24).toInt ∧ ((I_1 mo 24).toInt = 0 → M ≤ 15)) → gH g I_1 R J AI AJ AR H → va_S (gA g) s.heap H locs → lv_has ls 3 [(0, .ref mo), (1, .int (iI bh))] → W p l e rmX7_tableTold s m ([.ref mo, .int (iI bh)] : List Value).toArray below meth c H locs 0 0 (MQ below (gQv g (fun w : gS => R = w.2.1 ∧ AR = w.2.2.2.2.2 ∧ (mInv g gh R (w.1) (w.2.2.2.1)) ∧ ((w.2.2.2.1) (gh 50 0) = T) ∧ (qF mo I (w.1)) ∧ (((w.1) mo 20).toInt ≤ 936 ∧ (I mo 24).toInt ≤ ((w.1) mo 24).toInt) ∧ (((w.1) mo 24).toInt = 0 → ((w.1) mo 21).toInt = 4 → ((w.1) mo 23).toInt = 59 → rowOK ((w.2.2.2.1) (gh 53 0)) M) ∧ (((w.1) mo 24).toInt = 0 → M ≤ 15 ∧ bh = 0 ∧ ∀ r : Int, 0 ≤ r → r < M + 1 → tI ((w.2.2.2.1) (gh 53 0)) (40 * r) = 0))) ([.ref mo, .int (iI bh)] : List Value).toArray s 0 0 (gA g)) (F0 m 14 ls []) := by
    intro I_1 H locs ls hv pf hj0 hH hS hl
    have uc_2 : (I_1 mo 2).toInt = (I mo 2).toInt := by rw [pf 2 (by decide) (by decide) (by decide) (by decide) (by decide)]
    have uc_5 : (I_1 mo 5).toInt = (I mo 5).toInt := by rw [pf 5 (by decide) (by decide) (by decide) (by decide) (by decide)]
    have uc_14 : (I_1 mo 14).toInt = (I mo 14).toInt := by rw [pf 14 (by decide) (by decide) (by decide) (by decide) (by decide)]
    have uc_16 : (I_1 mo 16).toInt = (I mo 16).toInt := by rw [pf 16 (by decide) (by decide) (by decide) (by decide) (by decide)]
    have uc_18 : (I_1 mo 18).toInt = (I mo 18).toInt := by rw [pf 18 (by decide) (by decide) (by decide) (by decide) (by decide)]
    have cut_24_3 : ∀ (I_3 : gI) (H : Heap) (locs : List Loc) (ls : Array Slot), (mInv g gh R I_3 AI) → (qF mo I I_3) → ((I_3 mo 20).toInt ≤ 936 ∧ (I mo 24).toInt ≤ (I_3 mo 24).toInt ∧ ((I_3 mo 24).toInt = 0 → M ≤ 15 ∧ bh = 0)) → gH g I_3 R J AI AJ AR H → va_S (gA g) s.heap H locs → lv_has ls 3 [(0, .ref mo), (1, .int (iI bh))] → W p l e rmX7_tableTold s m ([.ref mo, .int (iI bh)] : List Value).toArray below meth c H locs 0 0 (MQ below (gQv g (fun w : gS => R = w.2.1 ∧ AR = w.2.2.2.2.2 ∧ (mInv g gh R (w.1) (w.2.2.2.1)) ∧ ((w.2.2.2.1) (gh 50 0) = T) ∧ (qF mo I (w.1)) ∧ (((w.1) mo 20).toInt ≤ 936 ∧ (I mo 24).toInt ≤ ((w.1) mo 24).toInt) ∧ (((w.1) mo 24).toInt = 0 → ((w.1) mo 21).toInt = 4 → ((w.1) mo 23).toInt = 59 → rowOK ((w.2.2.2.1) (gh 53 0)) M) ∧ (((w.1) mo 24).toInt = 0 → M ≤ 15 ∧ bh = 0 ∧ ∀ r : Int, 0 ≤ r → r < M + 1 → tI ((w.2.2.2.1) (gh 53 0)) (40 * r) = 0))) ([.ref mo, .int (iI bh)] : List Value).toArray s 0 0 (gA g)) (F0 m 24 ls []) := by
      intro I_3 H locs ls hv pf hj14 hH hS hl
      have uc_2 : (I_3 mo 2).toInt = (I mo 2).toInt := by rw [pf 2 (by decide) (by decide) (by decide) (by decide) (by decide)]
      have uc_5 : (I_3 mo 5).toInt = (I mo 5).toInt := by rw [pf 5 (by decide) (by decide) (by decide) (by decide) (by decide)]
      have uc_14 : (I_3 mo 14).toInt = (I mo 14).toInt := by rw [pf 14 (by decide) (by decide) (by decide) (by decide) (by decide)]
      have uc_16 : (I_3 mo 16).toInt = (I mo 16).toInt := by rw [pf 16 (by decide) (by decide) (by decide) (by decide) (by decide)]
      have uc_18 : (I_3 mo 18).toInt = (I mo 18).toInt := by rw [pf 18 (by decide) (by decide) (by decide) (by decide) (by decide)]
      refine lv_aload_n F.1 F.2.1 dX7_tableTold_24 rfl (lv_at hl 0 rfl) ?_
      have b_5 := mJ hv hm
      unfold mNum1 at b_5
      refine g_callv (g_runV (As := []) (rest := []) (ci := 7) F hl.1 hH hS hz (c_X7_next l g gh T I_3 R J AI AJ AR mo hv hm hT (by omega)) (cwV 0 F.2.2.2.2.1 (good_up gT_X7_next) rfl rfl rfl hdX7_next ⟨Nat.le_of_ble_eq_true rfl, Nat.le_of_ble_eq_true rfl⟩) hm (by decide) rfl rfl rfl (Nat.le_of_ble_eq_true rfl) dX7_tableTold_25 ⟨Nat.zero_le _, Nat.zero_le _⟩) hS (fun I_6 R_7 J_8 AI_9 AJ_10 AR_11 H locs hp_12 hH hS => ?_)
      dsimp only at hp_12
      obtain ⟨rfl, rfl, rfl, rfl, hv, pfq, q_13, q_14⟩ := hp_12
      have pf := qF_t pf pfq
      have u_15_2 : (I_6 mo 2).toInt = (I mo 2).toInt := by rw [pf 2 (by decide) (by decide) (by decide) (by decide) (by decide)]
      have u_15_5 : (I_6 mo 5).toInt = (I mo 5).toInt := by rw [pf 5 (by decide) (by decide) (by decide) (by decide) (by decide)]
      have u_15_14 : (I_6 mo 14).toInt = (I mo 14).toInt := by rw [pf 14 (by decide) (by decide) (by decide) (by decide) (by decide)]
      have u_15_16 : (I_6 mo 16).toInt = (I mo 16).toInt := by rw [pf 16 (by decide) (by decide) (by decide) (by decide) (by decide)]
      have u_15_18 : (I_6 mo 18).toInt = (I mo 18).toInt := by rw [pf 18 (by decide) (by decide) (by decide) (by decide) (by decide)]
      refine lv_aload_n F.1 F.2.1 dX7_tableTold_28 rfl (lv_at hl 0 rfl) ?_
      have b_16 := mJ hv hm
      unfold mNum1 at b_16
      refine g_callv (g_runV (As := []) (rest := []) (ci := 7) F hl.1 hH hS hz (c_X7_newName l g gh T I_6 R J_8 AI AJ AR mo hv hm hT (by omega) (by omega)) (cwV 0 F.2.2.2.2.1 (good_up gT_X7_newName) rfl rfl rfl hdX7_newName ⟨Nat.le_of_ble_eq_true rfl, Nat.le_of_ble_eq_true rfl⟩) hm (by decide) rfl rfl rfl (Nat.le_of_ble_eq_true rfl) dX7_tableTold_29 ⟨Nat.zero_le _, Nat.zero_le _⟩) hS (fun I_17 R_18 J_19 AI_20 AJ_21 AR_22 H locs hp_23 hH hS => ?_)
      dsimp only at hp_23
      obtain ⟨rfl, rfl, rfl, hv, pfq, q_24⟩ := hp_23
      have pf := qF_t pf pfq
      have u_25_2 : (I_17 mo 2).toInt = (I mo 2).toInt := by rw [pf 2 (by decide) (by decide) (by decide) (by decide) (by decide)]
      have u_25_5 : (I_17 mo 5).toInt = (I mo 5).toInt := by rw [pf 5 (by decide) (by decide) (by decide) (by decide) (by decide)]
      have u_25_14 : (I_17 mo 14).toInt = (I mo 14).toInt := by rw [pf 14 (by decide) (by decide) (by decide) (by decide) (by decide)]
      have u_25_16 : (I_17 mo 16).toInt = (I mo 16).toInt := by rw [pf 16 (by decide) (by decide) (by decide) (by decide) (by decide)]
      have u_25_18 : (I_17 mo 18).toInt = (I mo 18).toInt := by rw [pf 18 (by decide) (by decide) (by decide) (by decide) (by decide)]
      have cut_64_26 : ∀ (I_26 : gI) (H : Heap) (locs : List Loc) (ls : Array Slot), (mInv g gh R I_26 AI) → (qF mo I I_26) → ((I_26 mo 20).toInt ≤ 936 ∧ (I mo 24).toInt ≤ (I_26 mo 24).toInt ∧ ((I_26 mo 24).toInt = 0 → M ≤ 15 ∧ bh = 0) ∧ ((I_26 mo 24).toInt = 0 → (I_26 mo 21).toInt = 3 → 1 ≤ (I_26 mo 23).toInt ∧ (I_26 mo 23).toInt ≤ 4)) → gH g I_26 R J_19 AI AJ_21 AR H → va_S (gA g) s.heap H locs → lv_has ls 3 [(0, .ref mo), (1, .int (iI bh))] → W p l e rmX7_tableTold s m ([.ref mo, .int (iI bh)] : List Value).toArray below meth c H locs 0 0 (MQ below (gQv g (fun w : gS => R = w.2.1 ∧ AR = w.2.2.2.2.2 ∧ (mInv g gh R (w.1) (w.2.2.2.1)) ∧ ((w.2.2.2.1) (gh 50 0) = T) ∧ (qF mo I (w.1)) ∧ (((w.1) mo 20).toInt ≤ 936 ∧ (I mo 24).toInt ≤ ((w.1) mo 24).toInt) ∧ (((w.1) mo 24).toInt = 0 → ((w.1) mo 21).toInt = 4 → ((w.1) mo 23).toInt = 59 → rowOK ((w.2.2.2.1) (gh 53 0)) M) ∧ (((w.1) mo 24).toInt = 0 → M ≤ 15 ∧ bh = 0 ∧ ∀ r : Int, 0 ≤ r → r < M + 1 → tI ((w.2.2.2.1) (gh 53 0)) (40 * r) = 0))) ([.ref mo, .int (iI bh)] : List Value).toArray s 0 0 (gA g)) (F0 m 64 ls []) := by
        intro I_26 H locs ls hv pf hj32 hH hS hl
        have uc_2 : (I_26 mo 2).toInt = (I mo 2).toInt := by rw [pf 2 (by decide) (by decide) (by decide) (by decide) (by decide)]
        have uc_5 : (I_26 mo 5).toInt = (I mo 5).toInt := by rw [pf 5 (by decide) (by decide) (by decide) (by decide) (by decide)]
        have uc_14 : (I_26 mo 14).toInt = (I mo 14).toInt := by rw [pf 14 (by decide) (by decide) (by decide) (by decide) (by decide)]
        have uc_16 : (I_26 mo 16).toInt = (I mo 16).toInt := by rw [pf 16 (by decide) (by decide) (by decide) (by decide) (by decide)]
        have uc_18 : (I_26 mo 18).toInt = (I mo 18).toInt := by rw [pf 18 (by decide) (by decide) (by decide) (by decide) (by decide)]
        refine lv_aload_n F.1 F.2.1 dX7_tableTold_64 rfl (lv_at hl 0 rfl) ?_
        have b_28 := mJ hv hm
        unfold mNum1 at b_28
        refine g_calli (g_runV (As := []) (rest := []) (ci := 7) F hl.1 hH hS hz (c_X7_numberTold l g gh T I_26 R J_19 AI AJ_21 AR mo hv hm hT (by omega)) (cwV 0 F.2.2.2.2.1 (good_up gT_X7_numberTold) rfl rfl rfl hdX7_numberTold ⟨Nat.le_of_ble_eq_true rfl, Nat.le_of_ble_eq_true rfl⟩) hm (by decide) rfl rfl rfl (Nat.le_of_ble_eq_true rfl) dX7_tableTold_65 ⟨Nat.zero_le _, Nat.zero_le _⟩) hS (fun v_35 I_29 R_30 J_31 AI_32 AJ_33 AR_34 H locs zv_35 hp_36 hH hS => ?_)
        dsimp only at hp_36
        obtain ⟨rfl, rfl, rfl, rfl, hv, pfq, q_37, q_38⟩ := hp_36
        have pf := qF_t pf pfq
        have u_39_2 : (I_29 mo 2).toInt = (I mo 2).toInt := by rw [pf 2 (by decide) (by decide) (by decide) (by decide) (by decide)]
        have u_39_5 : (I_29 mo 5).toInt = (I mo 5).toInt := by rw [pf 5 (by decide) (by decide) (by decide) (by decide) (by decide)]
        have u_39_14 : (I_29 mo 14).toInt = (I mo 14).toInt := by rw [pf 14 (by decide) (by decide) (by decide) (by decide) (by decide)]
        have u_39_16 : (I_29 mo 16).toInt = (I mo 16).toInt := by rw [pf 16 (by decide) (by decide) (by decide) (by decide) (by decide)]
        have u_39_18 : (I_29 mo 18).toInt = (I mo 18).toInt := by rw [pf 18 (by decide) (by decide) (by decide) (by decide) (by decide)]
        refine lv_istore_n (lv' := [(2, .int (iI v_35)), (0, .ref mo), (1, .int (iI bh))]) F.1 F.2.1 dX7_tableTold_68 rfl hl (by decide) rfl (fun ls hl => ?_)
        refine lv_aload_n F.1 F.2.1 dX7_tableTold_69 rfl (lv_at hl 1 rfl) ?_
        refine z_iconst F dX7_tableTold_70 ?_
        refine lv_iload_n F.1 F.2.1 dX7_tableTold_71 rfl (lv_at hl 0 rfl) ?_
        refine z_iconst F dX7_tableTold_72 ?_
        refine z_iconst F dX7_tableTold_73 ?_
        refine z_iconst F dX7_tableTold_74 ?_
        have b_40 := mJ hv hm
        unfold mNum1 at b_40
        refine g_callv (g_runV (As := [.int (iI 0), .int (iI v_35), .int (iI ((-1))), .int (iI ((-1))), .int (iI 0)]) (rest := []) (ci := 7) F hl.1 hH hS hz (c_X7_header l g gh T M I_29 R J_31 AI AJ_21 AR mo 0 v_35 (-1) (-1) 0 ⟨by decide, by decide⟩ zv_35 ⟨by decide, by decide⟩ ⟨by decide, by decide⟩ ⟨by decide, by decide⟩ hv hm hT (by omega) (by omega)) (cwV 5 F.2.2.2.2.1 (good_up gT_X7_header) rfl rfl rfl hdX7_header ⟨Nat.le_of_ble_eq_true rfl, Nat.le_of_ble_eq_true rfl⟩) hm (by decide) rfl rfl rfl (Nat.le_of_ble_eq_true rfl) dX7_tableTold_75 ⟨Nat.zero_le _, Nat.zero_le _⟩) hS (fun I_41 R_42 J_43 AI_44 AJ_45 AR_46 H locs hp_47 hH hS => ?_)
        dsimp only at hp_47
        obtain ⟨rfl, rfl, rfl, rfl, rfl, hv, hT, hhd⟩ := hp_47
        exact g_vret F hr hlk hH hS hz ⟨rfl, rfl, hv, hT, pf, by first | omega | rfl | (dsimp only; omega), by (try dsimp only); intro hf ht hn; exact row_mk (by omega) (hhd (by omega)) (by omega) (by omega) (fun h => absurd rfl h) (by omega) (fun _ h => htb (by omega) (M - 1) (by omega) (by omega)) (fun h => absurd h (by decide)) (fun h => absurd h (by decide)) (fun h => absurd h (by decide)) (fun h => absurd h (by decide)) (fun h => absurd h (by decide)) (fun h => absurd h (by decide)), by (try dsimp only); intro hf; exact ⟨by omega, by omega, kind0_step (by omega) (htb (by omega)) (hhd (by omega))⟩⟩ dX7_tableTold_78
      refine lv_aload_n F.1 F.2.1 dX7_tableTold_32 rfl (lv_at hl 0 rfl) ?_
      refine g_getI (ci := 7) (k := 24) F hH rfl (by decide) iX7 hm (by decide) rfl k81 dX7_tableTold_33 ?_
      have b_48 := mJ hv hm
      unfold mNum1 at b_48
      refine z_if_ne (tgt := 64) F dX7_tableTold_36 (by decide) (zr_t _) (fun c_49 => ?_) (fun c_49 => ?_)
      · exact cut_64_26 I_17 H locs ls hv pf (by omega) hH hS (lv_sub hl [0, 1] rfl)
      · refine lv_aload_n F.1 F.2.1 dX7_tableTold_39 rfl (lv_at hl 0 rfl) ?_
        refine g_getI (ci := 7) (k := 21) F hH rfl (by decide) iX7 hm (by decide) rfl k94 dX7_tableTold_40 ?_
        refine z_iconst F dX7_tableTold_43 ?_
        refine z_icmp_ne (tgt := 64) F dX7_tableTold_44 (by decide) (zr_t _) ⟨by decide, by decide⟩ (fun c_50 => ?_) (fun c_50 => ?_)
        · exact cut_64_26 I_17 H locs ls hv pf (by omega) hH hS (lv_sub hl [0, 1] rfl)
        · refine lv_aload_n F.1 F.2.1 dX7_tableTold_47 rfl (lv_at hl 0 rfl) ?_
          refine g_getI (ci := 7) (k := 23) F hH rfl (by decide) iX7 hm (by decide) rfl k97 dX7_tableTold_48 ?_
          refine z_iconst F dX7_tableTold_51 ?_
          refine z_iconst F dX7_tableTold_52 ?_
          refine g_calli (g_runS (As := [.int (iI ((I_17 mo 23).toInt)), .int (iI 1), .int (iI 4)]) (rest := []) F hl.1 hH hS hz (c_X7_within l g  I_17 R J_19 AI AJ_21 AR ((I_17 mo 23).toInt) 1 4 (zr_t _) ⟨by decide, by decide⟩ ⟨by decide, by decide⟩) (va_cwS 3 F.2.2.2.2.1 (good_up gT_X7_within) rfl rfl rfl hdX7_within.2 ⟨Nat.le_of_ble_eq_true rfl, Nat.le_of_ble_eq_true rfl⟩) rfl rfl (Nat.le_of_ble_eq_true rfl) dX7_tableTold_53 ⟨Nat.zero_le _, Nat.zero_le _⟩) hS (fun v_57 I_51 R_52 J_53 AI_54 AJ_55 AR_56 H locs zv_57 hp_58 hH hS => ?_)
          dsimp only at hp_58
          obtain ⟨rfl, rfl, rfl, rfl, rfl, rfl, q_59⟩ := hp_58
          refine z_if_ne (tgt := 64) F dX7_tableTold_56 (by decide) zv_57 (fun c_60 => ?_) (fun c_60 => ?_)
          · exact cut_64_26 I_17 H locs ls hv pf (by omega) hH hS (lv_sub hl [0, 1] rfl)
          · refine lv_aload_n F.1 F.2.1 dX7_tableTold_59 rfl (lv_at hl 0 rfl) ?_
            refine z_iconst F dX7_tableTold_60 ?_
            refine g_callv (g_runV (As := [.int (iI 2)]) (rest := []) (ci := 7) F hl.1 hH hS hz (c_X7_wrong l g gh T I_17 R J_19 AI AJ_21 AR mo 2 ⟨by decide, by decide⟩ hv hm hT (by omega)) (cwV 1 F.2.2.2.2.1 (good_up gT_X7_wrong) rfl rfl rfl hdX7_wrong ⟨Nat.le_of_ble_eq_true rfl, Nat.le_of_ble_eq_true rfl⟩) hm (by decide) rfl rfl rfl (Nat.le_of_ble_eq_true rfl) dX7_tableTold_61 ⟨Nat.zero_le _, Nat.zero_le _⟩) hS (fun I_61 R_62 J_63 AI_64 AJ_65 AR_66 H locs hp_67 hH hS => ?_)
            dsimp only at hp_67
            obtain ⟨rfl, rfl, rfl, rfl, rfl, hv, pfq, q_68⟩ := hp_67
            have pf := qF_t pf pfq
            have u_69_2 : (I_61 mo 2).toInt = (I mo 2).toInt := by rw [pf 2 (by decide) (by decide) (by decide) (by decide) (by decide)]
            have u_69_5 : (I_61 mo 5).toInt = (I mo 5).toInt := by rw [pf 5 (by decide) (by decide) (by decide) (by decide) (by decide)]
            have u_69_14 : (I_61 mo 14).toInt = (I mo 14).toInt := by rw [pf 14 (by decide) (by decide) (by decide) (by decide) (by decide)]
            have u_69_16 : (I_61 mo 16).toInt = (I mo 16).toInt := by rw [pf 16 (by decide) (by decide) (by decide) (by decide) (by decide)]
            have u_69_18 : (I_61 mo 18).toInt = (I mo 18).toInt := by rw [pf 18 (by decide) (by decide) (by decide) (by decide) (by decide)]
            exact cut_64_26 I_61 H locs ls hv pf (by omega) hH hS (lv_sub hl [0, 1] rfl)
    refine lv_iload_n F.1 F.2.1 dX7_tableTold_14 rfl (lv_at hl 1 rfl) ?_
    refine z_if_eq (tgt := 24) F dX7_tableTold_15 (by decide) zbh (fun c_70 => ?_) (fun c_70 => ?_)
    · exact cut_24_3 I_1 H locs ls hv pf (by omega) hH hS (lv_sub hl [0, 1] rfl)
    · refine lv_aload_n F.1 F.2.1 dX7_tableTold_18 rfl (lv_at hl 0 rfl) ?_
      refine z_bipush F dX7_tableTold_19 (by decide) ?_
      have b_71 := mJ hv hm
      unfold mNum1 at b_71
      refine g_callv (g_runV (As := [.int (iI 6)]) (rest := []) (ci := 7) F hl.1 hH hS hz (c_X7_wrong l g gh T I_1 R J AI AJ AR mo 6 ⟨by decide, by decide⟩ hv hm hT (by omega)) (cwV 1 F.2.2.2.2.1 (good_up gT_X7_wrong) rfl rfl rfl hdX7_wrong ⟨Nat.le_of_ble_eq_true rfl, Nat.le_of_ble_eq_true rfl⟩) hm (by decide) rfl rfl rfl (Nat.le_of_ble_eq_true rfl) dX7_tableTold_21 ⟨Nat.zero_le _, Nat.zero_le _⟩) hS (fun I_72 R_73 J_74 AI_75 AJ_76 AR_77 H locs hp_78 hH hS => ?_)
      dsimp only at hp_78
      obtain ⟨rfl, rfl, rfl, rfl, rfl, hv, pfq, q_79⟩ := hp_78
      have pf := qF_t pf pfq
      have u_80_2 : (I_72 mo 2).toInt = (I mo 2).toInt := by rw [pf 2 (by decide) (by decide) (by decide) (by decide) (by decide)]
      have u_80_5 : (I_72 mo 5).toInt = (I mo 5).toInt := by rw [pf 5 (by decide) (by decide) (by decide) (by decide) (by decide)]
      have u_80_14 : (I_72 mo 14).toInt = (I mo 14).toInt := by rw [pf 14 (by decide) (by decide) (by decide) (by decide) (by decide)]
      have u_80_16 : (I_72 mo 16).toInt = (I mo 16).toInt := by rw [pf 16 (by decide) (by decide) (by decide) (by decide) (by decide)]
      have u_80_18 : (I_72 mo 18).toInt = (I mo 18).toInt := by rw [pf 18 (by decide) (by decide) (by decide) (by decide) (by decide)]
      exact cut_24_3 I_72 H locs ls hv pf (by omega) hH hS (lv_sub hl [0, 1] rfl)
  refine lv_aload_n F.1 F.2.1 dX7_tableTold_0 rfl (lv_at hl 0 rfl) ?_
  refine g_getI (ci := 7) (k := 5) F hH rfl (by decide) iX7 hm (by decide) rfl k184 dX7_tableTold_1 ?_
  have b_81 := mJ hv hm
  unfold mNum1 at b_81
  refine z_bipush F dX7_tableTold_4 (by decide) ?_
  refine z_icmp_ne (tgt := 14) F dX7_tableTold_6 (by decide) (zr_t _) ⟨by decide, by decide⟩ (fun c_82 => ?_) (fun c_82 => ?_)
  · exact cut_14_1 I H locs ls hv pf (by omega) hH hS (lv_sub hl [0, 1] rfl)
  · refine lv_aload_n F.1 F.2.1 dX7_tableTold_9 rfl (lv_at hl 0 rfl) ?_
    refine z_iconst F dX7_tableTold_10 ?_
    refine g_callv (g_runV (As := [.int (iI 4)]) (rest := []) (ci := 7) F hl.1 hH hS hz (c_X7_wrong l g gh T I R J AI AJ AR mo 4 ⟨by decide, by decide⟩ hv hm hT (by omega)) (cwV 1 F.2.2.2.2.1 (good_up gT_X7_wrong) rfl rfl rfl hdX7_wrong ⟨Nat.le_of_ble_eq_true rfl, Nat.le_of_ble_eq_true rfl⟩) hm (by decide) rfl rfl rfl (Nat.le_of_ble_eq_true rfl) dX7_tableTold_11 ⟨Nat.zero_le _, Nat.zero_le _⟩) hS (fun I_83 R_84 J_85 AI_86 AJ_87 AR_88 H locs hp_89 hH hS => ?_)
    dsimp only at hp_89
    obtain ⟨rfl, rfl, rfl, rfl, rfl, hv, pfq, q_90⟩ := hp_89
    have pf := qF_t pf pfq
    have u_91_2 : (I_83 mo 2).toInt = (I mo 2).toInt := by rw [pf 2 (by decide) (by decide) (by decide) (by decide) (by decide)]
    have u_91_5 : (I_83 mo 5).toInt = (I mo 5).toInt := by rw [pf 5 (by decide) (by decide) (by decide) (by decide) (by decide)]
    have u_91_14 : (I_83 mo 14).toInt = (I mo 14).toInt := by rw [pf 14 (by decide) (by decide) (by decide) (by decide) (by decide)]
    have u_91_16 : (I_83 mo 16).toInt = (I mo 16).toInt := by rw [pf 16 (by decide) (by decide) (by decide) (by decide) (by decide)]
    have u_91_18 : (I_83 mo 18).toInt = (I mo 18).toInt := by rw [pf 18 (by decide) (by decide) (by decide) (by decide) (by decide)]
    exact cut_14_1 I_83 H locs ls hv pf (by omega) hH hS (lv_sub hl [0, 1] rfl)

def rmX7_viewTold : Room := { frames := 9, cells := 0, slots := 0, locals := 197 }
theorem hdX7_viewTold : yX7_viewTold.cls = RX7 ∧ yX7_viewTold.cls ≠ "java/lang/invoke/MethodHandle" ∧ yX7_viewTold.cls ≠ "java/lang/invoke/VarHandle" ∧ (parseMethodDescriptor yX7_viewTold.desc).map (fun d => d.parameters.length) = some 0 := by decide +kernel
set_option maxHeartbeats 4000000 in
set_option maxRecDepth 100000 in
/-- a view told -/
theorem c_X7_viewTold (l : Launch) (g : gG) (gh : gGh) (T : Nat → Int32) (M : Int) (I : gI) (R : gR) (J : gJ) (AI : gI) (AJ : gJ) (AR : gR) (mo : Nat) (hv : mInv g gh R I AI) (hm : gO g mo 7) (hT : AI (gh 50 0) = T) (hE : (I mo 20).toInt ≤ 936) (hMM : (I mo 5).toInt = M) : gMet l g yX7_viewTold tsX7_viewTold rmX7_viewTold [.ref mo] (I, R, J, AI, AJ, AR) (gQv g (fun w : gS => R = w.2.1 ∧ AR = w.2.2.2.2.2 ∧ (mInv g gh R (w.1) (w.2.2.2.1)) ∧ ((w.2.2.2.1) (gh 50 0) = T) ∧ (qF mo I (w.1)) ∧ (((w.1) mo 20).toInt ≤ 936 ∧ (I mo 24).toInt ≤ ((w.1) mo 24).toInt) ∧ (((w.1) mo 24).toInt = 0 → ((w.1) mo 21).toInt = 4 → ((w.1) mo 23).toInt = 59 → rowOK ((w.2.2.2.1) (gh 53 0)) M) ∧ (((w.1) mo 24).toInt = 0 → M ≤ 15) ∧ (((w.1) mo 24).toInt = 0 → 1 ≤ tI ((w.2.2.2.1) (gh 53 0)) (40 * M)))) := by
  refine gStart (cc := cX7_viewTold) (maxL := 3) (ret := none) (by decide) rfl (Nat.le_of_ble_eq_true rfl) ?_
  intro p e s m below meth c ls F hr hlk hH hz hS hl
  have hl : lv_has ls 3 [(0, .ref mo)] := hl
  have hS : va_S (gA g) s.heap s.heap [] := hS
  obtain ⟨H, hHe⟩ : ∃ H : Heap, H = s.heap := ⟨_, rfl⟩
  obtain ⟨locs, hlo⟩ : ∃ k : List Loc, k = [] := ⟨_, rfl⟩
  have hH : gH g I R J AI AJ AR H := by rw [hHe]; exact hH
  have hS : va_S (gA g) s.heap H locs := by rw [hHe, hlo]; exact hS
  suffices hw : W p l e rmX7_viewTold s m ([.ref mo] : List Value).toArray below meth c H locs 0 0 (MQ below (gQv g (fun w : gS => R = w.2.1 ∧ AR = w.2.2.2.2.2 ∧ (mInv g gh R (w.1) (w.2.2.2.1)) ∧ ((w.2.2.2.1) (gh 50 0) = T) ∧ (qF mo I (w.1)) ∧ (((w.1) mo 20).toInt ≤ 936 ∧ (I mo 24).toInt ≤ ((w.1) mo 24).toInt) ∧ (((w.1) mo 24).toInt = 0 → ((w.1) mo 21).toInt = 4 → ((w.1) mo 23).toInt = 59 → rowOK ((w.2.2.2.1) (gh 53 0)) M) ∧ (((w.1) mo 24).toInt = 0 → M ≤ 15) ∧ (((w.1) mo 24).toInt = 0 → 1 ≤ tI ((w.2.2.2.1) (gh 53 0)) (40 * M)))) ([.ref mo] : List Value).toArray s 0 0 (gA g)) (F0 m 0 ls []) by
    rw [hHe, hlo] at hw; exact hw
  clear hHe hlo
  have pf : qF mo I I := qF_r
  have hb0 := mJ hv hm
  unfold mNum1 at hb0
  have iX7 : ∀ w ∈ u_ws RX7 TX7 32, w ∈ tsX7_viewTold := fun w h => List.mem_cons_of_mem _ (inTB7 w h)
  have k184 : Cond.fieldLink RX7 184 (TX7 5).1 (TX7 5).2.1 (TX7 5).2.2.1 ∈ tsX7_viewTold := List.mem_cons_of_mem _ fl_184
  have k81 : Cond.fieldLink RX7 81 (TX7 24).1 (TX7 24).2.1 (TX7 24).2.2.1 ∈ tsX7_viewTold := List.mem_cons_of_mem _ fl_81
  have cut_14_1 : ∀ (I_1 : gI) (H : Heap) (locs : List Loc) (ls : Array Slot), (mInv g gh R I_1 AI) → (qF mo I I_1) → ((I_1 mo 20).toInt ≤ 936 ∧ (I mo 24).toInt ≤ (I_1 mo 24).toInt ∧ ((I_1 mo 24).toInt = 0 → M ≤ 15)) → gH g I_1 R J AI AJ AR H → va_S (gA g) s.heap H locs → lv_has ls 3 [(0, .ref mo)] → W p l e rmX7_viewTold s m ([.ref mo] : List Value).toArray below meth c H locs 0 0 (MQ below (gQv g (fun w : gS => R = w.2.1 ∧ AR = w.2.2.2.2.2 ∧ (mInv g gh R (w.1) (w.2.2.2.1)) ∧ ((w.2.2.2.1) (gh 50 0) = T) ∧ (qF mo I (w.1)) ∧ (((w.1) mo 20).toInt ≤ 936 ∧ (I mo 24).toInt ≤ ((w.1) mo 24).toInt) ∧ (((w.1) mo 24).toInt = 0 → ((w.1) mo 21).toInt = 4 → ((w.1) mo 23).toInt = 59 → rowOK ((w.2.2.2.1) (gh 53 0)) M) ∧ (((w.1) mo 24).toInt = 0 → M ≤ 15) ∧ (((w.1) mo 24).toInt = 0 → 1 ≤ tI ((w.2.2.2.1) (gh 53 0)) (40 * M)))) ([.ref mo] : List Value).toArray s 0 0 (gA g)) (F0 m 14 ls []) := by
    intro I_1 H locs ls hv pf hj0 hH hS hl
    have uc_2 : (I_1 mo 2).toInt = (I mo 2).toInt := by rw [pf 2 (by decide) (by decide) (by decide) (by decide) (by decide)]
    have uc_5 : (I_1 mo 5).toInt = (I mo 5).toInt := by rw [pf 5 (by decide) (by decide) (by decide) (by decide) (by decide)]
    have uc_14 : (I_1 mo 14).toInt = (I mo 14).toInt := by rw [pf 14 (by decide) (by decide) (by decide) (by decide) (by decide)]
    have uc_16 : (I_1 mo 16).toInt = (I mo 16).toInt := by rw [pf 16 (by decide) (by decide) (by decide) (by decide) (by decide)]
    have uc_18 : (I_1 mo 18).toInt = (I mo 18).toInt := by rw [pf 18 (by decide) (by decide) (by decide) (by decide) (by decide)]
    refine lv_aload_n F.1 F.2.1 dX7_viewTold_14 rfl (lv_at hl 0 rfl) ?_
    have b_3 := mJ hv hm
    unfold mNum1 at b_3
    refine g_callv (g_runV (As := []) (rest := []) (ci := 7) F hl.1 hH hS hz (c_X7_next l g gh T I_1 R J AI AJ AR mo hv hm hT (by omega)) (cwV 0 F.2.2.2.2.1 (good_up gT_X7_next) rfl rfl rfl hdX7_next ⟨Nat.le_of_ble_eq_true rfl, Nat.le_of_ble_eq_true rfl⟩) hm (by decide) rfl rfl rfl (Nat.le_of_ble_eq_true rfl) dX7_viewTold_15 ⟨Nat.zero_le _, Nat.zero_le _⟩) hS (fun I_4 R_5 J_6 AI_7 AJ_8 AR_9 H locs hp_10 hH hS => ?_)
    dsimp only at hp_10
    obtain ⟨rfl, rfl, rfl, rfl, hv, pfq, q_11, q_12⟩ := hp_10
    have pf := qF_t pf pfq
    have u_13_2 : (I_4 mo 2).toInt = (I mo 2).toInt := by rw [pf 2 (by decide) (by decide) (by decide) (by decide) (by decide)]
    have u_13_5 : (I_4 mo 5).toInt = (I mo 5).toInt := by rw [pf 5 (by decide) (by decide) (by decide) (by decide) (by decide)]
    have u_13_14 : (I_4 mo 14).toInt = (I mo 14).toInt := by rw [pf 14 (by decide) (by decide) (by decide) (by decide) (by decide)]
    have u_13_16 : (I_4 mo 16).toInt = (I mo 16).toInt := by rw [pf 16 (by decide) (by decide) (by decide) (by decide) (by decide)]
    have u_13_18 : (I_4 mo 18).toInt = (I mo 18).toInt := by rw [pf 18 (by decide) (by decide) (by decide) (by decide) (by decide)]
    refine lv_aload_n F.1 F.2.1 dX7_viewTold_18 rfl (lv_at hl 0 rfl) ?_
    have b_14 := mJ hv hm
    unfold mNum1 at b_14
    refine g_callv (g_runV (As := []) (rest := []) (ci := 7) F hl.1 hH hS hz (c_X7_newName l g gh T I_4 R J_6 AI AJ AR mo hv hm hT (by omega) (by omega)) (cwV 0 F.2.2.2.2.1 (good_up gT_X7_newName) rfl rfl rfl hdX7_newName ⟨Nat.le_of_ble_eq_true rfl, Nat.le_of_ble_eq_true rfl⟩) hm (by decide) rfl rfl rfl (Nat.le_of_ble_eq_true rfl) dX7_viewTold_19 ⟨Nat.zero_le _, Nat.zero_le _⟩) hS (fun I_15 R_16 J_17 AI_18 AJ_19 AR_20 H locs hp_21 hH hS => ?_)
    dsimp only at hp_21
    obtain ⟨rfl, rfl, rfl, hv, pfq, q_22⟩ := hp_21
    have pf := qF_t pf pfq
    have u_23_2 : (I_15 mo 2).toInt = (I mo 2).toInt := by rw [pf 2 (by decide) (by decide) (by decide) (by decide) (by decide)]
    have u_23_5 : (I_15 mo 5).toInt = (I mo 5).toInt := by rw [pf 5 (by decide) (by decide) (by decide) (by decide) (by decide)]
    have u_23_14 : (I_15 mo 14).toInt = (I mo 14).toInt := by rw [pf 14 (by decide) (by decide) (by decide) (by decide) (by decide)]
    have u_23_16 : (I_15 mo 16).toInt = (I mo 16).toInt := by rw [pf 16 (by decide) (by decide) (by decide) (by decide) (by decide)]
    have u_23_18 : (I_15 mo 18).toInt = (I mo 18).toInt := by rw [pf 18 (by decide) (by decide) (by decide) (by decide) (by decide)]
    refine lv_aload_n F.1 F.2.1 dX7_viewTold_22 rfl (lv_at hl 0 rfl) ?_
    refine z_bipush F dX7_viewTold_23 (by decide) ?_
    have b_24 := mJ hv hm
    unfold mNum1 at b_24
    refine g_callv (g_runV (As := [.int (iI 61)]) (rest := []) (ci := 7) F hl.1 hH hS hz (c_X7_mustSign l g gh T I_15 R J_17 AI AJ_19 AR mo 61 ⟨by decide, by decide⟩ hv hm hT (by omega)) (cwV 1 F.2.2.2.2.1 (good_up gT_X7_mustSign) rfl rfl rfl hdX7_mustSign ⟨Nat.le_of_ble_eq_true rfl, Nat.le_of_ble_eq_true rfl⟩) hm (by decide) rfl rfl rfl (Nat.le_of_ble_eq_true rfl) dX7_viewTold_25 ⟨Nat.zero_le _, Nat.zero_le _⟩) hS (fun I_25 R_26 J_27 AI_28 AJ_29 AR_30 H locs hp_31 hH hS => ?_)
    dsimp only at hp_31
    obtain ⟨rfl, rfl, rfl, rfl, hv, pfq, q_32, q_33⟩ := hp_31
    have pf := qF_t pf pfq
    have u_34_2 : (I_25 mo 2).toInt = (I mo 2).toInt := by rw [pf 2 (by decide) (by decide) (by decide) (by decide) (by decide)]
    have u_34_5 : (I_25 mo 5).toInt = (I mo 5).toInt := by rw [pf 5 (by decide) (by decide) (by decide) (by decide) (by decide)]
    have u_34_14 : (I_25 mo 14).toInt = (I mo 14).toInt := by rw [pf 14 (by decide) (by decide) (by decide) (by decide) (by decide)]
    have u_34_16 : (I_25 mo 16).toInt = (I mo 16).toInt := by rw [pf 16 (by decide) (by decide) (by decide) (by decide) (by decide)]
    have u_34_18 : (I_25 mo 18).toInt = (I mo 18).toInt := by rw [pf 18 (by decide) (by decide) (by decide) (by decide) (by decide)]
    obtain ⟨fb, efb⟩ : ∃ q, q = (I_25 mo 24).toInt := ⟨_, rfl⟩
    refine lv_aload_n F.1 F.2.1 dX7_viewTold_28 rfl (lv_at hl 0 rfl) ?_
    refine g_getI (ci := 7) (k := 24) F hH rfl (by decide) iX7 hm (by decide) rfl k81 dX7_viewTold_29 ?_
    have b_35 := mJ hv hm
    unfold mNum1 at b_35
    refine z_if_le (tgt := 36) F dX7_viewTold_32 (by decide) (zr_t _) (fun c_36 => ?_) (fun c_36 => ?_)
    · have cut_144_36 : ∀ (kd : Int) (H : Heap) (locs : List Loc) (ls : Array Slot), zr kd → (-1 ≤ kd ∧ kd ≤ 8 ∧ kd ≠ 0) → gH g I_25 R J_27 AI AJ_19 AR H → va_S (gA g) s.heap H locs → lv_has ls 3 [(0, .ref mo)] → W p l e rmX7_viewTold s m ([.ref mo] : List Value).toArray below meth c H locs 0 0 (MQ below (gQv g (fun w : gS => R = w.2.1 ∧ AR = w.2.2.2.2.2 ∧ (mInv g gh R (w.1) (w.2.2.2.1)) ∧ ((w.2.2.2.1) (gh 50 0) = T) ∧ (qF mo I (w.1)) ∧ (((w.1) mo 20).toInt ≤ 936 ∧ (I mo 24).toInt ≤ ((w.1) mo 24).toInt) ∧ (((w.1) mo 24).toInt = 0 → ((w.1) mo 21).toInt = 4 → ((w.1) mo 23).toInt = 59 → rowOK ((w.2.2.2.1) (gh 53 0)) M) ∧ (((w.1) mo 24).toInt = 0 → M ≤ 15) ∧ (((w.1) mo 24).toInt = 0 → 1 ≤ tI ((w.2.2.2.1) (gh 53 0)) (40 * M)))) ([.ref mo] : List Value).toArray s 0 0 (gA g)) (F0 m 144 ls [.int (iI kd)]) := by
        intro kd H locs ls zkd hkd hH hS hl
        refine lv_istore_n (lv' := [(1, .int (iI kd)), (0, .ref mo)]) F.1 F.2.1 dX7_viewTold_144 rfl hl (by decide) rfl (fun ls hl => ?_)
        have cut_154_38 : ∀ (I_38 : gI) (H : Heap) (locs : List Loc) (ls : Array Slot), (mInv g gh R I_38 AI) → (qF mo I I_38) → ((I_38 mo 20).toInt ≤ 936 ∧ fb ≤ (I_38 mo 24).toInt ∧ ((I_38 mo 24).toInt = 0 → 1 ≤ kd)) → gH g I_38 R J_27 AI AJ_19 AR H → va_S (gA g) s.heap H locs → lv_has ls 3 [(1, .int (iI kd)), (0, .ref mo)] → W p l e rmX7_viewTold s m ([.ref mo] : List Value).toArray below meth c H locs 0 0 (MQ below (gQv g (fun w : gS => R = w.2.1 ∧ AR = w.2.2.2.2.2 ∧ (mInv g gh R (w.1) (w.2.2.2.1)) ∧ ((w.2.2.2.1) (gh 50 0) = T) ∧ (qF mo I (w.1)) ∧ (((w.1) mo 20).toInt ≤ 936 ∧ (I mo 24).toInt ≤ ((w.1) mo 24).toInt) ∧ (((w.1) mo 24).toInt = 0 → ((w.1) mo 21).toInt = 4 → ((w.1) mo 23).toInt = 59 → rowOK ((w.2.2.2.1) (gh 53 0)) M) ∧ (((w.1) mo 24).toInt = 0 → M ≤ 15) ∧ (((w.1) mo 24).toInt = 0 → 1 ≤ tI ((w.2.2.2.1) (gh 53 0)) (40 * M)))) ([.ref mo] : List Value).toArray s 0 0 (gA g)) (F0 m 154 ls []) := by
          intro I_38 H locs ls hv pf hj145 hH hS hl
          have uc_2 : (I_38 mo 2).toInt = (I mo 2).toInt := by rw [pf 2 (by decide) (by decide) (by decide) (by decide) (by decide)]
          have uc_5 : (I_38 mo 5).toInt = (I mo 5).toInt := by rw [pf 5 (by decide) (by decide) (by decide) (by decide) (by decide)]
          have uc_14 : (I_38 mo 14).toInt = (I mo 14).toInt := by rw [pf 14 (by decide) (by decide) (by decide) (by decide) (by decide)]
          have uc_16 : (I_38 mo 16).toInt = (I mo 16).toInt := by rw [pf 16 (by decide) (by decide) (by decide) (by decide) (by decide)]
          have uc_18 : (I_38 mo 18).toInt = (I mo 18).toInt := by rw [pf 18 (by decide) (by decide) (by decide) (by decide) (by decide)]
          refine lv_aload_n F.1 F.2.1 dX7_viewTold_154 rfl (lv_at hl 1 rfl) ?_
          have b_40 := mJ hv hm
          unfold mNum1 at b_40
          refine g_callv (g_runV (As := []) (rest := []) (ci := 7) F hl.1 hH hS hz (c_X7_next l g gh T I_38 R J_27 AI AJ_19 AR mo hv hm hT (by omega)) (cwV 0 F.2.2.2.2.1 (good_up gT_X7_next) rfl rfl rfl hdX7_next ⟨Nat.le_of_ble_eq_true rfl, Nat.le_of_ble_eq_true rfl⟩) hm (by decide) rfl rfl rfl (Nat.le_of_ble_eq_true rfl) dX7_viewTold_155 ⟨Nat.zero_le _, Nat.zero_le _⟩) hS (fun I_41 R_42 J_43 AI_44 AJ_45 AR_46 H locs hp_47 hH hS => ?_)
          dsimp only at hp_47
          obtain ⟨rfl, rfl, rfl, rfl, hv, pfq, q_48, q_49⟩ := hp_47
          have pf := qF_t pf pfq
          have u_50_2 : (I_41 mo 2).toInt = (I mo 2).toInt := by rw [pf 2 (by decide) (by decide) (by decide) (by decide) (by decide)]
          have u_50_5 : (I_41 mo 5).toInt = (I mo 5).toInt := by rw [pf 5 (by decide) (by decide) (by decide) (by decide) (by decide)]
          have u_50_14 : (I_41 mo 14).toInt = (I mo 14).toInt := by rw [pf 14 (by decide) (by decide) (by decide) (by decide) (by decide)]
          have u_50_16 : (I_41 mo 16).toInt = (I mo 16).toInt := by rw [pf 16 (by decide) (by decide) (by decide) (by decide) (by decide)]
          have u_50_18 : (I_41 mo 18).toInt = (I mo 18).toInt := by rw [pf 18 (by decide) (by decide) (by decide) (by decide) (by decide)]
          refine lv_aload_n F.1 F.2.1 dX7_viewTold_158 rfl (lv_at hl 1 rfl) ?_
          refine g_getI (ci := 7) (k := 24) F hH rfl (by decide) iX7 hm (by decide) rfl k81 dX7_viewTold_159 ?_
          have b_51 := mJ hv hm
          unfold mNum1 at b_51
          refine z_if_le (tgt := 166) F dX7_viewTold_162 (by decide) (zr_t _) (fun c_52 => ?_) (fun c_52 => ?_)
          · refine lv_iload_n F.1 F.2.1 dX7_viewTold_166 rfl (lv_at hl 0 rfl) ?_
            refine z_iconst F dX7_viewTold_167 ?_
            refine z_icmp_ne (tgt := 178) F dX7_viewTold_168 (by decide) zkd ⟨by decide, by decide⟩ (fun c_53 => ?_) (fun c_53 => ?_)
            · refine lv_iload_n F.1 F.2.1 dX7_viewTold_178 rfl (lv_at hl 0 rfl) ?_
              refine z_iconst F dX7_viewTold_179 ?_
              refine z_icmp_ne (tgt := 190) F dX7_viewTold_180 (by decide) zkd ⟨by decide, by decide⟩ (fun c_54 => ?_) (fun c_54 => ?_)
              · refine lv_iload_n F.1 F.2.1 dX7_viewTold_190 rfl (lv_at hl 0 rfl) ?_
                refine z_iconst F dX7_viewTold_191 ?_
                refine z_icmp_ne (tgt := 202) F dX7_viewTold_192 (by decide) zkd ⟨by decide, by decide⟩ (fun c_55 => ?_) (fun c_55 => ?_)
                · refine lv_iload_n F.1 F.2.1 dX7_viewTold_202 rfl (lv_at hl 0 rfl) ?_
                  refine z_iconst F dX7_viewTold_203 ?_
                  refine z_icmp_eq (tgt := 212) F dX7_viewTold_204 (by decide) zkd ⟨by decide, by decide⟩ (fun c_56 => ?_) (fun c_56 => ?_)
                  · refine lv_aload_n F.1 F.2.1 dX7_viewTold_212 rfl (lv_at hl 1 rfl) ?_
                    refine lv_iload_n F.1 F.2.1 dX7_viewTold_213 rfl (lv_at hl 0 rfl) ?_
                    refine g_callv (g_runV (As := [.int (iI kd)]) (rest := []) (ci := 7) F hl.1 hH hS hz (c_X7_bothTold l g gh T M I_41 R J_43 AI AJ_19 AR mo kd zkd hv hm hT (by omega) (by omega) (by omega) (by omega)) (cwV 1 F.2.2.2.2.1 (good_up gT_X7_bothTold) rfl rfl rfl hdX7_bothTold ⟨Nat.le_of_ble_eq_true rfl, Nat.le_of_ble_eq_true rfl⟩) hm (by decide) rfl rfl rfl (Nat.le_of_ble_eq_true rfl) dX7_viewTold_214 ⟨Nat.zero_le _, Nat.zero_le _⟩) hS (fun I_57 R_58 J_59 AI_60 AJ_61 AR_62 H locs hp_63 hH hS => ?_)
                    dsimp only at hp_63
                    obtain ⟨rfl, rfl, rfl, hv, hT, pfq, q_64, hrow, hkq⟩ := hp_63
                    have pf := qF_t pf pfq
                    have u_65_2 : (I_57 mo 2).toInt = (I mo 2).toInt := by rw [pf 2 (by decide) (by decide) (by decide) (by decide) (by decide)]
                    have u_65_5 : (I_57 mo 5).toInt = (I mo 5).toInt := by rw [pf 5 (by decide) (by decide) (by decide) (by decide) (by decide)]
                    have u_65_14 : (I_57 mo 14).toInt = (I mo 14).toInt := by rw [pf 14 (by decide) (by decide) (by decide) (by decide) (by decide)]
                    have u_65_16 : (I_57 mo 16).toInt = (I mo 16).toInt := by rw [pf 16 (by decide) (by decide) (by decide) (by decide) (by decide)]
                    have u_65_18 : (I_57 mo 18).toInt = (I mo 18).toInt := by rw [pf 18 (by decide) (by decide) (by decide) (by decide) (by decide)]
                    refine z_goto (tgt := 265) F dX7_viewTold_217 (by decide) ?_
                    exact g_vret F hr hlk hH hS hz ⟨rfl, rfl, hv, hT, pf, by first | omega | rfl | (dsimp only; omega), by first | exact hrow | ((try dsimp only); intro hf; exact absurd hf (by omega)) | ((try dsimp only); intro hf ht hn; exact row_mk (by omega) (hhd (by omega)) (by omega) (hcol (by omega)) (by omega) (by omega) (fun h => absurd h (by omega)) (fun h => absurd h (by omega)) (fun h => absurd h (by omega)) (fun h => absurd h (by omega)) (fun h => absurd h (by omega)) (fun h => absurd h (by omega)) (fun h => absurd h (by omega))), by (try dsimp only); intro hf; omega, by first | ((try dsimp only); intro hf; have q9 := hkq (by omega); omega) | ((try dsimp only); intro hf; exact absurd hf (by omega)) | ((try dsimp only); intro hf; have q9 := (hhd (by omega)).2.1; omega)⟩ dX7_viewTold_265
                  · refine lv_iload_n F.1 F.2.1 dX7_viewTold_207 rfl (lv_at hl 0 rfl) ?_
                    refine z_iconst F dX7_viewTold_208 ?_
                    refine z_icmp_ne (tgt := 220) F dX7_viewTold_209 (by decide) zkd ⟨by decide, by decide⟩ (fun c_66 => ?_) (fun c_66 => ?_)
                    · refine lv_iload_n F.1 F.2.1 dX7_viewTold_220 rfl (lv_at hl 0 rfl) ?_
                      refine z_bipush F dX7_viewTold_221 (by decide) ?_
                      refine z_icmp_ne (tgt := 233) F dX7_viewTold_223 (by decide) zkd ⟨by decide, by decide⟩ (fun c_67 => ?_) (fun c_67 => ?_)
                      · refine lv_iload_n F.1 F.2.1 dX7_viewTold_233 rfl (lv_at hl 0 rfl) ?_
                        refine z_bipush F dX7_viewTold_234 (by decide) ?_
                        refine z_icmp_ne (tgt := 246) F dX7_viewTold_236 (by decide) zkd ⟨by decide, by decide⟩ (fun c_68 => ?_) (fun c_68 => ?_)
                        · refine lv_aload_n F.1 F.2.1 dX7_viewTold_246 rfl (lv_at hl 1 rfl) ?_
                          refine g_calli (g_runV (As := []) (rest := []) (ci := 7) F hl.1 hH hS hz (c_X7_relation l g gh T I_41 R J_43 AI AJ_19 AR mo hv hm hT (by omega)) (cwV 0 F.2.2.2.2.1 (good_up gT_X7_relation) rfl rfl rfl hdX7_relation ⟨Nat.le_of_ble_eq_true rfl, Nat.le_of_ble_eq_true rfl⟩) hm (by decide) rfl rfl rfl (Nat.le_of_ble_eq_true rfl) dX7_viewTold_247 ⟨Nat.zero_le _, Nat.zero_le _⟩) hS (fun v_75 I_69 R_70 J_71 AI_72 AJ_73 AR_74 H locs zv_75 hp_76 hH hS => ?_)
                          dsimp only at hp_76
                          obtain ⟨rfl, rfl, rfl, rfl, hv, pfq, q_77, q_78⟩ := hp_76
                          have pf := qF_t pf pfq
                          have u_79_2 : (I_69 mo 2).toInt = (I mo 2).toInt := by rw [pf 2 (by decide) (by decide) (by decide) (by decide) (by decide)]
                          have u_79_5 : (I_69 mo 5).toInt = (I mo 5).toInt := by rw [pf 5 (by decide) (by decide) (by decide) (by decide) (by decide)]
                          have u_79_14 : (I_69 mo 14).toInt = (I mo 14).toInt := by rw [pf 14 (by decide) (by decide) (by decide) (by decide) (by decide)]
                          have u_79_16 : (I_69 mo 16).toInt = (I mo 16).toInt := by rw [pf 16 (by decide) (by decide) (by decide) (by decide) (by decide)]
                          have u_79_18 : (I_69 mo 18).toInt = (I mo 18).toInt := by rw [pf 18 (by decide) (by decide) (by decide) (by decide) (by decide)]
                          obtain ⟨f0, ef0⟩ : ∃ q, q = (I_69 mo 24).toInt := ⟨_, rfl⟩
                          have hr1 : f0 = 0 → v_75 < M := by omega
                          refine lv_istore_n (lv' := [(2, .int (iI v_75)), (1, .int (iI kd)), (0, .ref mo)]) F.1 F.2.1 dX7_viewTold_250 rfl hl (by decide) rfl (fun ls hl => ?_)
                          refine lv_aload_n F.1 F.2.1 dX7_viewTold_251 rfl (lv_at hl 2 rfl) ?_
                          refine z_bipush F dX7_viewTold_252 (by decide) ?_
                          refine lv_aload_n F.1 F.2.1 dX7_viewTold_254 rfl (lv_at hl 2 rfl) ?_
                          refine lv_iload_n F.1 F.2.1 dX7_viewTold_255 rfl (lv_at hl 0 rfl) ?_
                          have b_80 := mJ hv hm
                          unfold mNum1 at b_80
                          refine g_calli (g_runV (As := [.int (iI v_75)]) (rest := [.int (iI 6), .ref mo]) (ci := 7) F hl.1 hH hS hz (c_X7_columns l g gh T I_69 R J_71 AI AJ_19 AR mo v_75 zv_75 hv hm hT (by omega)) (cwV 1 F.2.2.2.2.1 (good_up gT_X7_columns) rfl rfl rfl hdX7_columns ⟨Nat.le_of_ble_eq_true rfl, Nat.le_of_ble_eq_true rfl⟩) hm (by decide) rfl rfl rfl (Nat.le_of_ble_eq_true rfl) dX7_viewTold_256 ⟨Nat.zero_le _, Nat.zero_le _⟩) hS (fun v_87 I_81 R_82 J_83 AI_84 AJ_85 AR_86 H locs zv_87 hp_88 hH hS => ?_)
                          dsimp only at hp_88
                          obtain ⟨rfl, rfl, rfl, rfl, rfl, rfl, q_89⟩ := hp_88
                          have hcol : (I_69 mo 24).toInt = 0 → 1 ≤ v_87 ∧ v_87 ≤ 4 := fun h => by have q9 := mCol hv hm (z := v_75) (by omega) (by omega); omega
                          refine lv_iload_n F.1 F.2.1 dX7_viewTold_259 rfl (lv_at hl 0 rfl) ?_
                          refine z_iconst F dX7_viewTold_260 ?_
                          refine z_iconst F dX7_viewTold_261 ?_
                          refine g_callv (g_runV (As := [.int (iI 6), .int (iI v_87), .int (iI v_75), .int (iI ((-1))), .int (iI 0)]) (rest := []) (ci := 7) F hl.1 hH hS hz (c_X7_header l g gh T M I_69 R J_71 AI AJ_19 AR mo 6 v_87 v_75 (-1) 0 ⟨by decide, by decide⟩ zv_87 zv_75 ⟨by decide, by decide⟩ ⟨by decide, by decide⟩ hv hm hT (by omega) (by omega)) (cwV 5 F.2.2.2.2.1 (good_up gT_X7_header) rfl rfl rfl hdX7_header ⟨Nat.le_of_ble_eq_true rfl, Nat.le_of_ble_eq_true rfl⟩) hm (by decide) rfl rfl rfl (Nat.le_of_ble_eq_true rfl) dX7_viewTold_262 ⟨Nat.zero_le _, Nat.zero_le _⟩) hS (fun I_90 R_91 J_92 AI_93 AJ_94 AR_95 H locs hp_96 hH hS => ?_)
                          dsimp only at hp_96
                          obtain ⟨rfl, rfl, rfl, rfl, rfl, hv, hT, hhd⟩ := hp_96
                          exact g_vret F hr hlk hH hS hz ⟨rfl, rfl, hv, hT, pf, by first | omega | rfl | (dsimp only; omega), by first | exact hrow | ((try dsimp only); intro hf; exact absurd hf (by omega)) | ((try dsimp only); intro hf ht hn; exact row_mk (by omega) (hhd (by omega)) (by omega) (hcol (by omega)) (by omega) (by omega) (fun h => absurd h (by omega)) (fun h => absurd h (by omega)) (fun h => absurd h (by omega)) (fun h => absurd h (by omega)) (fun h => absurd h (by omega)) (fun h => absurd h (by omega)) (fun h => absurd h (by omega))), by (try dsimp only); intro hf; omega, by first | ((try dsimp only); intro hf; have q9 := hkq (by omega); omega) | ((try dsimp only); intro hf; exact absurd hf (by omega)) | ((try dsimp only); intro hf; have q9 := (hhd (by omega)).2.1; omega)⟩ dX7_viewTold_265
                        · refine lv_aload_n F.1 F.2.1 dX7_viewTold_239 rfl (lv_at hl 1 rfl) ?_
                          refine g_callv (g_runV (As := []) (rest := []) (ci := 7) F hl.1 hH hS hz (c_X7_ringTold l g gh T M I_41 R J_43 AI AJ_19 AR mo hv hm hT (by omega) (by omega) (by omega)) (cwV 0 F.2.2.2.2.1 (good_up gT_X7_ringTold) rfl rfl rfl hdX7_ringTold ⟨Nat.le_of_ble_eq_true rfl, Nat.le_of_ble_eq_true rfl⟩) hm (by decide) rfl rfl rfl (Nat.le_of_ble_eq_true rfl) dX7_viewTold_240 ⟨Nat.zero_le _, Nat.zero_le _⟩) hS (fun I_97 R_98 J_99 AI_100 AJ_101 AR_102 H locs hp_103 hH hS => ?_)
                          dsimp only at hp_103
                          obtain ⟨rfl, rfl, rfl, hv, hT, pfq, q_104, hrow, hkq⟩ := hp_103
                          have pf := qF_t pf pfq
                          have u_105_2 : (I_97 mo 2).toInt = (I mo 2).toInt := by rw [pf 2 (by decide) (by decide) (by decide) (by decide) (by decide)]
                          have u_105_5 : (I_97 mo 5).toInt = (I mo 5).toInt := by rw [pf 5 (by decide) (by decide) (by decide) (by decide) (by decide)]
                          have u_105_14 : (I_97 mo 14).toInt = (I mo 14).toInt := by rw [pf 14 (by decide) (by decide) (by decide) (by decide) (by decide)]
                          have u_105_16 : (I_97 mo 16).toInt = (I mo 16).toInt := by rw [pf 16 (by decide) (by decide) (by decide) (by decide) (by decide)]
                          have u_105_18 : (I_97 mo 18).toInt = (I mo 18).toInt := by rw [pf 18 (by decide) (by decide) (by decide) (by decide) (by decide)]
                          refine z_goto (tgt := 265) F dX7_viewTold_243 (by decide) ?_
                          exact g_vret F hr hlk hH hS hz ⟨rfl, rfl, hv, hT, pf, by first | omega | rfl | (dsimp only; omega), by first | exact hrow | ((try dsimp only); intro hf; exact absurd hf (by omega)) | ((try dsimp only); intro hf ht hn; exact row_mk (by omega) (hhd (by omega)) (by omega) (hcol (by omega)) (by omega) (by omega) (fun h => absurd h (by omega)) (fun h => absurd h (by omega)) (fun h => absurd h (by omega)) (fun h => absurd h (by omega)) (fun h => absurd h (by omega)) (fun h => absurd h (by omega)) (fun h => absurd h (by omega))), by (try dsimp only); intro hf; omega, by first | ((try dsimp only); intro hf; have q9 := hkq (by omega); omega) | ((try dsimp only); intro hf; exact absurd hf (by omega)) | ((try dsimp only); intro hf; have q9 := (hhd (by omega)).2.1; omega)⟩ dX7_viewTold_265
                      · refine lv_aload_n F.1 F.2.1 dX7_viewTold_226 rfl (lv_at hl 1 rfl) ?_
                        refine g_callv (g_runV (As := []) (rest := []) (ci := 7) F hl.1 hH hS hz (c_X7_groupTold l g gh T M I_41 R J_43 AI AJ_19 AR mo hv hm hT (by omega) (by omega) (by omega)) (cwV 0 F.2.2.2.2.1 (good_up gT_X7_groupTold) rfl rfl rfl hdX7_groupTold ⟨Nat.le_of_ble_eq_true rfl, Nat.le_of_ble_eq_true rfl⟩) hm (by decide) rfl rfl rfl (Nat.le_of_ble_eq_true rfl) dX7_viewTold_227 ⟨Nat.zero_le _, Nat.zero_le _⟩) hS (fun I_106 R_107 J_108 AI_109 AJ_110 AR_111 H locs hp_112 hH hS => ?_)
                        dsimp only at hp_112
                        obtain ⟨rfl, rfl, rfl, hv, hT, pfq, q_113, hrow, hkq⟩ := hp_112
                        have pf := qF_t pf pfq
                        have u_114_2 : (I_106 mo 2).toInt = (I mo 2).toInt := by rw [pf 2 (by decide) (by decide) (by decide) (by decide) (by decide)]
                        have u_114_5 : (I_106 mo 5).toInt = (I mo 5).toInt := by rw [pf 5 (by decide) (by decide) (by decide) (by decide) (by decide)]
                        have u_114_14 : (I_106 mo 14).toInt = (I mo 14).toInt := by rw [pf 14 (by decide) (by decide) (by decide) (by decide) (by decide)]
                        have u_114_16 : (I_106 mo 16).toInt = (I mo 16).toInt := by rw [pf 16 (by decide) (by decide) (by decide) (by decide) (by decide)]
                        have u_114_18 : (I_106 mo 18).toInt = (I mo 18).toInt := by rw [pf 18 (by decide) (by decide) (by decide) (by decide) (by decide)]
                        refine z_goto (tgt := 265) F dX7_viewTold_230 (by decide) ?_
                        exact g_vret F hr hlk hH hS hz ⟨rfl, rfl, hv, hT, pf, by first | omega | rfl | (dsimp only; omega), by first | exact hrow | ((try dsimp only); intro hf; exact absurd hf (by omega)) | ((try dsimp only); intro hf ht hn; exact row_mk (by omega) (hhd (by omega)) (by omega) (hcol (by omega)) (by omega) (by omega) (fun h => absurd h (by omega)) (fun h => absurd h (by omega)) (fun h => absurd h (by omega)) (fun h => absurd h (by omega)) (fun h => absurd h (by omega)) (fun h => absurd h (by omega)) (fun h => absurd h (by omega))), by (try dsimp only); intro hf; omega, by first | ((try dsimp only); intro hf; have q9 := hkq (by omega); omega) | ((try dsimp only); intro hf; exact absurd hf (by omega)) | ((try dsimp only); intro hf; have q9 := (hhd (by omega)).2.1; omega)⟩ dX7_viewTold_265
                    · refine lv_aload_n F.1 F.2.1 dX7_viewTold_212 rfl (lv_at hl 1 rfl) ?_
                      refine lv_iload_n F.1 F.2.1 dX7_viewTold_213 rfl (lv_at hl 0 rfl) ?_
                      refine g_callv (g_runV (As := [.int (iI kd)]) (rest := []) (ci := 7) F hl.1 hH hS hz (c_X7_bothTold l g gh T M I_41 R J_43 AI AJ_19 AR mo kd zkd hv hm hT (by omega) (by omega) (by omega) (by omega)) (cwV 1 F.2.2.2.2.1 (good_up gT_X7_bothTold) rfl rfl rfl hdX7_bothTold ⟨Nat.le_of_ble_eq_true rfl, Nat.le_of_ble_eq_true rfl⟩) hm (by decide) rfl rfl rfl (Nat.le_of_ble_eq_true rfl) dX7_viewTold_214 ⟨Nat.zero_le _, Nat.zero_le _⟩) hS (fun I_115 R_116 J_117 AI_118 AJ_119 AR_120 H locs hp_121 hH hS => ?_)
                      dsimp only at hp_121
                      obtain ⟨rfl, rfl, rfl, hv, hT, pfq, q_122, hrow, hkq⟩ := hp_121
                      have pf := qF_t pf pfq
                      have u_123_2 : (I_115 mo 2).toInt = (I mo 2).toInt := by rw [pf 2 (by decide) (by decide) (by decide) (by decide) (by decide)]
                      have u_123_5 : (I_115 mo 5).toInt = (I mo 5).toInt := by rw [pf 5 (by decide) (by decide) (by decide) (by decide) (by decide)]
                      have u_123_14 : (I_115 mo 14).toInt = (I mo 14).toInt := by rw [pf 14 (by decide) (by decide) (by decide) (by decide) (by decide)]
                      have u_123_16 : (I_115 mo 16).toInt = (I mo 16).toInt := by rw [pf 16 (by decide) (by decide) (by decide) (by decide) (by decide)]
                      have u_123_18 : (I_115 mo 18).toInt = (I mo 18).toInt := by rw [pf 18 (by decide) (by decide) (by decide) (by decide) (by decide)]
                      refine z_goto (tgt := 265) F dX7_viewTold_217 (by decide) ?_
                      exact g_vret F hr hlk hH hS hz ⟨rfl, rfl, hv, hT, pf, by first | omega | rfl | (dsimp only; omega), by first | exact hrow | ((try dsimp only); intro hf; exact absurd hf (by omega)) | ((try dsimp only); intro hf ht hn; exact row_mk (by omega) (hhd (by omega)) (by omega) (hcol (by omega)) (by omega) (by omega) (fun h => absurd h (by omega)) (fun h => absurd h (by omega)) (fun h => absurd h (by omega)) (fun h => absurd h (by omega)) (fun h => absurd h (by omega)) (fun h => absurd h (by omega)) (fun h => absurd h (by omega))), by (try dsimp only); intro hf; omega, by first | ((try dsimp only); intro hf; have q9 := hkq (by omega); omega) | ((try dsimp only); intro hf; exact absurd hf (by omega)) | ((try dsimp only); intro hf; have q9 := (hhd (by omega)).2.1; omega)⟩ dX7_viewTold_265
                · refine lv_aload_n F.1 F.2.1 dX7_viewTold_195 rfl (lv_at hl 1 rfl) ?_
                  refine g_callv (g_runV (As := []) (rest := []) (ci := 7) F hl.1 hH hS hz (c_X7_joinTold l g gh T M I_41 R J_43 AI AJ_19 AR mo hv hm hT (by omega) (by omega) (by omega)) (cwV 0 F.2.2.2.2.1 (good_up gT_X7_joinTold) rfl rfl rfl hdX7_joinTold ⟨Nat.le_of_ble_eq_true rfl, Nat.le_of_ble_eq_true rfl⟩) hm (by decide) rfl rfl rfl (Nat.le_of_ble_eq_true rfl) dX7_viewTold_196 ⟨Nat.zero_le _, Nat.zero_le _⟩) hS (fun I_124 R_125 J_126 AI_127 AJ_128 AR_129 H locs hp_130 hH hS => ?_)
                  dsimp only at hp_130
                  obtain ⟨rfl, rfl, rfl, hv, hT, pfq, q_131, hrow, hkq⟩ := hp_130
                  have pf := qF_t pf pfq
                  have u_132_2 : (I_124 mo 2).toInt = (I mo 2).toInt := by rw [pf 2 (by decide) (by decide) (by decide) (by decide) (by decide)]
                  have u_132_5 : (I_124 mo 5).toInt = (I mo 5).toInt := by rw [pf 5 (by decide) (by decide) (by decide) (by decide) (by decide)]
                  have u_132_14 : (I_124 mo 14).toInt = (I mo 14).toInt := by rw [pf 14 (by decide) (by decide) (by decide) (by decide) (by decide)]
                  have u_132_16 : (I_124 mo 16).toInt = (I mo 16).toInt := by rw [pf 16 (by decide) (by decide) (by decide) (by decide) (by decide)]
                  have u_132_18 : (I_124 mo 18).toInt = (I mo 18).toInt := by rw [pf 18 (by decide) (by decide) (by decide) (by decide) (by decide)]
                  refine z_goto (tgt := 265) F dX7_viewTold_199 (by decide) ?_
                  exact g_vret F hr hlk hH hS hz ⟨rfl, rfl, hv, hT, pf, by first | omega | rfl | (dsimp only; omega), by first | exact hrow | ((try dsimp only); intro hf; exact absurd hf (by omega)) | ((try dsimp only); intro hf ht hn; exact row_mk (by omega) (hhd (by omega)) (by omega) (hcol (by omega)) (by omega) (by omega) (fun h => absurd h (by omega)) (fun h => absurd h (by omega)) (fun h => absurd h (by omega)) (fun h => absurd h (by omega)) (fun h => absurd h (by omega)) (fun h => absurd h (by omega)) (fun h => absurd h (by omega))), by (try dsimp only); intro hf; omega, by first | ((try dsimp only); intro hf; have q9 := hkq (by omega); omega) | ((try dsimp only); intro hf; exact absurd hf (by omega)) | ((try dsimp only); intro hf; have q9 := (hhd (by omega)).2.1; omega)⟩ dX7_viewTold_265
              · refine lv_aload_n F.1 F.2.1 dX7_viewTold_183 rfl (lv_at hl 1 rfl) ?_
                refine g_callv (g_runV (As := []) (rest := []) (ci := 7) F hl.1 hH hS hz (c_X7_projectTold l g gh T M I_41 R J_43 AI AJ_19 AR mo hv hm hT (by omega) (by omega) (by omega)) (cwV 0 F.2.2.2.2.1 (good_up gT_X7_projectTold) rfl rfl rfl hdX7_projectTold ⟨Nat.le_of_ble_eq_true rfl, Nat.le_of_ble_eq_true rfl⟩) hm (by decide) rfl rfl rfl (Nat.le_of_ble_eq_true rfl) dX7_viewTold_184 ⟨Nat.zero_le _, Nat.zero_le _⟩) hS (fun I_133 R_134 J_135 AI_136 AJ_137 AR_138 H locs hp_139 hH hS => ?_)
                dsimp only at hp_139
                obtain ⟨rfl, rfl, rfl, hv, hT, pfq, q_140, hrow, hkq⟩ := hp_139
                have pf := qF_t pf pfq
                have u_141_2 : (I_133 mo 2).toInt = (I mo 2).toInt := by rw [pf 2 (by decide) (by decide) (by decide) (by decide) (by decide)]
                have u_141_5 : (I_133 mo 5).toInt = (I mo 5).toInt := by rw [pf 5 (by decide) (by decide) (by decide) (by decide) (by decide)]
                have u_141_14 : (I_133 mo 14).toInt = (I mo 14).toInt := by rw [pf 14 (by decide) (by decide) (by decide) (by decide) (by decide)]
                have u_141_16 : (I_133 mo 16).toInt = (I mo 16).toInt := by rw [pf 16 (by decide) (by decide) (by decide) (by decide) (by decide)]
                have u_141_18 : (I_133 mo 18).toInt = (I mo 18).toInt := by rw [pf 18 (by decide) (by decide) (by decide) (by decide) (by decide)]
                refine z_goto (tgt := 265) F dX7_viewTold_187 (by decide) ?_
                exact g_vret F hr hlk hH hS hz ⟨rfl, rfl, hv, hT, pf, by first | omega | rfl | (dsimp only; omega), by first | exact hrow | ((try dsimp only); intro hf; exact absurd hf (by omega)) | ((try dsimp only); intro hf ht hn; exact row_mk (by omega) (hhd (by omega)) (by omega) (hcol (by omega)) (by omega) (by omega) (fun h => absurd h (by omega)) (fun h => absurd h (by omega)) (fun h => absurd h (by omega)) (fun h => absurd h (by omega)) (fun h => absurd h (by omega)) (fun h => absurd h (by omega)) (fun h => absurd h (by omega))), by (try dsimp only); intro hf; omega, by first | ((try dsimp only); intro hf; have q9 := hkq (by omega); omega) | ((try dsimp only); intro hf; exact absurd hf (by omega)) | ((try dsimp only); intro hf; have q9 := (hhd (by omega)).2.1; omega)⟩ dX7_viewTold_265
            · refine lv_aload_n F.1 F.2.1 dX7_viewTold_171 rfl (lv_at hl 1 rfl) ?_
              refine g_callv (g_runV (As := []) (rest := []) (ci := 7) F hl.1 hH hS hz (c_X7_selectTold l g gh T M I_41 R J_43 AI AJ_19 AR mo hv hm hT (by omega) (by omega) (by omega)) (cwV 0 F.2.2.2.2.1 (good_up gT_X7_selectTold) rfl rfl rfl hdX7_selectTold ⟨Nat.le_of_ble_eq_true rfl, Nat.le_of_ble_eq_true rfl⟩) hm (by decide) rfl rfl rfl (Nat.le_of_ble_eq_true rfl) dX7_viewTold_172 ⟨Nat.zero_le _, Nat.zero_le _⟩) hS (fun I_142 R_143 J_144 AI_145 AJ_146 AR_147 H locs hp_148 hH hS => ?_)
              dsimp only at hp_148
              obtain ⟨rfl, rfl, rfl, hv, hT, pfq, q_149, hrow, hkq⟩ := hp_148
              have pf := qF_t pf pfq
              have u_150_2 : (I_142 mo 2).toInt = (I mo 2).toInt := by rw [pf 2 (by decide) (by decide) (by decide) (by decide) (by decide)]
              have u_150_5 : (I_142 mo 5).toInt = (I mo 5).toInt := by rw [pf 5 (by decide) (by decide) (by decide) (by decide) (by decide)]
              have u_150_14 : (I_142 mo 14).toInt = (I mo 14).toInt := by rw [pf 14 (by decide) (by decide) (by decide) (by decide) (by decide)]
              have u_150_16 : (I_142 mo 16).toInt = (I mo 16).toInt := by rw [pf 16 (by decide) (by decide) (by decide) (by decide) (by decide)]
              have u_150_18 : (I_142 mo 18).toInt = (I mo 18).toInt := by rw [pf 18 (by decide) (by decide) (by decide) (by decide) (by decide)]
              refine z_goto (tgt := 265) F dX7_viewTold_175 (by decide) ?_
              exact g_vret F hr hlk hH hS hz ⟨rfl, rfl, hv, hT, pf, by first | omega | rfl | (dsimp only; omega), by first | exact hrow | ((try dsimp only); intro hf; exact absurd hf (by omega)) | ((try dsimp only); intro hf ht hn; exact row_mk (by omega) (hhd (by omega)) (by omega) (hcol (by omega)) (by omega) (by omega) (fun h => absurd h (by omega)) (fun h => absurd h (by omega)) (fun h => absurd h (by omega)) (fun h => absurd h (by omega)) (fun h => absurd h (by omega)) (fun h => absurd h (by omega)) (fun h => absurd h (by omega))), by (try dsimp only); intro hf; omega, by first | ((try dsimp only); intro hf; have q9 := hkq (by omega); omega) | ((try dsimp only); intro hf; exact absurd hf (by omega)) | ((try dsimp only); intro hf; have q9 := (hhd (by omega)).2.1; omega)⟩ dX7_viewTold_265
          · exact g_vret F hr hlk hH hS hz ⟨rfl, rfl, hv, hT, pf, by first | omega | rfl | (dsimp only; omega), by first | exact hrow | ((try dsimp only); intro hf; exact absurd hf (by omega)) | ((try dsimp only); intro hf ht hn; exact row_mk (by omega) (hhd (by omega)) (by omega) (hcol (by omega)) (by omega) (by omega) (fun h => absurd h (by omega)) (fun h => absurd h (by omega)) (fun h => absurd h (by omega)) (fun h => absurd h (by omega)) (fun h => absurd h (by omega)) (fun h => absurd h (by omega)) (fun h => absurd h (by omega))), by (try dsimp only); intro hf; omega, by first | ((try dsimp only); intro hf; have q9 := hkq (by omega); omega) | ((try dsimp only); intro hf; exact absurd hf (by omega)) | ((try dsimp only); intro hf; have q9 := (hhd (by omega)).2.1; omega)⟩ dX7_viewTold_165
        refine lv_iload_n F.1 F.2.1 dX7_viewTold_145 rfl (lv_at hl 0 rfl) ?_
        refine z_if_ge (tgt := 154) F dX7_viewTold_146 (by decide) zkd (fun c_151 => ?_) (fun c_151 => ?_)
        · exact cut_154_38 I_25 H locs ls hv pf (by omega) hH hS (lv_sub hl [0, 1] rfl)
        · refine lv_aload_n F.1 F.2.1 dX7_viewTold_149 rfl (lv_at hl 1 rfl) ?_
          refine z_iconst F dX7_viewTold_150 ?_
          refine g_callv (g_runV (As := [.int (iI 1)]) (rest := []) (ci := 7) F hl.1 hH hS hz (c_X7_wrong l g gh T I_25 R J_27 AI AJ_19 AR mo 1 ⟨by decide, by decide⟩ hv hm hT (by omega)) (cwV 1 F.2.2.2.2.1 (good_up gT_X7_wrong) rfl rfl rfl hdX7_wrong ⟨Nat.le_of_ble_eq_true rfl, Nat.le_of_ble_eq_true rfl⟩) hm (by decide) rfl rfl rfl (Nat.le_of_ble_eq_true rfl) dX7_viewTold_151 ⟨Nat.zero_le _, Nat.zero_le _⟩) hS (fun I_152 R_153 J_154 AI_155 AJ_156 AR_157 H locs hp_158 hH hS => ?_)
          dsimp only at hp_158
          obtain ⟨rfl, rfl, rfl, rfl, rfl, hv, pfq, q_159⟩ := hp_158
          have pf := qF_t pf pfq
          have u_160_2 : (I_152 mo 2).toInt = (I mo 2).toInt := by rw [pf 2 (by decide) (by decide) (by decide) (by decide) (by decide)]
          have u_160_5 : (I_152 mo 5).toInt = (I mo 5).toInt := by rw [pf 5 (by decide) (by decide) (by decide) (by decide) (by decide)]
          have u_160_14 : (I_152 mo 14).toInt = (I mo 14).toInt := by rw [pf 14 (by decide) (by decide) (by decide) (by decide) (by decide)]
          have u_160_16 : (I_152 mo 16).toInt = (I mo 16).toInt := by rw [pf 16 (by decide) (by decide) (by decide) (by decide) (by decide)]
          have u_160_18 : (I_152 mo 18).toInt = (I mo 18).toInt := by rw [pf 18 (by decide) (by decide) (by decide) (by decide) (by decide)]
          exact cut_154_38 I_152 H locs ls hv pf (by omega) hH hS (lv_sub hl [0, 1] rfl)
      refine lv_aload_n F.1 F.2.1 dX7_viewTold_36 rfl (lv_at hl 0 rfl) ?_
      refine va_ldcS F.1 F.2.1 F.2.2.2.1 (F.2.2.2.2.2.2.1 9 _ rfl).1 dX7_viewTold_37 ?_
      refine g_calli (g_runV (As := [.ref (gSK g 9)]) (rest := []) (ci := 7) F hl.1 hH hS hz (c_X7_isWord l g gh T 9 _ I_25 R J_27 AI AJ_19 AR mo hv hm hT (rfl : sTab[9]? = some _)) (cwV 1 F.2.2.2.2.1 (good_up gT_X7_isWord) rfl rfl rfl hdX7_isWord ⟨Nat.le_of_ble_eq_true rfl, Nat.le_of_ble_eq_true rfl⟩) hm (by decide) rfl rfl rfl (Nat.le_of_ble_eq_true rfl) dX7_viewTold_39 ⟨Nat.zero_le _, Nat.zero_le _⟩) hS (fun v_167 I_161 R_162 J_163 AI_164 AJ_165 AR_166 H locs zv_167 hp_168 hH hS => ?_)
      dsimp only at hp_168
      obtain ⟨rfl, rfl, rfl, rfl, rfl, rfl, q_169⟩ := hp_168
      refine z_if_eq (tgt := 49) F dX7_viewTold_42 (by decide) zv_167 (fun c_170 => ?_) (fun c_170 => ?_)
      · refine lv_aload_n F.1 F.2.1 dX7_viewTold_49 rfl (lv_at hl 0 rfl) ?_
        refine va_ldcS F.1 F.2.1 F.2.2.2.1 (F.2.2.2.2.2.2.1 12 _ rfl).1 dX7_viewTold_50 ?_
        refine g_calli (g_runV (As := [.ref (gSK g 12)]) (rest := []) (ci := 7) F hl.1 hH hS hz (c_X7_isWord l g gh T 12 _ I_25 R J_27 AI AJ_19 AR mo hv hm hT (rfl : sTab[12]? = some _)) (cwV 1 F.2.2.2.2.1 (good_up gT_X7_isWord) rfl rfl rfl hdX7_isWord ⟨Nat.le_of_ble_eq_true rfl, Nat.le_of_ble_eq_true rfl⟩) hm (by decide) rfl rfl rfl (Nat.le_of_ble_eq_true rfl) dX7_viewTold_52 ⟨Nat.zero_le _, Nat.zero_le _⟩) hS (fun v_177 I_171 R_172 J_173 AI_174 AJ_175 AR_176 H locs zv_177 hp_178 hH hS => ?_)
        dsimp only at hp_178
        obtain ⟨rfl, rfl, rfl, rfl, rfl, rfl, q_179⟩ := hp_178
        refine z_if_eq (tgt := 62) F dX7_viewTold_55 (by decide) zv_177 (fun c_180 => ?_) (fun c_180 => ?_)
        · refine lv_aload_n F.1 F.2.1 dX7_viewTold_62 rfl (lv_at hl 0 rfl) ?_
          refine va_ldcS F.1 F.2.1 F.2.2.2.1 (F.2.2.2.2.2.2.1 13 _ rfl).1 dX7_viewTold_63 ?_
          refine g_calli (g_runV (As := [.ref (gSK g 13)]) (rest := []) (ci := 7) F hl.1 hH hS hz (c_X7_isWord l g gh T 13 _ I_25 R J_27 AI AJ_19 AR mo hv hm hT (rfl : sTab[13]? = some _)) (cwV 1 F.2.2.2.2.1 (good_up gT_X7_isWord) rfl rfl rfl hdX7_isWord ⟨Nat.le_of_ble_eq_true rfl, Nat.le_of_ble_eq_true rfl⟩) hm (by decide) rfl rfl rfl (Nat.le_of_ble_eq_true rfl) dX7_viewTold_65 ⟨Nat.zero_le _, Nat.zero_le _⟩) hS (fun v_187 I_181 R_182 J_183 AI_184 AJ_185 AR_186 H locs zv_187 hp_188 hH hS => ?_)
          dsimp only at hp_188
          obtain ⟨rfl, rfl, rfl, rfl, rfl, rfl, q_189⟩ := hp_188
          refine z_if_eq (tgt := 75) F dX7_viewTold_68 (by decide) zv_187 (fun c_190 => ?_) (fun c_190 => ?_)
          · refine lv_aload_n F.1 F.2.1 dX7_viewTold_75 rfl (lv_at hl 0 rfl) ?_
            refine va_ldcS F.1 F.2.1 F.2.2.2.1 (F.2.2.2.2.2.2.1 15 _ rfl).1 dX7_viewTold_76 ?_
            refine g_calli (g_runV (As := [.ref (gSK g 15)]) (rest := []) (ci := 7) F hl.1 hH hS hz (c_X7_isWord l g gh T 15 _ I_25 R J_27 AI AJ_19 AR mo hv hm hT (rfl : sTab[15]? = some _)) (cwV 1 F.2.2.2.2.1 (good_up gT_X7_isWord) rfl rfl rfl hdX7_isWord ⟨Nat.le_of_ble_eq_true rfl, Nat.le_of_ble_eq_true rfl⟩) hm (by decide) rfl rfl rfl (Nat.le_of_ble_eq_true rfl) dX7_viewTold_78 ⟨Nat.zero_le _, Nat.zero_le _⟩) hS (fun v_197 I_191 R_192 J_193 AI_194 AJ_195 AR_196 H locs zv_197 hp_198 hH hS => ?_)
            dsimp only at hp_198
            obtain ⟨rfl, rfl, rfl, rfl, rfl, rfl, q_199⟩ := hp_198
            refine z_if_eq (tgt := 88) F dX7_viewTold_81 (by decide) zv_197 (fun c_200 => ?_) (fun c_200 => ?_)
            · refine lv_aload_n F.1 F.2.1 dX7_viewTold_88 rfl (lv_at hl 0 rfl) ?_
              refine va_ldcS F.1 F.2.1 F.2.2.2.1 (F.2.2.2.2.2.2.1 16 _ rfl).1 dX7_viewTold_89 ?_
              refine g_calli (g_runV (As := [.ref (gSK g 16)]) (rest := []) (ci := 7) F hl.1 hH hS hz (c_X7_isWord l g gh T 16 _ I_25 R J_27 AI AJ_19 AR mo hv hm hT (rfl : sTab[16]? = some _)) (cwV 1 F.2.2.2.2.1 (good_up gT_X7_isWord) rfl rfl rfl hdX7_isWord ⟨Nat.le_of_ble_eq_true rfl, Nat.le_of_ble_eq_true rfl⟩) hm (by decide) rfl rfl rfl (Nat.le_of_ble_eq_true rfl) dX7_viewTold_91 ⟨Nat.zero_le _, Nat.zero_le _⟩) hS (fun v_207 I_201 R_202 J_203 AI_204 AJ_205 AR_206 H locs zv_207 hp_208 hH hS => ?_)
              dsimp only at hp_208
              obtain ⟨rfl, rfl, rfl, rfl, rfl, rfl, q_209⟩ := hp_208
              refine z_if_eq (tgt := 101) F dX7_viewTold_94 (by decide) zv_207 (fun c_210 => ?_) (fun c_210 => ?_)
              · refine lv_aload_n F.1 F.2.1 dX7_viewTold_101 rfl (lv_at hl 0 rfl) ?_
                refine va_ldcS F.1 F.2.1 F.2.2.2.1 (F.2.2.2.2.2.2.1 17 _ rfl).1 dX7_viewTold_102 ?_
                refine g_calli (g_runV (As := [.ref (gSK g 17)]) (rest := []) (ci := 7) F hl.1 hH hS hz (c_X7_isWord l g gh T 17 _ I_25 R J_27 AI AJ_19 AR mo hv hm hT (rfl : sTab[17]? = some _)) (cwV 1 F.2.2.2.2.1 (good_up gT_X7_isWord) rfl rfl rfl hdX7_isWord ⟨Nat.le_of_ble_eq_true rfl, Nat.le_of_ble_eq_true rfl⟩) hm (by decide) rfl rfl rfl (Nat.le_of_ble_eq_true rfl) dX7_viewTold_104 ⟨Nat.zero_le _, Nat.zero_le _⟩) hS (fun v_217 I_211 R_212 J_213 AI_214 AJ_215 AR_216 H locs zv_217 hp_218 hH hS => ?_)
                dsimp only at hp_218
                obtain ⟨rfl, rfl, rfl, rfl, rfl, rfl, q_219⟩ := hp_218
                refine z_if_eq (tgt := 115) F dX7_viewTold_107 (by decide) zv_217 (fun c_220 => ?_) (fun c_220 => ?_)
                · refine lv_aload_n F.1 F.2.1 dX7_viewTold_115 rfl (lv_at hl 0 rfl) ?_
                  refine va_ldcS F.1 F.2.1 F.2.2.2.1 (F.2.2.2.2.2.2.1 18 _ rfl).1 dX7_viewTold_116 ?_
                  refine g_calli (g_runV (As := [.ref (gSK g 18)]) (rest := []) (ci := 7) F hl.1 hH hS hz (c_X7_isWord l g gh T 18 _ I_25 R J_27 AI AJ_19 AR mo hv hm hT (rfl : sTab[18]? = some _)) (cwV 1 F.2.2.2.2.1 (good_up gT_X7_isWord) rfl rfl rfl hdX7_isWord ⟨Nat.le_of_ble_eq_true rfl, Nat.le_of_ble_eq_true rfl⟩) hm (by decide) rfl rfl rfl (Nat.le_of_ble_eq_true rfl) dX7_viewTold_118 ⟨Nat.zero_le _, Nat.zero_le _⟩) hS (fun v_227 I_221 R_222 J_223 AI_224 AJ_225 AR_226 H locs zv_227 hp_228 hH hS => ?_)
                  dsimp only at hp_228
                  obtain ⟨rfl, rfl, rfl, rfl, rfl, rfl, q_229⟩ := hp_228
                  refine z_if_eq (tgt := 129) F dX7_viewTold_121 (by decide) zv_227 (fun c_230 => ?_) (fun c_230 => ?_)
                  · refine lv_aload_n F.1 F.2.1 dX7_viewTold_129 rfl (lv_at hl 0 rfl) ?_
                    refine va_ldcS F.1 F.2.1 F.2.2.2.1 (F.2.2.2.2.2.2.1 24 _ rfl).1 dX7_viewTold_130 ?_
                    refine g_calli (g_runV (As := [.ref (gSK g 24)]) (rest := []) (ci := 7) F hl.1 hH hS hz (c_X7_isWord l g gh T 24 _ I_25 R J_27 AI AJ_19 AR mo hv hm hT (rfl : sTab[24]? = some _)) (cwV 1 F.2.2.2.2.1 (good_up gT_X7_isWord) rfl rfl rfl hdX7_isWord ⟨Nat.le_of_ble_eq_true rfl, Nat.le_of_ble_eq_true rfl⟩) hm (by decide) rfl rfl rfl (Nat.le_of_ble_eq_true rfl) dX7_viewTold_132 ⟨Nat.zero_le _, Nat.zero_le _⟩) hS (fun v_237 I_231 R_232 J_233 AI_234 AJ_235 AR_236 H locs zv_237 hp_238 hH hS => ?_)
                    dsimp only at hp_238
                    obtain ⟨rfl, rfl, rfl, rfl, rfl, rfl, q_239⟩ := hp_238
                    refine z_if_eq (tgt := 143) F dX7_viewTold_135 (by decide) zv_237 (fun c_240 => ?_) (fun c_240 => ?_)
                    · refine z_iconst F dX7_viewTold_143 ?_
                      exact cut_144_36 (-1) H locs ls ⟨by decide, by decide⟩ (by omega) hH hS (lv_sub hl [0] rfl)
                    · refine z_bipush F dX7_viewTold_138 (by decide) ?_
                      refine z_goto (tgt := 144) F dX7_viewTold_140 (by decide) ?_
                      exact cut_144_36 8 H locs ls ⟨by decide, by decide⟩ (by omega) hH hS (lv_sub hl [0] rfl)
                  · refine z_bipush F dX7_viewTold_124 (by decide) ?_
                    refine z_goto (tgt := 144) F dX7_viewTold_126 (by decide) ?_
                    exact cut_144_36 7 H locs ls ⟨by decide, by decide⟩ (by omega) hH hS (lv_sub hl [0] rfl)
                · refine z_bipush F dX7_viewTold_110 (by decide) ?_
                  refine z_goto (tgt := 144) F dX7_viewTold_112 (by decide) ?_
                  exact cut_144_36 6 H locs ls ⟨by decide, by decide⟩ (by omega) hH hS (lv_sub hl [0] rfl)
              · refine z_iconst F dX7_viewTold_97 ?_
                refine z_goto (tgt := 144) F dX7_viewTold_98 (by decide) ?_
                exact cut_144_36 5 H locs ls ⟨by decide, by decide⟩ (by omega) hH hS (lv_sub hl [0] rfl)
            · refine z_iconst F dX7_viewTold_84 ?_
              refine z_goto (tgt := 144) F dX7_viewTold_85 (by decide) ?_
              exact cut_144_36 4 H locs ls ⟨by decide, by decide⟩ (by omega) hH hS (lv_sub hl [0] rfl)
          · refine z_iconst F dX7_viewTold_71 ?_
            refine z_goto (tgt := 144) F dX7_viewTold_72 (by decide) ?_
            exact cut_144_36 3 H locs ls ⟨by decide, by decide⟩ (by omega) hH hS (lv_sub hl [0] rfl)
        · refine z_iconst F dX7_viewTold_58 ?_
          refine z_goto (tgt := 144) F dX7_viewTold_59 (by decide) ?_
          exact cut_144_36 2 H locs ls ⟨by decide, by decide⟩ (by omega) hH hS (lv_sub hl [0] rfl)
      · refine z_iconst F dX7_viewTold_45 ?_
        refine z_goto (tgt := 144) F dX7_viewTold_46 (by decide) ?_
        exact cut_144_36 1 H locs ls ⟨by decide, by decide⟩ (by omega) hH hS (lv_sub hl [0] rfl)
    · exact g_vret F hr hlk hH hS hz ⟨rfl, rfl, hv, hT, pf, by first | omega | rfl | (dsimp only; omega), by first | exact hrow | ((try dsimp only); intro hf; exact absurd hf (by omega)) | ((try dsimp only); intro hf ht hn; exact row_mk (by omega) (hhd (by omega)) (by omega) (hcol (by omega)) (by omega) (by omega) (fun h => absurd h (by omega)) (fun h => absurd h (by omega)) (fun h => absurd h (by omega)) (fun h => absurd h (by omega)) (fun h => absurd h (by omega)) (fun h => absurd h (by omega)) (fun h => absurd h (by omega))), by (try dsimp only); intro hf; omega, by first | ((try dsimp only); intro hf; have q9 := hkq (by omega); omega) | ((try dsimp only); intro hf; exact absurd hf (by omega)) | ((try dsimp only); intro hf; have q9 := (hhd (by omega)).2.1; omega)⟩ dX7_viewTold_35
  refine lv_aload_n F.1 F.2.1 dX7_viewTold_0 rfl (lv_at hl 0 rfl) ?_
  refine g_getI (ci := 7) (k := 5) F hH rfl (by decide) iX7 hm (by decide) rfl k184 dX7_viewTold_1 ?_
  have b_241 := mJ hv hm
  unfold mNum1 at b_241
  refine z_bipush F dX7_viewTold_4 (by decide) ?_
  refine z_icmp_ne (tgt := 14) F dX7_viewTold_6 (by decide) (zr_t _) ⟨by decide, by decide⟩ (fun c_242 => ?_) (fun c_242 => ?_)
  · exact cut_14_1 I H locs ls hv pf (by omega) hH hS (lv_sub hl [0] rfl)
  · refine lv_aload_n F.1 F.2.1 dX7_viewTold_9 rfl (lv_at hl 0 rfl) ?_
    refine z_iconst F dX7_viewTold_10 ?_
    refine g_callv (g_runV (As := [.int (iI 4)]) (rest := []) (ci := 7) F hl.1 hH hS hz (c_X7_wrong l g gh T I R J AI AJ AR mo 4 ⟨by decide, by decide⟩ hv hm hT (by omega)) (cwV 1 F.2.2.2.2.1 (good_up gT_X7_wrong) rfl rfl rfl hdX7_wrong ⟨Nat.le_of_ble_eq_true rfl, Nat.le_of_ble_eq_true rfl⟩) hm (by decide) rfl rfl rfl (Nat.le_of_ble_eq_true rfl) dX7_viewTold_11 ⟨Nat.zero_le _, Nat.zero_le _⟩) hS (fun I_243 R_244 J_245 AI_246 AJ_247 AR_248 H locs hp_249 hH hS => ?_)
    dsimp only at hp_249
    obtain ⟨rfl, rfl, rfl, rfl, rfl, hv, pfq, q_250⟩ := hp_249
    have pf := qF_t pf pfq
    have u_251_2 : (I_243 mo 2).toInt = (I mo 2).toInt := by rw [pf 2 (by decide) (by decide) (by decide) (by decide) (by decide)]
    have u_251_5 : (I_243 mo 5).toInt = (I mo 5).toInt := by rw [pf 5 (by decide) (by decide) (by decide) (by decide) (by decide)]
    have u_251_14 : (I_243 mo 14).toInt = (I mo 14).toInt := by rw [pf 14 (by decide) (by decide) (by decide) (by decide) (by decide)]
    have u_251_16 : (I_243 mo 16).toInt = (I mo 16).toInt := by rw [pf 16 (by decide) (by decide) (by decide) (by decide) (by decide)]
    have u_251_18 : (I_243 mo 18).toInt = (I mo 18).toInt := by rw [pf 18 (by decide) (by decide) (by decide) (by decide) (by decide)]
    exact cut_14_1 I_243 H locs ls hv pf (by omega) hH hS (lv_sub hl [0] rfl)
