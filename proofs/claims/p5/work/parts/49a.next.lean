def rmX7_wrong : Room := { frames := 0, cells := 0, slots := 0, locals := 0 }
theorem hdX7_wrong : yX7_wrong.cls = RX7 ∧ yX7_wrong.cls ≠ "java/lang/invoke/MethodHandle" ∧ yX7_wrong.cls ≠ "java/lang/invoke/VarHandle" ∧ (parseMethodDescriptor yX7_wrong.desc).map (fun d => d.parameters.length) = some 1 := by decide +kernel
set_option maxHeartbeats 4000000 in
set_option maxRecDepth 100000 in
/-- a fault -/
theorem c_X7_wrong (l : Launch) (g : gG) (gh : gGh) (T : Nat → Int32) (I : gI) (R : gR) (J : gJ) (AI : gI) (AJ : gJ) (AR : gR) (mo : Nat) (kd : Int) (zkd : zr kd) (hv : mInv g gh R I AI) (hm : gO g mo 7) (hT : AI (gh 50 0) = T) (hk : 1 ≤ kd ∧ kd ≤ 8) : gMet l g yX7_wrong tsX7_wrong rmX7_wrong [.ref mo, .int (iI kd)] (I, R, J, AI, AJ, AR) (gQv g (fun w : gS => R = w.2.1 ∧ J = w.2.2.1 ∧ AI = w.2.2.2.1 ∧ AJ = w.2.2.2.2.1 ∧ AR = w.2.2.2.2.2 ∧ (mInv g gh R (w.1) AI) ∧ (qF mo I (w.1)) ∧ (0 < ((w.1) mo 24).toInt ∧ (I mo 24).toInt ≤ ((w.1) mo 24).toInt ∧ ((w.1) mo 20).toInt = (I mo 20).toInt))) := by
  refine gStart (cc := cX7_wrong) (maxL := 2) (ret := none) (by decide) rfl (Nat.le_of_ble_eq_true rfl) ?_
  intro p e s m below meth c ls F hr hlk hH hz hS hl
  have hl : lv_has ls 2 [(0, .ref mo), (1, .int (iI kd))] := hl
  have hS : va_S (gA g) s.heap s.heap [] := hS
  obtain ⟨H, hHe⟩ : ∃ H : Heap, H = s.heap := ⟨_, rfl⟩
  obtain ⟨locs, hlo⟩ : ∃ k : List Loc, k = [] := ⟨_, rfl⟩
  have hH : gH g I R J AI AJ AR H := by rw [hHe]; exact hH
  have hS : va_S (gA g) s.heap H locs := by rw [hHe, hlo]; exact hS
  suffices hw : W p l e rmX7_wrong s m ([.ref mo, .int (iI kd)] : List Value).toArray below meth c H locs 0 0 (MQ below (gQv g (fun w : gS => R = w.2.1 ∧ J = w.2.2.1 ∧ AI = w.2.2.2.1 ∧ AJ = w.2.2.2.2.1 ∧ AR = w.2.2.2.2.2 ∧ (mInv g gh R (w.1) AI) ∧ (qF mo I (w.1)) ∧ (0 < ((w.1) mo 24).toInt ∧ (I mo 24).toInt ≤ ((w.1) mo 24).toInt ∧ ((w.1) mo 20).toInt = (I mo 20).toInt))) ([.ref mo, .int (iI kd)] : List Value).toArray s 0 0 (gA g)) (F0 m 0 ls []) by
    rw [hHe, hlo] at hw; exact hw
  clear hHe hlo
  have pf : qF mo I I := qF_r
  have iX7 : ∀ w ∈ u_ws RX7 TX7 32, w ∈ tsX7_wrong := fun w h => List.mem_cons_of_mem _ (inTB7 w h)
  have k81 : Cond.fieldLink RX7 81 (TX7 24).1 (TX7 24).2.1 (TX7 24).2.2.1 ∈ tsX7_wrong := List.mem_cons_of_mem _ fl_81
  have k91 : Cond.fieldLink RX7 91 (TX7 19).1 (TX7 19).2.1 (TX7 19).2.2.1 ∈ tsX7_wrong := List.mem_cons_of_mem _ fl_91
  refine lv_aload_n F.1 F.2.1 dX7_wrong_0 rfl (lv_at hl 0 rfl) ?_
  refine g_getI (ci := 7) (k := 24) F hH rfl (by decide) iX7 hm (by decide) rfl k81 dX7_wrong_1 ?_
  have b_1 := mJ hv hm
  unfold mNum1 at b_1
  refine z_if_ne (tgt := 20) F dX7_wrong_4 (by decide) (zr_t _) (fun c_2 => ?_) (fun c_2 => ?_)
  · exact g_vret F hr hlk hH hS hz ⟨rfl, rfl, rfl, rfl, rfl, hv, pf, by first | omega | rfl | (dsimp only; omega)⟩ dX7_wrong_20
  · refine lv_aload_n F.1 F.2.1 dX7_wrong_7 rfl (lv_at hl 0 rfl) ?_
    refine z_bipush F dX7_wrong_8 (by decide) ?_
    refine lv_aload_n F.1 F.2.1 dX7_wrong_10 rfl (lv_at hl 0 rfl) ?_
    refine g_getI (ci := 7) (k := 19) F hH rfl (by decide) iX7 hm (by decide) rfl k91 dX7_wrong_11 ?_
    refine z_imul F dX7_wrong_14 ?_
    refine lv_iload_n F.1 F.2.1 dX7_wrong_15 rfl (lv_at hl 1 rfl) ?_
    refine z_iadd F dX7_wrong_16 ?_
    refine g_putI (ci := 7) (k := 24) F hH hS rfl (by decide) iX7 hm (by decide) tyX7 tyX7_ok nmX7 rfl rfl rfl k81 dX7_wrong_17 (fun H locs hH hS => ?_)
    obtain ⟨I_3, eI_3⟩ : ∃ qQ, qQ = gup2 I mo 24 (iI ((8 * ((I mo 19).toInt)) + kd)) := ⟨_, rfl⟩
    rw [← eI_3] at hH
    have kI_3 : ∀ b, b ≠ mo → I_3 b = I b := fun b hb => by rw [eI_3]; exact funext fun j => gup2_a _ _ hb
    have w_4 : (I_3 mo 24).toInt = (8 * ((I mo 19).toInt)) + kd := by rw [eI_3, gup2_s]; exact iI_val ⟨by omega, by omega⟩
    have hv : mInv g gh R I_3 AI := by rw [eI_3]; exact mP24 hv hm (by omega) (by omega)
    have pf : qF mo I I_3 := qF_t pf (by rw [eI_3]; exact qF_p (by decide))
    have u_5_2 : (I_3 mo 2).toInt = (I mo 2).toInt := by rw [pf 2 (by decide) (by decide) (by decide) (by decide) (by decide)]
    have u_5_5 : (I_3 mo 5).toInt = (I mo 5).toInt := by rw [pf 5 (by decide) (by decide) (by decide) (by decide) (by decide)]
    have u_5_14 : (I_3 mo 14).toInt = (I mo 14).toInt := by rw [pf 14 (by decide) (by decide) (by decide) (by decide) (by decide)]
    have u_5_16 : (I_3 mo 16).toInt = (I mo 16).toInt := by rw [pf 16 (by decide) (by decide) (by decide) (by decide) (by decide)]
    have u_5_18 : (I_3 mo 18).toInt = (I mo 18).toInt := by rw [pf 18 (by decide) (by decide) (by decide) (by decide) (by decide)]
    have w_4_k19 : (I_3 mo 19).toInt = (I mo 19).toInt := by rw [eI_3, gup2_k _ _ (by decide)]
    have w_4_k20 : (I_3 mo 20).toInt = (I mo 20).toInt := by rw [eI_3, gup2_k _ _ (by decide)]
    have w_4_k21 : (I_3 mo 21).toInt = (I mo 21).toInt := by rw [eI_3, gup2_k _ _ (by decide)]
    have w_4_k23 : (I_3 mo 23).toInt = (I mo 23).toInt := by rw [eI_3, gup2_k _ _ (by decide)]
    exact g_vret F hr hlk hH hS hz ⟨rfl, rfl, rfl, rfl, rfl, hv, pf, by first | omega | rfl | (dsimp only; omega)⟩ dX7_wrong_20

def rmX7_runs : Room := { frames := 1, cells := 0, slots := 0, locals := 21 }
theorem hdX7_runs : yX7_runs.cls = RX7 ∧ yX7_runs.cls ≠ "java/lang/invoke/MethodHandle" ∧ yX7_runs.cls ≠ "java/lang/invoke/VarHandle" ∧ (parseMethodDescriptor yX7_runs.desc).map (fun d => d.parameters.length) = some 1 := by decide +kernel
set_option maxHeartbeats 4000000 in
set_option maxRecDepth 100000 in
/-- a run of letters and digits -/
theorem c_X7_runs (l : Launch) (g : gG) (gh : gGh) (T : Nat → Int32) (I : gI) (R : gR) (J : gJ) (AI : gI) (AJ : gJ) (AR : gR) (mo : Nat) (kp : Int) (zkp : zr kp) (hv : mInv g gh R I AI) (hm : gO g mo 7) (hT : AI (gh 50 0) = T) (hE : (I mo 20).toInt ≤ 936) (h0 : 0 ≤ kp ∧ kp ≤ 936) (ht : (I mo 21).toInt = 5) : gMet l g yX7_runs tsX7_runs rmX7_runs [.ref mo, .int (iI kp)] (I, R, J, AI, AJ, AR) (gQv g (fun w : gS => R = w.2.1 ∧ AI = w.2.2.2.1 ∧ AJ = w.2.2.2.2.1 ∧ AR = w.2.2.2.2.2 ∧ (mInv g gh R (w.1) AI) ∧ (qF mo I (w.1)) ∧ (((w.1) mo 20).toInt ≤ 936 ∧ (I mo 24).toInt ≤ ((w.1) mo 24).toInt) ∧ (((w.1) mo 24).toInt = (I mo 24).toInt))) := by
  refine gStart (cc := cX7_runs) (maxL := 5) (ret := none) (by decide) rfl (Nat.le_of_ble_eq_true rfl) ?_
  intro p e s m below meth c ls F hr hlk hH hz hS hl
  have hl : lv_has ls 5 [(0, .ref mo), (1, .int (iI kp))] := hl
  have hS : va_S (gA g) s.heap s.heap [] := hS
  obtain ⟨H, hHe⟩ : ∃ H : Heap, H = s.heap := ⟨_, rfl⟩
  obtain ⟨locs, hlo⟩ : ∃ k : List Loc, k = [] := ⟨_, rfl⟩
  have hH : gH g I R J AI AJ AR H := by rw [hHe]; exact hH
  have hS : va_S (gA g) s.heap H locs := by rw [hHe, hlo]; exact hS
  suffices hw : W p l e rmX7_runs s m ([.ref mo, .int (iI kp)] : List Value).toArray below meth c H locs 0 0 (MQ below (gQv g (fun w : gS => R = w.2.1 ∧ AI = w.2.2.2.1 ∧ AJ = w.2.2.2.2.1 ∧ AR = w.2.2.2.2.2 ∧ (mInv g gh R (w.1) AI) ∧ (qF mo I (w.1)) ∧ (((w.1) mo 20).toInt ≤ 936 ∧ (I mo 24).toInt ≤ ((w.1) mo 24).toInt) ∧ (((w.1) mo 24).toInt = (I mo 24).toInt))) ([.ref mo, .int (iI kp)] : List Value).toArray s 0 0 (gA g)) (F0 m 0 ls []) by
    rw [hHe, hlo] at hw; exact hw
  clear hHe hlo
  have pf : qF mo I I := qF_r
  have hb0 := mJ hv hm
  unfold mNum1 at hb0
  have iX7 : ∀ w ∈ u_ws RX7 TX7 32, w ∈ tsX7_runs := fun w h => List.mem_cons_of_mem _ (inTB7 w h)
  have k111 : Cond.fieldLink RX7 111 (TX7 22).1 (TX7 22).2.1 (TX7 22).2.2.1 ∈ tsX7_runs := List.mem_cons_of_mem _ fl_111
  have k97 : Cond.fieldLink RX7 97 (TX7 23).1 (TX7 23).2.1 (TX7 23).2.2.1 ∈ tsX7_runs := List.mem_cons_of_mem _ fl_97
  have k84 : Cond.fieldLink RX7 84 (TX7 20).1 (TX7 20).2.1 (TX7 20).2.2.1 ∈ tsX7_runs := List.mem_cons_of_mem _ fl_84
  have k94 : Cond.fieldLink RX7 94 (TX7 21).1 (TX7 21).2.1 (TX7 21).2.2.1 ∈ tsX7_runs := List.mem_cons_of_mem _ fl_94
  have k39 : Cond.fieldLink RX7 39 (TX7 15).1 (TX7 15).2.1 (TX7 15).2.2.1 ∈ tsX7_runs := List.mem_cons_of_mem _ fl_39
  refine z_iconst F dX7_runs_0 ?_
  refine lv_istore_n (lv' := [(2, .int (iI 0)), (0, .ref mo), (1, .int (iI kp))]) F.1 F.2.1 dX7_runs_1 rfl hl (by decide) rfl (fun ls hl => ?_)
  refine lv_iload_n F.1 F.2.1 dX7_runs_2 rfl (lv_at hl 2 rfl) ?_
  refine lv_istore_n (lv' := [(3, .int (iI kp)), (2, .int (iI 0)), (0, .ref mo), (1, .int (iI kp))]) F.1 F.2.1 dX7_runs_3 rfl hl (by decide) rfl (fun ls hl => ?_)
  refine lv_aload_n F.1 F.2.1 dX7_runs_4 rfl (lv_at hl 2 rfl) ?_
  refine lv_lconst (v := 0) F.1 F.2.1 dX7_runs_5 (by decide) ?_
  refine g_putJ (ci := 7) (k := 22) F hH hS rfl (by decide) iX7 hm (by decide) tyX7 tyX7_ok nmX7 rfl rfl rfl k111 dX7_runs_6 (fun H locs hH hS => ?_)
  obtain ⟨J_2, eJ_2⟩ : ∃ qQ, qQ = gup2 J mo 22 (0) := ⟨_, rfl⟩
  rw [← eJ_2] at hH
  have kJ_2 : ∀ b, b ≠ mo → J_2 b = J b := fun b hb => by rw [eJ_2]; exact funext fun j => gup2_a _ _ hb
  refine lv_aload_n F.1 F.2.1 dX7_runs_9 rfl (lv_at hl 2 rfl) ?_
  refine z_iconst F dX7_runs_10 ?_
  refine g_putI (ci := 7) (k := 23) F hH hS rfl (by decide) iX7 hm (by decide) tyX7 tyX7_ok nmX7 rfl rfl rfl k97 dX7_runs_11 (fun H locs hH hS => ?_)
  obtain ⟨I_3, eI_3⟩ : ∃ qQ, qQ = gup2 I mo 23 (iI (0)) := ⟨_, rfl⟩
  rw [← eI_3] at hH
  have kI_3 : ∀ b, b ≠ mo → I_3 b = I b := fun b hb => by rw [eI_3]; exact funext fun j => gup2_a _ _ hb
  have w_4 : (I_3 mo 23).toInt = 0 := by rw [eI_3, gup2_s]; exact iI_val ⟨by decide, by decide⟩
  have hv : mInv g gh R I_3 AI := by rw [eI_3]; exact mP23 hv hm ⟨by decide, by decide⟩ (by omega)
  have pf : qF mo I I_3 := qF_t pf (by rw [eI_3]; exact qF_p (by decide))
  have u_5_2 : (I_3 mo 2).toInt = (I mo 2).toInt := by rw [pf 2 (by decide) (by decide) (by decide) (by decide) (by decide)]
  have u_5_5 : (I_3 mo 5).toInt = (I mo 5).toInt := by rw [pf 5 (by decide) (by decide) (by decide) (by decide) (by decide)]
  have u_5_14 : (I_3 mo 14).toInt = (I mo 14).toInt := by rw [pf 14 (by decide) (by decide) (by decide) (by decide) (by decide)]
  have u_5_16 : (I_3 mo 16).toInt = (I mo 16).toInt := by rw [pf 16 (by decide) (by decide) (by decide) (by decide) (by decide)]
  have u_5_18 : (I_3 mo 18).toInt = (I mo 18).toInt := by rw [pf 18 (by decide) (by decide) (by decide) (by decide) (by decide)]
  have w_4_k20 : (I_3 mo 20).toInt = (I mo 20).toInt := by rw [eI_3, gup2_k _ _ (by decide)]
  have w_4_k21 : (I_3 mo 21).toInt = (I mo 21).toInt := by rw [eI_3, gup2_k _ _ (by decide)]
  have w_4_k24 : (I_3 mo 24).toInt = (I mo 24).toInt := by rw [eI_3, gup2_k _ _ (by decide)]
  have cut_14_7 : ∀ (NN : Nat) (lt e1 : Int) (I_6 : gI) (J_7 : gJ) (H : Heap) (locs : List Loc) (ls : Array Slot), zr lt → zr e1 → (mInv g gh R I_6 AI) → (qF mo I I_6) → (kp ≤ e1 ∧ e1 ≤ 936 ∧ 0 ≤ lt ∧ lt ≤ e1 - kp ∧ (I_6 mo 21).toInt = 5 ∧ (I_6 mo 20).toInt ≤ 936 ∧ (I_6 mo 24).toInt = (I mo 24).toInt) → (((I_6 mo 23).toInt = 0 ∧ e1 = kp ∨ 0 ≤ (I_6 mo 23).toInt ∧ (e1 - kp = 1 ∧ (I_6 mo 23).toInt ≤ 9 ∨ e1 - kp = 2 ∧ (I_6 mo 23).toInt ≤ 99 ∨ e1 - kp = 3 ∧ (I_6 mo 23).toInt ≤ 999 ∨ 4 ≤ e1 - kp ∧ (I_6 mo 23).toInt ≤ 9999))) → (936 - e1) < ((NN : Nat) : Int) → gH g I_6 R J_7 AI AJ AR H → va_S (gA g) s.heap H locs → lv_has ls 5 [(3, .int (iI e1)), (2, .int (iI lt)), (0, .ref mo), (1, .int (iI kp))] → W p l e rmX7_runs s m ([.ref mo, .int (iI kp)] : List Value).toArray below meth c H locs 0 0 (MQ below (gQv g (fun w : gS => R = w.2.1 ∧ AI = w.2.2.2.1 ∧ AJ = w.2.2.2.2.1 ∧ AR = w.2.2.2.2.2 ∧ (mInv g gh R (w.1) AI) ∧ (qF mo I (w.1)) ∧ (((w.1) mo 20).toInt ≤ 936 ∧ (I mo 24).toInt ≤ ((w.1) mo 24).toInt) ∧ (((w.1) mo 24).toInt = (I mo 24).toInt))) ([.ref mo, .int (iI kp)] : List Value).toArray s 0 0 (gA g)) (F0 m 14 ls []) := by
    intro NN14
    induction NN14 with
    | zero =>
      intro lt e1 I_6 J_7 H locs ls zlt ze1 hv pf hx hnum hm14 hH hS hl
      exact absurd hm14 (by omega)
    | succ NN14 ih14 =>
      intro lt e1 I_6 J_7 H locs ls zlt ze1 hv pf hx hnum hm14 hH hS hl
      have uc_2 : (I_6 mo 2).toInt = (I mo 2).toInt := by rw [pf 2 (by decide) (by decide) (by decide) (by decide) (by decide)]
      have uc_5 : (I_6 mo 5).toInt = (I mo 5).toInt := by rw [pf 5 (by decide) (by decide) (by decide) (by decide) (by decide)]
      have uc_14 : (I_6 mo 14).toInt = (I mo 14).toInt := by rw [pf 14 (by decide) (by decide) (by decide) (by decide) (by decide)]
      have uc_16 : (I_6 mo 16).toInt = (I mo 16).toInt := by rw [pf 16 (by decide) (by decide) (by decide) (by decide) (by decide)]
      have uc_18 : (I_6 mo 18).toInt = (I mo 18).toInt := by rw [pf 18 (by decide) (by decide) (by decide) (by decide) (by decide)]
      have cut_36_8 : ∀ (H : Heap) (locs : List Loc) (ls : Array Slot), (e1 < (I mo 18).toInt) → gH g I_6 R J_7 AI AJ AR H → va_S (gA g) s.heap H locs → lv_has ls 5 [(3, .int (iI e1)), (2, .int (iI lt)), (0, .ref mo), (1, .int (iI kp))] → W p l e rmX7_runs s m ([.ref mo, .int (iI kp)] : List Value).toArray below meth c H locs 0 0 (MQ below (gQv g (fun w : gS => R = w.2.1 ∧ AI = w.2.2.2.1 ∧ AJ = w.2.2.2.2.1 ∧ AR = w.2.2.2.2.2 ∧ (mInv g gh R (w.1) AI) ∧ (qF mo I (w.1)) ∧ (((w.1) mo 20).toInt ≤ 936 ∧ (I mo 24).toInt ≤ ((w.1) mo 24).toInt) ∧ (((w.1) mo 24).toInt = (I mo 24).toInt))) ([.ref mo, .int (iI kp)] : List Value).toArray s 0 0 (gA g)) (F0 m 36 ls []) := by
        intro H locs ls h36 hH hS hl
        refine lv_aload_n F.1 F.2.1 dX7_runs_36 rfl (lv_at hl 2 rfl) ?_
        refine lv_iload_n F.1 F.2.1 dX7_runs_37 rfl (lv_at hl 0 rfl) ?_
        have b_10 := mJ hv hm
        unfold mNum1 at b_10
        refine g_calli (g_runV (As := [.int (iI e1)]) (rest := []) (ci := 7) F hl.1 hH hS hz (c_X7_byteAt l g gh T I_6 R J_7 AI AJ AR mo e1 ze1 hv hm hT (by omega)) (cwV 1 F.2.2.2.2.1 (good_up gT_X7_byteAt) rfl rfl rfl hdX7_byteAt ⟨Nat.le_of_ble_eq_true rfl, Nat.le_of_ble_eq_true rfl⟩) hm (by decide) rfl rfl rfl (Nat.le_of_ble_eq_true rfl) dX7_runs_38 ⟨Nat.zero_le _, Nat.zero_le _⟩) hS (fun v_17 I_11 R_12 J_13 AI_14 AJ_15 AR_16 H locs zv_17 hp_18 hH hS => ?_)
        dsimp only at hp_18
        obtain ⟨rfl, rfl, rfl, rfl, rfl, rfl, q_19⟩ := hp_18
        refine lv_istore (lv' := [(4, .int (iI v_17)), (3, .int (iI e1)), (2, .int (iI lt)), (0, .ref mo), (1, .int (iI kp))]) F.1 F.2.1 dX7_runs_41 hl (by decide) rfl (fun ls hl => ?_)
        have cut_54_19 : ∀ (lt2 : Int) (H : Heap) (locs : List Loc) (ls : Array Slot), zr lt2 → (0 ≤ lt2 ∧ lt2 ≤ e1 - kp + 1) → gH g I_6 R J_7 AI AJ AR H → va_S (gA g) s.heap H locs → lv_has ls 5 [(4, .int (iI v_17)), (3, .int (iI e1)), (2, .int (iI lt2)), (0, .ref mo), (1, .int (iI kp))] → W p l e rmX7_runs s m ([.ref mo, .int (iI kp)] : List Value).toArray below meth c H locs 0 0 (MQ below (gQv g (fun w : gS => R = w.2.1 ∧ AI = w.2.2.2.1 ∧ AJ = w.2.2.2.2.1 ∧ AR = w.2.2.2.2.2 ∧ (mInv g gh R (w.1) AI) ∧ (qF mo I (w.1)) ∧ (((w.1) mo 20).toInt ≤ 936 ∧ (I mo 24).toInt ≤ ((w.1) mo 24).toInt) ∧ (((w.1) mo 24).toInt = (I mo 24).toInt))) ([.ref mo, .int (iI kp)] : List Value).toArray s 0 0 (gA g)) (F0 m 54 ls []) := by
          intro lt2 H locs ls zlt2 hl2 hH hS hl
          have cut_78_21 : ∀ (J_21 : gJ) (H : Heap) (locs : List Loc) (ls : Array Slot), (mInv g gh R I_6 AI) → gH g I_6 R J_21 AI AJ AR H → va_S (gA g) s.heap H locs → lv_has ls 5 [(4, .int (iI v_17)), (3, .int (iI e1)), (2, .int (iI lt2)), (0, .ref mo), (1, .int (iI kp))] → W p l e rmX7_runs s m ([.ref mo, .int (iI kp)] : List Value).toArray below meth c H locs 0 0 (MQ below (gQv g (fun w : gS => R = w.2.1 ∧ AI = w.2.2.2.1 ∧ AJ = w.2.2.2.2.1 ∧ AR = w.2.2.2.2.2 ∧ (mInv g gh R (w.1) AI) ∧ (qF mo I (w.1)) ∧ (((w.1) mo 20).toInt ≤ 936 ∧ (I mo 24).toInt ≤ ((w.1) mo 24).toInt) ∧ (((w.1) mo 24).toInt = (I mo 24).toInt))) ([.ref mo, .int (iI kp)] : List Value).toArray s 0 0 (gA g)) (F0 m 78 ls []) := by
            intro J_21 H locs ls hv hH hS hl
            have cut_110_23 : ∀ (I_23 : gI) (H : Heap) (locs : List Loc) (ls : Array Slot), (mInv g gh R I_23 AI) → (qF mo I I_23) → ((I_23 mo 21).toInt = 5 ∧ (I_23 mo 20).toInt ≤ 936 ∧ (I_23 mo 24).toInt = (I mo 24).toInt) → ((0 ≤ (I_23 mo 23).toInt ∧ (e1 - kp = 0 ∧ (I_23 mo 23).toInt ≤ 9 ∨ e1 - kp = 1 ∧ (I_23 mo 23).toInt ≤ 99 ∨ e1 - kp = 2 ∧ (I_23 mo 23).toInt ≤ 999 ∨ 3 ≤ e1 - kp ∧ (I_23 mo 23).toInt ≤ 9999))) → gH g I_23 R J_21 AI AJ AR H → va_S (gA g) s.heap H locs → lv_has ls 5 [(4, .int (iI v_17)), (3, .int (iI e1)), (2, .int (iI lt2)), (0, .ref mo), (1, .int (iI kp))] → W p l e rmX7_runs s m ([.ref mo, .int (iI kp)] : List Value).toArray below meth c H locs 0 0 (MQ below (gQv g (fun w : gS => R = w.2.1 ∧ AI = w.2.2.2.1 ∧ AJ = w.2.2.2.2.1 ∧ AR = w.2.2.2.2.2 ∧ (mInv g gh R (w.1) AI) ∧ (qF mo I (w.1)) ∧ (((w.1) mo 20).toInt ≤ 936 ∧ (I mo 24).toInt ≤ ((w.1) mo 24).toInt) ∧ (((w.1) mo 24).toInt = (I mo 24).toInt))) ([.ref mo, .int (iI kp)] : List Value).toArray s 0 0 (gA g)) (F0 m 110 ls []) := by
              intro I_23 H locs ls hv pf hx2 hnum2 hH hS hl
              have uc_2 : (I_23 mo 2).toInt = (I mo 2).toInt := by rw [pf 2 (by decide) (by decide) (by decide) (by decide) (by decide)]
              have uc_5 : (I_23 mo 5).toInt = (I mo 5).toInt := by rw [pf 5 (by decide) (by decide) (by decide) (by decide) (by decide)]
              have uc_14 : (I_23 mo 14).toInt = (I mo 14).toInt := by rw [pf 14 (by decide) (by decide) (by decide) (by decide) (by decide)]
              have uc_16 : (I_23 mo 16).toInt = (I mo 16).toInt := by rw [pf 16 (by decide) (by decide) (by decide) (by decide) (by decide)]
              have uc_18 : (I_23 mo 18).toInt = (I mo 18).toInt := by rw [pf 18 (by decide) (by decide) (by decide) (by decide) (by decide)]
              refine z_iinc (lv' := [(3, .int (iI (e1 + 1))), (4, .int (iI v_17)), (2, .int (iI lt2)), (0, .ref mo), (1, .int (iI kp))]) F dX7_runs_110 hl (k := 1) rfl (by decide) rfl (fun ls hl => ?_)
              refine z_goto (tgt := 14) F dX7_runs_113 (by decide) ?_
              exact ih14 lt2 (e1 + 1) I_23 J_21 H locs ls zlt2 ⟨by omega, by omega⟩ hv pf (by omega) (by omega) (by omega) hH hS (lv_sub hl [0, 2, 3, 4] rfl)
            refine lv_iload_n F.1 F.2.1 dX7_runs_78 rfl (lv_at hl 1 rfl) ?_
            refine lv_iload_n F.1 F.2.1 dX7_runs_79 rfl (lv_at hl 4 rfl) ?_
            refine z_isub F dX7_runs_80 ?_
            refine z_iconst F dX7_runs_81 ?_
            refine z_icmp_ge (tgt := 110) F dX7_runs_82 (by decide) ⟨by omega, by omega⟩ ⟨by decide, by decide⟩ (fun c_25 => ?_) (fun c_25 => ?_)
            · exact cut_110_23 I_6 H locs ls hv pf (by omega) (by omega) hH hS (lv_sub hl [0, 1, 2, 3, 4] rfl)
            · refine lv_iload F.1 F.2.1 dX7_runs_85 (lv_at hl 0 rfl) ?_
              refine g_calli (g_runS (As := [.int (iI v_17)]) (rest := []) F hl.1 hH hS hz (c_X7_isDigit l g  I_6 R J_21 AI AJ AR v_17 zv_17) (va_cwS 1 F.2.2.2.2.1 (good_up gT_X7_isDigit) rfl rfl rfl hdX7_isDigit.2 ⟨Nat.le_of_ble_eq_true rfl, Nat.le_of_ble_eq_true rfl⟩) rfl rfl (Nat.le_of_ble_eq_true rfl) dX7_runs_87 ⟨Nat.zero_le _, Nat.zero_le _⟩) hS (fun v_32 I_26 R_27 J_28 AI_29 AJ_30 AR_31 H locs zv_32 hp_33 hH hS => ?_)
              dsimp only at hp_33
              obtain ⟨rfl, rfl, rfl, rfl, rfl, rfl, q_34⟩ := hp_33
              refine z_if_eq (tgt := 110) F dX7_runs_90 (by decide) zv_32 (fun c_35 => ?_) (fun c_35 => ?_)
              · exact cut_110_23 I_6 H locs ls hv pf (by omega) (by omega) hH hS (lv_sub hl [0, 1, 2, 3, 4] rfl)
              · refine lv_aload_n F.1 F.2.1 dX7_runs_93 rfl (lv_at hl 3 rfl) ?_
                refine z_bipush F dX7_runs_94 (by decide) ?_
                refine lv_aload_n F.1 F.2.1 dX7_runs_96 rfl (lv_at hl 3 rfl) ?_
                refine g_getI (ci := 7) (k := 23) F hH rfl (by decide) iX7 hm (by decide) rfl k97 dX7_runs_97 ?_
                refine z_imul F dX7_runs_100 ?_
                refine lv_iload F.1 F.2.1 dX7_runs_101 (lv_at hl 0 rfl) ?_
                refine z_iadd F dX7_runs_103 ?_
                refine z_bipush F dX7_runs_104 (by decide) ?_
                refine z_isub F dX7_runs_106 ?_
                refine g_putI (ci := 7) (k := 23) F hH hS rfl (by decide) iX7 hm (by decide) tyX7 tyX7_ok nmX7 rfl rfl rfl k97 dX7_runs_107 (fun H locs hH hS => ?_)
                obtain ⟨I_36, eI_36⟩ : ∃ qQ, qQ = gup2 I_6 mo 23 (iI (((10 * ((I_6 mo 23).toInt)) + v_17) - 48)) := ⟨_, rfl⟩
                rw [← eI_36] at hH
                have kI_36 : ∀ b, b ≠ mo → I_36 b = I_6 b := fun b hb => by rw [eI_36]; exact funext fun j => gup2_a _ _ hb
                have w_37 : (I_36 mo 23).toInt = ((10 * ((I_6 mo 23).toInt)) + v_17) - 48 := by rw [eI_36, gup2_s]; exact iI_val ⟨by omega, by omega⟩
                have hv : mInv g gh R I_36 AI := by rw [eI_36]; exact mP23 hv hm ⟨by omega, by omega⟩ (by omega)
                have pf : qF mo I I_36 := qF_t pf (by rw [eI_36]; exact qF_p (by decide))
                have u_38_2 : (I_36 mo 2).toInt = (I mo 2).toInt := by rw [pf 2 (by decide) (by decide) (by decide) (by decide) (by decide)]
                have u_38_5 : (I_36 mo 5).toInt = (I mo 5).toInt := by rw [pf 5 (by decide) (by decide) (by decide) (by decide) (by decide)]
                have u_38_14 : (I_36 mo 14).toInt = (I mo 14).toInt := by rw [pf 14 (by decide) (by decide) (by decide) (by decide) (by decide)]
                have u_38_16 : (I_36 mo 16).toInt = (I mo 16).toInt := by rw [pf 16 (by decide) (by decide) (by decide) (by decide) (by decide)]
                have u_38_18 : (I_36 mo 18).toInt = (I mo 18).toInt := by rw [pf 18 (by decide) (by decide) (by decide) (by decide) (by decide)]
                have w_37_k20 : (I_36 mo 20).toInt = (I_6 mo 20).toInt := by rw [eI_36, gup2_k _ _ (by decide)]
                have w_37_k21 : (I_36 mo 21).toInt = (I_6 mo 21).toInt := by rw [eI_36, gup2_k _ _ (by decide)]
                have w_37_k24 : (I_36 mo 24).toInt = (I_6 mo 24).toInt := by rw [eI_36, gup2_k _ _ (by decide)]
                exact cut_110_23 I_36 H locs ls hv pf (by omega) (by omega) hH hS (lv_sub hl [0, 1, 2, 3, 4] rfl)
          refine lv_iload_n F.1 F.2.1 dX7_runs_54 rfl (lv_at hl 1 rfl) ?_
          refine lv_iload_n F.1 F.2.1 dX7_runs_55 rfl (lv_at hl 4 rfl) ?_
          refine z_isub F dX7_runs_56 ?_
          refine z_bipush F dX7_runs_57 (by decide) ?_
          refine z_icmp_ge (tgt := 78) F dX7_runs_59 (by decide) ⟨by omega, by omega⟩ ⟨by decide, by decide⟩ (fun c_39 => ?_) (fun c_39 => ?_)
          · exact cut_78_21 J_7 H locs ls hv hH hS (lv_sub hl [0, 1, 2, 3, 4] rfl)
          · refine lv_aload_n F.1 F.2.1 dX7_runs_62 rfl (lv_at hl 3 rfl) ?_
            refine lv_ldc2 (v := 256) F.1 F.2.1 F.2.2.2.1 (F.2.2.2.2.1 _ (List.mem_cons_of_mem _ cl_115)) dX7_runs_63 ?_
            refine lv_aload_n F.1 F.2.1 dX7_runs_66 rfl (lv_at hl 3 rfl) ?_
            refine g_getJ (ci := 7) (k := 22) F hH rfl (by decide) iX7 hm (by decide) rfl k111 dX7_runs_67 ?_
            refine lv_topl (fun j_40 ej_40 => ?_)
            refine lv_lmul F.1 F.2.1 dX7_runs_70 ?_
            refine lv_topl (fun j_41 ej_41 => ?_)
            refine lv_iload F.1 F.2.1 dX7_runs_71 (lv_at hl 0 rfl) ?_
            refine lv_i2l F.1 F.2.1 dX7_runs_73 rfl ?_
            refine lv_topl (fun j_42 ej_42 => ?_)
            refine lv_ladd F.1 F.2.1 dX7_runs_74 ?_
            refine lv_topl (fun j_43 ej_43 => ?_)
            refine g_putJ (ci := 7) (k := 22) F hH hS rfl (by decide) iX7 hm (by decide) tyX7 tyX7_ok nmX7 rfl rfl rfl k111 dX7_runs_75 (fun H locs hH hS => ?_)
            obtain ⟨J_44, eJ_44⟩ : ∃ qQ, qQ = gup2 J_7 mo 22 (j_43) := ⟨_, rfl⟩
            rw [← eJ_44] at hH
            have kJ_44 : ∀ b, b ≠ mo → J_44 b = J_7 b := fun b hb => by rw [eJ_44]; exact funext fun j => gup2_a _ _ hb
            exact cut_78_21 J_44 H locs ls hv hH hS (lv_sub hl [0, 1, 2, 3, 4] rfl)
        refine lv_iload F.1 F.2.1 dX7_runs_43 (lv_at hl 0 rfl) ?_
        refine g_calli (g_runS (As := [.int (iI v_17)]) (rest := []) F hl.1 hH hS hz (c_X7_isSmall l g  I_6 R J_7 AI AJ AR v_17 zv_17) (va_cwS 1 F.2.2.2.2.1 (good_up gT_X7_isSmall) rfl rfl rfl hdX7_isSmall.2 ⟨Nat.le_of_ble_eq_true rfl, Nat.le_of_ble_eq_true rfl⟩) rfl rfl (Nat.le_of_ble_eq_true rfl) dX7_runs_45 ⟨Nat.zero_le _, Nat.zero_le _⟩) hS (fun v_51 I_45 R_46 J_47 AI_48 AJ_49 AR_50 H locs zv_51 hp_52 hH hS => ?_)
        dsimp only at hp_52
        obtain ⟨rfl, rfl, rfl, rfl, rfl, rfl, q_53⟩ := hp_52
        refine z_if_eq (tgt := 54) F dX7_runs_48 (by decide) zv_51 (fun c_54 => ?_) (fun c_54 => ?_)
        · exact cut_54_19 lt H locs ls zlt (by omega) hH hS (lv_sub hl [0, 1, 2, 3, 4] rfl)
        · refine z_iinc (lv' := [(2, .int (iI (lt + 1))), (4, .int (iI v_17)), (3, .int (iI e1)), (0, .ref mo), (1, .int (iI kp))]) F dX7_runs_51 hl (k := 2) rfl (by decide) rfl (fun ls hl => ?_)
          exact cut_54_19 (lt + 1) H locs ls ⟨by omega, by omega⟩ (by omega) hH hS (lv_sub hl [1, 2, 0, 3, 4] rfl)
      have cut_116_54 : ∀ (H : Heap) (locs : List Loc) (ls : Array Slot), gH g I_6 R J_7 AI AJ AR H → va_S (gA g) s.heap H locs → lv_has ls 5 [(3, .int (iI e1)), (2, .int (iI lt)), (0, .ref mo), (1, .int (iI kp))] → W p l e rmX7_runs s m ([.ref mo, .int (iI kp)] : List Value).toArray below meth c H locs 0 0 (MQ below (gQv g (fun w : gS => R = w.2.1 ∧ AI = w.2.2.2.1 ∧ AJ = w.2.2.2.2.1 ∧ AR = w.2.2.2.2.2 ∧ (mInv g gh R (w.1) AI) ∧ (qF mo I (w.1)) ∧ (((w.1) mo 20).toInt ≤ 936 ∧ (I mo 24).toInt ≤ ((w.1) mo 24).toInt) ∧ (((w.1) mo 24).toInt = (I mo 24).toInt))) ([.ref mo, .int (iI kp)] : List Value).toArray s 0 0 (gA g)) (F0 m 116 ls []) := by
        intro H locs ls hH hS hl
        refine lv_aload_n F.1 F.2.1 dX7_runs_116 rfl (lv_at hl 2 rfl) ?_
        refine lv_iload_n F.1 F.2.1 dX7_runs_117 rfl (lv_at hl 0 rfl) ?_
        refine g_putI (ci := 7) (k := 20) F hH hS rfl (by decide) iX7 hm (by decide) tyX7 tyX7_ok nmX7 rfl rfl rfl k84 dX7_runs_118 (fun H locs hH hS => ?_)
        obtain ⟨I_56, eI_56⟩ : ∃ qQ, qQ = gup2 I_6 mo 20 (iI (e1)) := ⟨_, rfl⟩
        rw [← eI_56] at hH
        have kI_56 : ∀ b, b ≠ mo → I_56 b = I_6 b := fun b hb => by rw [eI_56]; exact funext fun j => gup2_a _ _ hb
        have w_57 : (I_56 mo 20).toInt = e1 := by rw [eI_56, gup2_s]; exact iI_val ze1
        have hv : mInv g gh R I_56 AI := by rw [eI_56]; exact mP20 hv hm (by omega) (by omega)
        have pf : qF mo I I_56 := qF_t pf (by rw [eI_56]; exact qF_p (by decide))
        have u_58_2 : (I_56 mo 2).toInt = (I mo 2).toInt := by rw [pf 2 (by decide) (by decide) (by decide) (by decide) (by decide)]
        have u_58_5 : (I_56 mo 5).toInt = (I mo 5).toInt := by rw [pf 5 (by decide) (by decide) (by decide) (by decide) (by decide)]
        have u_58_14 : (I_56 mo 14).toInt = (I mo 14).toInt := by rw [pf 14 (by decide) (by decide) (by decide) (by decide) (by decide)]
        have u_58_16 : (I_56 mo 16).toInt = (I mo 16).toInt := by rw [pf 16 (by decide) (by decide) (by decide) (by decide) (by decide)]
        have u_58_18 : (I_56 mo 18).toInt = (I mo 18).toInt := by rw [pf 18 (by decide) (by decide) (by decide) (by decide) (by decide)]
        have w_57_k21 : (I_56 mo 21).toInt = (I_6 mo 21).toInt := by rw [eI_56, gup2_k _ _ (by decide)]
        have w_57_k23 : (I_56 mo 23).toInt = (I_6 mo 23).toInt := by rw [eI_56, gup2_k _ _ (by decide)]
        have w_57_k24 : (I_56 mo 24).toInt = (I_6 mo 24).toInt := by rw [eI_56, gup2_k _ _ (by decide)]
        obtain ⟨nu, enu⟩ : ∃ q, q = (I_56 mo 23).toInt := ⟨_, rfl⟩
        have hnu : 0 ≤ nu := by omega
        refine lv_iload_n F.1 F.2.1 dX7_runs_121 rfl (lv_at hl 0 rfl) ?_
        refine lv_iload_n F.1 F.2.1 dX7_runs_122 rfl (lv_at hl 3 rfl) ?_
        refine z_isub F dX7_runs_123 ?_
        refine lv_istore (lv' := [(4, .int (iI (e1 - kp))), (3, .int (iI e1)), (2, .int (iI lt)), (0, .ref mo), (1, .int (iI kp))]) F.1 F.2.1 dX7_runs_124 hl (by decide) rfl (fun ls hl => ?_)
        have cut_159_59 : ∀ (I_59 : gI) (H : Heap) (locs : List Loc) (ls : Array Slot), (mInv g gh R I_59 AI) → (qF mo I I_59) → ((I_59 mo 21).toInt ≠ 1 ∧ (I_59 mo 23).toInt = nu ∧ (I_59 mo 20).toInt ≤ 936 ∧ (I_59 mo 24).toInt = (I mo 24).toInt) → gH g I_59 R J_7 AI AJ AR H → va_S (gA g) s.heap H locs → lv_has ls 5 [(4, .int (iI (e1 - kp))), (3, .int (iI e1)), (2, .int (iI lt)), (0, .ref mo), (1, .int (iI kp))] → W p l e rmX7_runs s m ([.ref mo, .int (iI kp)] : List Value).toArray below meth c H locs 0 0 (MQ below (gQv g (fun w : gS => R = w.2.1 ∧ AI = w.2.2.2.1 ∧ AJ = w.2.2.2.2.1 ∧ AR = w.2.2.2.2.2 ∧ (mInv g gh R (w.1) AI) ∧ (qF mo I (w.1)) ∧ (((w.1) mo 20).toInt ≤ 936 ∧ (I mo 24).toInt ≤ ((w.1) mo 24).toInt) ∧ (((w.1) mo 24).toInt = (I mo 24).toInt))) ([.ref mo, .int (iI kp)] : List Value).toArray s 0 0 (gA g)) (F0 m 159 ls []) := by
          intro I_59 H locs ls hv pf h159 hH hS hl
          have uc_2 : (I_59 mo 2).toInt = (I mo 2).toInt := by rw [pf 2 (by decide) (by decide) (by decide) (by decide) (by decide)]
          have uc_5 : (I_59 mo 5).toInt = (I mo 5).toInt := by rw [pf 5 (by decide) (by decide) (by decide) (by decide) (by decide)]
          have uc_14 : (I_59 mo 14).toInt = (I mo 14).toInt := by rw [pf 14 (by decide) (by decide) (by decide) (by decide) (by decide)]
          have uc_16 : (I_59 mo 16).toInt = (I mo 16).toInt := by rw [pf 16 (by decide) (by decide) (by decide) (by decide) (by decide)]
          have uc_18 : (I_59 mo 18).toInt = (I mo 18).toInt := by rw [pf 18 (by decide) (by decide) (by decide) (by decide) (by decide)]
          refine lv_iload F.1 F.2.1 dX7_runs_159 (lv_at hl 0 rfl) ?_
          refine z_iconst F dX7_runs_161 ?_
          refine z_icmp_ne (tgt := 194) F dX7_runs_162 (by decide) ⟨by omega, by omega⟩ ⟨by decide, by decide⟩ (fun c_61 => ?_) (fun c_61 => ?_)
          · exact g_vret F hr hlk hH hS hz ⟨rfl, rfl, rfl, rfl, hv, pf, by first | omega | rfl | (dsimp only; omega), by first | omega | rfl | (dsimp only; omega)⟩ dX7_runs_194
          · refine lv_aload_n F.1 F.2.1 dX7_runs_165 rfl (lv_at hl 3 rfl) ?_
            obtain ⟨r_62a, r_62b⟩ : R mo 15 = some (gh 65 0) ∧ gAr g (gh 65 0) 9 936 := mR hv hm (q := (15, 936)) (by decide)
            refine g_getR (ci := 7) (k := 15) F hH rfl (by decide) iX7 hm (by decide) rfl (b := gh 65 0) r_62a k39 dX7_runs_166 ?_
            refine lv_iload_n F.1 F.2.1 dX7_runs_169 rfl (lv_at hl 4 rfl) ?_
            have hx170 : 0 ≤ kp ∧ kp < ((936 : Nat) : Int) ∧ kp ≤ 2147483647 := ⟨by omega, by omega, by omega⟩
            refine g_iald F hH r_62b hx170.1 hx170.2.1 hx170.2.2 dX7_runs_170 ?_
            refine z_name (fun v_63 ev_63 => ?_)
            have zv_63 : zr v_63 := by rw [ev_63]; exact zr_t _
            refine z_bipush F dX7_runs_171 (by decide) ?_
            refine z_icmp_ne (tgt := 194) F dX7_runs_173 (by decide) zv_63 ⟨by decide, by decide⟩ (fun c_64 => ?_) (fun c_64 => ?_)
            · exact g_vret F hr hlk hH hS hz ⟨rfl, rfl, rfl, rfl, hv, pf, by first | omega | rfl | (dsimp only; omega), by first | omega | rfl | (dsimp only; omega)⟩ dX7_runs_194
            · refine lv_iload_n F.1 F.2.1 dX7_runs_176 rfl (lv_at hl 2 rfl) ?_
              refine z_iconst F dX7_runs_177 ?_
              refine z_icmp_ne (tgt := 194) F dX7_runs_178 (by decide) zlt ⟨by decide, by decide⟩ (fun c_65 => ?_) (fun c_65 => ?_)
              · exact g_vret F hr hlk hH hS hz ⟨rfl, rfl, rfl, rfl, hv, pf, by first | omega | rfl | (dsimp only; omega), by first | omega | rfl | (dsimp only; omega)⟩ dX7_runs_194
              · refine lv_aload_n F.1 F.2.1 dX7_runs_181 rfl (lv_at hl 3 rfl) ?_
                refine g_getI (ci := 7) (k := 23) F hH rfl (by decide) iX7 hm (by decide) rfl k97 dX7_runs_182 ?_
                have b_66 := mJ hv hm
                unfold mNum1 at b_66
                refine z_iconst F dX7_runs_185 ?_
                refine z_icmp_ge (tgt := 194) F dX7_runs_186 (by decide) (zr_t _) ⟨by decide, by decide⟩ (fun c_67 => ?_) (fun c_67 => ?_)
                · exact g_vret F hr hlk hH hS hz ⟨rfl, rfl, rfl, rfl, hv, pf, by first | omega | rfl | (dsimp only; omega), by first | omega | rfl | (dsimp only; omega)⟩ dX7_runs_194
                · refine lv_aload_n F.1 F.2.1 dX7_runs_189 rfl (lv_at hl 3 rfl) ?_
                  refine z_iconst F dX7_runs_190 ?_
                  refine g_putI (ci := 7) (k := 21) F hH hS rfl (by decide) iX7 hm (by decide) tyX7 tyX7_ok nmX7 rfl rfl rfl k94 dX7_runs_191 (fun H locs hH hS => ?_)
                  obtain ⟨I_68, eI_68⟩ : ∃ qQ, qQ = gup2 I_59 mo 21 (iI (1)) := ⟨_, rfl⟩
                  rw [← eI_68] at hH
                  have kI_68 : ∀ b, b ≠ mo → I_68 b = I_59 b := fun b hb => by rw [eI_68]; exact funext fun j => gup2_a _ _ hb
                  have w_69 : (I_68 mo 21).toInt = 1 := by rw [eI_68, gup2_s]; exact iI_val ⟨by decide, by decide⟩
                  have hv : mInv g gh R I_68 AI := by rw [eI_68]; exact mP21 hv hm ⟨by decide, by decide⟩ (by omega)
                  have pf : qF mo I I_68 := qF_t pf (by rw [eI_68]; exact qF_p (by decide))
                  have u_70_2 : (I_68 mo 2).toInt = (I mo 2).toInt := by rw [pf 2 (by decide) (by decide) (by decide) (by decide) (by decide)]
                  have u_70_5 : (I_68 mo 5).toInt = (I mo 5).toInt := by rw [pf 5 (by decide) (by decide) (by decide) (by decide) (by decide)]
                  have u_70_14 : (I_68 mo 14).toInt = (I mo 14).toInt := by rw [pf 14 (by decide) (by decide) (by decide) (by decide) (by decide)]
                  have u_70_16 : (I_68 mo 16).toInt = (I mo 16).toInt := by rw [pf 16 (by decide) (by decide) (by decide) (by decide) (by decide)]
                  have u_70_18 : (I_68 mo 18).toInt = (I mo 18).toInt := by rw [pf 18 (by decide) (by decide) (by decide) (by decide) (by decide)]
                  have w_69_k20 : (I_68 mo 20).toInt = (I_59 mo 20).toInt := by rw [eI_68, gup2_k _ _ (by decide)]
                  have w_69_k23 : (I_68 mo 23).toInt = (I_59 mo 23).toInt := by rw [eI_68, gup2_k _ _ (by decide)]
                  have w_69_k24 : (I_68 mo 24).toInt = (I_59 mo 24).toInt := by rw [eI_68, gup2_k _ _ (by decide)]
                  exact g_vret F hr hlk hH hS hz ⟨rfl, rfl, rfl, rfl, hv, pf, by first | omega | rfl | (dsimp only; omega), by first | omega | rfl | (dsimp only; omega)⟩ dX7_runs_194
        refine lv_iload_n F.1 F.2.1 dX7_runs_126 rfl (lv_at hl 2 rfl) ?_
        refine lv_iload F.1 F.2.1 dX7_runs_127 (lv_at hl 0 rfl) ?_
        refine z_icmp_ne (tgt := 144) F dX7_runs_129 (by decide) zlt ⟨by omega, by omega⟩ (fun c_71 => ?_) (fun c_71 => ?_)
        · refine lv_iload_n F.1 F.2.1 dX7_runs_144 rfl (lv_at hl 2 rfl) ?_
          refine z_if_ne (tgt := 159) F dX7_runs_145 (by decide) zlt (fun c_72 => ?_) (fun c_72 => ?_)
          · exact cut_159_59 I_56 H locs ls hv pf (by omega) hH hS (lv_sub hl [0, 1, 2, 3, 4] rfl)
          · refine lv_iload F.1 F.2.1 dX7_runs_148 (lv_at hl 0 rfl) ?_
            refine z_iconst F dX7_runs_150 ?_
            refine z_icmp_ge (tgt := 159) F dX7_runs_151 (by decide) ⟨by omega, by omega⟩ ⟨by decide, by decide⟩ (fun c_73 => ?_) (fun c_73 => ?_)
            · exact cut_159_59 I_56 H locs ls hv pf (by omega) hH hS (lv_sub hl [0, 1, 2, 3, 4] rfl)
            · refine lv_aload_n F.1 F.2.1 dX7_runs_154 rfl (lv_at hl 3 rfl) ?_
              refine z_iconst F dX7_runs_155 ?_
              refine g_putI (ci := 7) (k := 21) F hH hS rfl (by decide) iX7 hm (by decide) tyX7 tyX7_ok nmX7 rfl rfl rfl k94 dX7_runs_156 (fun H locs hH hS => ?_)
              obtain ⟨I_74, eI_74⟩ : ∃ qQ, qQ = gup2 I_56 mo 21 (iI (3)) := ⟨_, rfl⟩
              rw [← eI_74] at hH
              have kI_74 : ∀ b, b ≠ mo → I_74 b = I_56 b := fun b hb => by rw [eI_74]; exact funext fun j => gup2_a _ _ hb
              have w_75 : (I_74 mo 21).toInt = 3 := by rw [eI_74, gup2_s]; exact iI_val ⟨by decide, by decide⟩
              have hv : mInv g gh R I_74 AI := by rw [eI_74]; exact mP21 hv hm ⟨by decide, by decide⟩ (by omega)
              have pf : qF mo I I_74 := qF_t pf (by rw [eI_74]; exact qF_p (by decide))
              have u_76_2 : (I_74 mo 2).toInt = (I mo 2).toInt := by rw [pf 2 (by decide) (by decide) (by decide) (by decide) (by decide)]
              have u_76_5 : (I_74 mo 5).toInt = (I mo 5).toInt := by rw [pf 5 (by decide) (by decide) (by decide) (by decide) (by decide)]
              have u_76_14 : (I_74 mo 14).toInt = (I mo 14).toInt := by rw [pf 14 (by decide) (by decide) (by decide) (by decide) (by decide)]
              have u_76_16 : (I_74 mo 16).toInt = (I mo 16).toInt := by rw [pf 16 (by decide) (by decide) (by decide) (by decide) (by decide)]
              have u_76_18 : (I_74 mo 18).toInt = (I mo 18).toInt := by rw [pf 18 (by decide) (by decide) (by decide) (by decide) (by decide)]
              have w_75_k20 : (I_74 mo 20).toInt = (I_56 mo 20).toInt := by rw [eI_74, gup2_k _ _ (by decide)]
              have w_75_k23 : (I_74 mo 23).toInt = (I_56 mo 23).toInt := by rw [eI_74, gup2_k _ _ (by decide)]
              have w_75_k24 : (I_74 mo 24).toInt = (I_56 mo 24).toInt := by rw [eI_74, gup2_k _ _ (by decide)]
              exact cut_159_59 I_74 H locs ls hv pf (by omega) hH hS (lv_sub hl [0, 1, 2, 3, 4] rfl)
        · refine lv_iload F.1 F.2.1 dX7_runs_132 (lv_at hl 0 rfl) ?_
          refine z_bipush F dX7_runs_134 (by decide) ?_
          refine z_icmp_ge (tgt := 144) F dX7_runs_136 (by decide) ⟨by omega, by omega⟩ ⟨by decide, by decide⟩ (fun c_77 => ?_) (fun c_77 => ?_)
          · refine lv_iload_n F.1 F.2.1 dX7_runs_144 rfl (lv_at hl 2 rfl) ?_
            refine z_if_ne (tgt := 159) F dX7_runs_145 (by decide) zlt (fun c_78 => ?_) (fun c_78 => ?_)
            · exact cut_159_59 I_56 H locs ls hv pf (by omega) hH hS (lv_sub hl [0, 1, 2, 3, 4] rfl)
            · refine lv_iload F.1 F.2.1 dX7_runs_148 (lv_at hl 0 rfl) ?_
              refine z_iconst F dX7_runs_150 ?_
              refine z_icmp_ge (tgt := 159) F dX7_runs_151 (by decide) ⟨by omega, by omega⟩ ⟨by decide, by decide⟩ (fun c_79 => ?_) (fun c_79 => ?_)
              · exact cut_159_59 I_56 H locs ls hv pf (by omega) hH hS (lv_sub hl [0, 1, 2, 3, 4] rfl)
              · refine lv_aload_n F.1 F.2.1 dX7_runs_154 rfl (lv_at hl 3 rfl) ?_
                refine z_iconst F dX7_runs_155 ?_
                refine g_putI (ci := 7) (k := 21) F hH hS rfl (by decide) iX7 hm (by decide) tyX7 tyX7_ok nmX7 rfl rfl rfl k94 dX7_runs_156 (fun H locs hH hS => ?_)
                obtain ⟨I_80, eI_80⟩ : ∃ qQ, qQ = gup2 I_56 mo 21 (iI (3)) := ⟨_, rfl⟩
                rw [← eI_80] at hH
                have kI_80 : ∀ b, b ≠ mo → I_80 b = I_56 b := fun b hb => by rw [eI_80]; exact funext fun j => gup2_a _ _ hb
                have w_81 : (I_80 mo 21).toInt = 3 := by rw [eI_80, gup2_s]; exact iI_val ⟨by decide, by decide⟩
                have hv : mInv g gh R I_80 AI := by rw [eI_80]; exact mP21 hv hm ⟨by decide, by decide⟩ (by omega)
                have pf : qF mo I I_80 := qF_t pf (by rw [eI_80]; exact qF_p (by decide))
                have u_82_2 : (I_80 mo 2).toInt = (I mo 2).toInt := by rw [pf 2 (by decide) (by decide) (by decide) (by decide) (by decide)]
                have u_82_5 : (I_80 mo 5).toInt = (I mo 5).toInt := by rw [pf 5 (by decide) (by decide) (by decide) (by decide) (by decide)]
                have u_82_14 : (I_80 mo 14).toInt = (I mo 14).toInt := by rw [pf 14 (by decide) (by decide) (by decide) (by decide) (by decide)]
                have u_82_16 : (I_80 mo 16).toInt = (I mo 16).toInt := by rw [pf 16 (by decide) (by decide) (by decide) (by decide) (by decide)]
                have u_82_18 : (I_80 mo 18).toInt = (I mo 18).toInt := by rw [pf 18 (by decide) (by decide) (by decide) (by decide) (by decide)]
                have w_81_k20 : (I_80 mo 20).toInt = (I_56 mo 20).toInt := by rw [eI_80, gup2_k _ _ (by decide)]
                have w_81_k23 : (I_80 mo 23).toInt = (I_56 mo 23).toInt := by rw [eI_80, gup2_k _ _ (by decide)]
                have w_81_k24 : (I_80 mo 24).toInt = (I_56 mo 24).toInt := by rw [eI_80, gup2_k _ _ (by decide)]
                exact cut_159_59 I_80 H locs ls hv pf (by omega) hH hS (lv_sub hl [0, 1, 2, 3, 4] rfl)
          · refine lv_aload_n F.1 F.2.1 dX7_runs_139 rfl (lv_at hl 3 rfl) ?_
            refine z_iconst F dX7_runs_140 ?_
            refine g_putI (ci := 7) (k := 21) F hH hS rfl (by decide) iX7 hm (by decide) tyX7 tyX7_ok nmX7 rfl rfl rfl k94 dX7_runs_141 (fun H locs hH hS => ?_)
            obtain ⟨I_83, eI_83⟩ : ∃ qQ, qQ = gup2 I_56 mo 21 (iI (2)) := ⟨_, rfl⟩
            rw [← eI_83] at hH
            have kI_83 : ∀ b, b ≠ mo → I_83 b = I_56 b := fun b hb => by rw [eI_83]; exact funext fun j => gup2_a _ _ hb
            have w_84 : (I_83 mo 21).toInt = 2 := by rw [eI_83, gup2_s]; exact iI_val ⟨by decide, by decide⟩
            have hv : mInv g gh R I_83 AI := by rw [eI_83]; exact mP21 hv hm ⟨by decide, by decide⟩ (by omega)
            have pf : qF mo I I_83 := qF_t pf (by rw [eI_83]; exact qF_p (by decide))
            have u_85_2 : (I_83 mo 2).toInt = (I mo 2).toInt := by rw [pf 2 (by decide) (by decide) (by decide) (by decide) (by decide)]
            have u_85_5 : (I_83 mo 5).toInt = (I mo 5).toInt := by rw [pf 5 (by decide) (by decide) (by decide) (by decide) (by decide)]
            have u_85_14 : (I_83 mo 14).toInt = (I mo 14).toInt := by rw [pf 14 (by decide) (by decide) (by decide) (by decide) (by decide)]
            have u_85_16 : (I_83 mo 16).toInt = (I mo 16).toInt := by rw [pf 16 (by decide) (by decide) (by decide) (by decide) (by decide)]
            have u_85_18 : (I_83 mo 18).toInt = (I mo 18).toInt := by rw [pf 18 (by decide) (by decide) (by decide) (by decide) (by decide)]
            have w_84_k20 : (I_83 mo 20).toInt = (I_56 mo 20).toInt := by rw [eI_83, gup2_k _ _ (by decide)]
            have w_84_k23 : (I_83 mo 23).toInt = (I_56 mo 23).toInt := by rw [eI_83, gup2_k _ _ (by decide)]
            have w_84_k24 : (I_83 mo 24).toInt = (I_56 mo 24).toInt := by rw [eI_83, gup2_k _ _ (by decide)]
            refine lv_iload_n F.1 F.2.1 dX7_runs_144 rfl (lv_at hl 2 rfl) ?_
            refine z_if_ne (tgt := 159) F dX7_runs_145 (by decide) zlt (fun c_86 => ?_) (fun c_86 => ?_)
            · exact cut_159_59 I_83 H locs ls hv pf (by omega) hH hS (lv_sub hl [0, 1, 2, 3, 4] rfl)
            · refine lv_iload F.1 F.2.1 dX7_runs_148 (lv_at hl 0 rfl) ?_
              refine z_iconst F dX7_runs_150 ?_
              refine z_icmp_ge (tgt := 159) F dX7_runs_151 (by decide) ⟨by omega, by omega⟩ ⟨by decide, by decide⟩ (fun c_87 => ?_) (fun c_87 => ?_)
              · exact cut_159_59 I_83 H locs ls hv pf (by omega) hH hS (lv_sub hl [0, 1, 2, 3, 4] rfl)
              · refine lv_aload_n F.1 F.2.1 dX7_runs_154 rfl (lv_at hl 3 rfl) ?_
                refine z_iconst F dX7_runs_155 ?_
                refine g_putI (ci := 7) (k := 21) F hH hS rfl (by decide) iX7 hm (by decide) tyX7 tyX7_ok nmX7 rfl rfl rfl k94 dX7_runs_156 (fun H locs hH hS => ?_)
                obtain ⟨I_88, eI_88⟩ : ∃ qQ, qQ = gup2 I_83 mo 21 (iI (3)) := ⟨_, rfl⟩
                rw [← eI_88] at hH
                have kI_88 : ∀ b, b ≠ mo → I_88 b = I_83 b := fun b hb => by rw [eI_88]; exact funext fun j => gup2_a _ _ hb
                have w_89 : (I_88 mo 21).toInt = 3 := by rw [eI_88, gup2_s]; exact iI_val ⟨by decide, by decide⟩
                have hv : mInv g gh R I_88 AI := by rw [eI_88]; exact mP21 hv hm ⟨by decide, by decide⟩ (by omega)
                have pf : qF mo I I_88 := qF_t pf (by rw [eI_88]; exact qF_p (by decide))
                have u_90_2 : (I_88 mo 2).toInt = (I mo 2).toInt := by rw [pf 2 (by decide) (by decide) (by decide) (by decide) (by decide)]
                have u_90_5 : (I_88 mo 5).toInt = (I mo 5).toInt := by rw [pf 5 (by decide) (by decide) (by decide) (by decide) (by decide)]
                have u_90_14 : (I_88 mo 14).toInt = (I mo 14).toInt := by rw [pf 14 (by decide) (by decide) (by decide) (by decide) (by decide)]
                have u_90_16 : (I_88 mo 16).toInt = (I mo 16).toInt := by rw [pf 16 (by decide) (by decide) (by decide) (by decide) (by decide)]
                have u_90_18 : (I_88 mo 18).toInt = (I mo 18).toInt := by rw [pf 18 (by decide) (by decide) (by decide) (by decide) (by decide)]
                have w_89_k20 : (I_88 mo 20).toInt = (I_83 mo 20).toInt := by rw [eI_88, gup2_k _ _ (by decide)]
                have w_89_k23 : (I_88 mo 23).toInt = (I_83 mo 23).toInt := by rw [eI_88, gup2_k _ _ (by decide)]
                have w_89_k24 : (I_88 mo 24).toInt = (I_83 mo 24).toInt := by rw [eI_88, gup2_k _ _ (by decide)]
                exact cut_159_59 I_88 H locs ls hv pf (by omega) hH hS (lv_sub hl [0, 1, 2, 3, 4] rfl)
      refine lv_aload_n F.1 F.2.1 dX7_runs_14 rfl (lv_at hl 2 rfl) ?_
      refine lv_iload_n F.1 F.2.1 dX7_runs_15 rfl (lv_at hl 0 rfl) ?_
      have b_91 := mJ hv hm
      unfold mNum1 at b_91
      refine g_calli (g_runV (As := [.int (iI e1)]) (rest := []) (ci := 7) F hl.1 hH hS hz (c_X7_byteAt l g gh T I_6 R J_7 AI AJ AR mo e1 ze1 hv hm hT (by omega)) (cwV 1 F.2.2.2.2.1 (good_up gT_X7_byteAt) rfl rfl rfl hdX7_byteAt ⟨Nat.le_of_ble_eq_true rfl, Nat.le_of_ble_eq_true rfl⟩) hm (by decide) rfl rfl rfl (Nat.le_of_ble_eq_true rfl) dX7_runs_16 ⟨Nat.zero_le _, Nat.zero_le _⟩) hS (fun v_98 I_92 R_93 J_94 AI_95 AJ_96 AR_97 H locs zv_98 hp_99 hH hS => ?_)
      dsimp only at hp_99
      obtain ⟨rfl, rfl, rfl, rfl, rfl, rfl, q_100⟩ := hp_99
      refine g_calli (g_runS (As := [.int (iI v_98)]) (rest := []) F hl.1 hH hS hz (c_X7_isSmall l g  I_6 R J_7 AI AJ AR v_98 zv_98) (va_cwS 1 F.2.2.2.2.1 (good_up gT_X7_isSmall) rfl rfl rfl hdX7_isSmall.2 ⟨Nat.le_of_ble_eq_true rfl, Nat.le_of_ble_eq_true rfl⟩) rfl rfl (Nat.le_of_ble_eq_true rfl) dX7_runs_19 ⟨Nat.zero_le _, Nat.zero_le _⟩) hS (fun v_107 I_101 R_102 J_103 AI_104 AJ_105 AR_106 H locs zv_107 hp_108 hH hS => ?_)
      dsimp only at hp_108
      obtain ⟨rfl, rfl, rfl, rfl, rfl, rfl, q_109⟩ := hp_108
      refine z_if_ne (tgt := 36) F dX7_runs_22 (by decide) zv_107 (fun c_110 => ?_) (fun c_110 => ?_)
      · exact cut_36_8 H locs ls (by omega) hH hS (lv_sub hl [0, 1, 2, 3] rfl)
      · refine lv_aload_n F.1 F.2.1 dX7_runs_25 rfl (lv_at hl 2 rfl) ?_
        refine lv_iload_n F.1 F.2.1 dX7_runs_26 rfl (lv_at hl 0 rfl) ?_
        refine g_calli (g_runV (As := [.int (iI e1)]) (rest := []) (ci := 7) F hl.1 hH hS hz (c_X7_byteAt l g gh T I_6 R J_7 AI AJ AR mo e1 ze1 hv hm hT (by omega)) (cwV 1 F.2.2.2.2.1 (good_up gT_X7_byteAt) rfl rfl rfl hdX7_byteAt ⟨Nat.le_of_ble_eq_true rfl, Nat.le_of_ble_eq_true rfl⟩) hm (by decide) rfl rfl rfl (Nat.le_of_ble_eq_true rfl) dX7_runs_27 ⟨Nat.zero_le _, Nat.zero_le _⟩) hS (fun v_117 I_111 R_112 J_113 AI_114 AJ_115 AR_116 H locs zv_117 hp_118 hH hS => ?_)
        dsimp only at hp_118
        obtain ⟨rfl, rfl, rfl, rfl, rfl, rfl, q_119⟩ := hp_118
        refine g_calli (g_runS (As := [.int (iI v_117)]) (rest := []) F hl.1 hH hS hz (c_X7_isDigit l g  I_6 R J_7 AI AJ AR v_117 zv_117) (va_cwS 1 F.2.2.2.2.1 (good_up gT_X7_isDigit) rfl rfl rfl hdX7_isDigit.2 ⟨Nat.le_of_ble_eq_true rfl, Nat.le_of_ble_eq_true rfl⟩) rfl rfl (Nat.le_of_ble_eq_true rfl) dX7_runs_30 ⟨Nat.zero_le _, Nat.zero_le _⟩) hS (fun v_126 I_120 R_121 J_122 AI_123 AJ_124 AR_125 H locs zv_126 hp_127 hH hS => ?_)
        dsimp only at hp_127
        obtain ⟨rfl, rfl, rfl, rfl, rfl, rfl, q_128⟩ := hp_127
        refine z_if_eq (tgt := 116) F dX7_runs_33 (by decide) zv_126 (fun c_129 => ?_) (fun c_129 => ?_)
        · exact cut_116_54 H locs ls hH hS (lv_sub hl [0, 1, 2, 3] rfl)
        · exact cut_36_8 H locs ls (by omega) hH hS (lv_sub hl [0, 1, 2, 3] rfl)
  exact cut_14_7 (((936 - kp) + 1 : Int).toNat) 0 kp I_3 J_2 H locs ls ⟨by decide, by decide⟩ zkp hv pf (by omega) (by omega) (by omega) hH hS (lv_sub hl [0, 1, 2, 3] rfl)

def rmX7_next : Room := { frames := 2, cells := 0, slots := 0, locals := 45 }
theorem hdX7_next : yX7_next.cls = RX7 ∧ yX7_next.cls ≠ "java/lang/invoke/MethodHandle" ∧ yX7_next.cls ≠ "java/lang/invoke/VarHandle" ∧ (parseMethodDescriptor yX7_next.desc).map (fun d => d.parameters.length) = some 0 := by decide +kernel
set_option maxHeartbeats 4000000 in
set_option maxRecDepth 100000 in
/-- the next token -/
theorem c_X7_next (l : Launch) (g : gG) (gh : gGh) (T : Nat → Int32) (I : gI) (R : gR) (J : gJ) (AI : gI) (AJ : gJ) (AR : gR) (mo : Nat) (hv : mInv g gh R I AI) (hm : gO g mo 7) (hT : AI (gh 50 0) = T) (hE : (I mo 20).toInt ≤ 936) : gMet l g yX7_next tsX7_next rmX7_next [.ref mo] (I, R, J, AI, AJ, AR) (gQv g (fun w : gS => R = w.2.1 ∧ AI = w.2.2.2.1 ∧ AJ = w.2.2.2.2.1 ∧ AR = w.2.2.2.2.2 ∧ (mInv g gh R (w.1) AI) ∧ (qF mo I (w.1)) ∧ (((w.1) mo 20).toInt ≤ 936 ∧ (I mo 24).toInt ≤ ((w.1) mo 24).toInt) ∧ (((w.1) mo 24).toInt = (I mo 24).toInt))) := by
  refine gStart (cc := cX7_next) (maxL := 3) (ret := none) (by decide) rfl (Nat.le_of_ble_eq_true rfl) ?_
  intro p e s m below meth c ls F hr hlk hH hz hS hl
  have hl : lv_has ls 3 [(0, .ref mo)] := hl
  have hS : va_S (gA g) s.heap s.heap [] := hS
  obtain ⟨H, hHe⟩ : ∃ H : Heap, H = s.heap := ⟨_, rfl⟩
  obtain ⟨locs, hlo⟩ : ∃ k : List Loc, k = [] := ⟨_, rfl⟩
  have hH : gH g I R J AI AJ AR H := by rw [hHe]; exact hH
  have hS : va_S (gA g) s.heap H locs := by rw [hHe, hlo]; exact hS
  suffices hw : W p l e rmX7_next s m ([.ref mo] : List Value).toArray below meth c H locs 0 0 (MQ below (gQv g (fun w : gS => R = w.2.1 ∧ AI = w.2.2.2.1 ∧ AJ = w.2.2.2.2.1 ∧ AR = w.2.2.2.2.2 ∧ (mInv g gh R (w.1) AI) ∧ (qF mo I (w.1)) ∧ (((w.1) mo 20).toInt ≤ 936 ∧ (I mo 24).toInt ≤ ((w.1) mo 24).toInt) ∧ (((w.1) mo 24).toInt = (I mo 24).toInt))) ([.ref mo] : List Value).toArray s 0 0 (gA g)) (F0 m 0 ls []) by
    rw [hHe, hlo] at hw; exact hw
  clear hHe hlo
  have pf : qF mo I I := qF_r
  have hb0 := mJ hv hm
  unfold mNum1 at hb0
  have iX7 : ∀ w ∈ u_ws RX7 TX7 32, w ∈ tsX7_next := fun w h => List.mem_cons_of_mem _ (inTB7 w h)
  have k81 : Cond.fieldLink RX7 81 (TX7 24).1 (TX7 24).2.1 (TX7 24).2.2.1 ∈ tsX7_next := List.mem_cons_of_mem _ fl_81
  have k84 : Cond.fieldLink RX7 84 (TX7 20).1 (TX7 20).2.1 (TX7 20).2.2.1 ∈ tsX7_next := List.mem_cons_of_mem _ fl_84
  have k91 : Cond.fieldLink RX7 91 (TX7 19).1 (TX7 19).2.1 (TX7 19).2.2.1 ∈ tsX7_next := List.mem_cons_of_mem _ fl_91
  have k94 : Cond.fieldLink RX7 94 (TX7 21).1 (TX7 21).2.1 (TX7 21).2.2.1 ∈ tsX7_next := List.mem_cons_of_mem _ fl_94
  have k97 : Cond.fieldLink RX7 97 (TX7 23).1 (TX7 23).2.1 (TX7 23).2.2.1 ∈ tsX7_next := List.mem_cons_of_mem _ fl_97
  refine lv_aload_n F.1 F.2.1 dX7_next_0 rfl (lv_at hl 0 rfl) ?_
  refine g_getI (ci := 7) (k := 24) F hH rfl (by decide) iX7 hm (by decide) rfl k81 dX7_next_1 ?_
  have b_1 := mJ hv hm
  unfold mNum1 at b_1
  refine z_if_le (tgt := 8) F dX7_next_4 (by decide) (zr_t _) (fun c_2 => ?_) (fun c_2 => ?_)
  · refine lv_aload_n F.1 F.2.1 dX7_next_8 rfl (lv_at hl 0 rfl) ?_
    refine g_getI (ci := 7) (k := 20) F hH rfl (by decide) iX7 hm (by decide) rfl k84 dX7_next_9 ?_
    refine lv_istore_n (lv' := [(1, .int (iI ((I mo 20).toInt))), (0, .ref mo)]) F.1 F.2.1 dX7_next_12 rfl hl (by decide) rfl (fun ls hl => ?_)
    have cut_13_2 : ∀ (NN : Nat) (k : Int) (H : Heap) (locs : List Loc) (ls : Array Slot), zr k → (0 ≤ k ∧ k ≤ 936) → (936 - k) < ((NN : Nat) : Int) → gH g I R J AI AJ AR H → va_S (gA g) s.heap H locs → lv_has ls 3 [(1, .int (iI k)), (0, .ref mo)] → W p l e rmX7_next s m ([.ref mo] : List Value).toArray below meth c H locs 0 0 (MQ below (gQv g (fun w : gS => R = w.2.1 ∧ AI = w.2.2.2.1 ∧ AJ = w.2.2.2.2.1 ∧ AR = w.2.2.2.2.2 ∧ (mInv g gh R (w.1) AI) ∧ (qF mo I (w.1)) ∧ (((w.1) mo 20).toInt ≤ 936 ∧ (I mo 24).toInt ≤ ((w.1) mo 24).toInt) ∧ (((w.1) mo 24).toInt = (I mo 24).toInt))) ([.ref mo] : List Value).toArray s 0 0 (gA g)) (F0 m 13 ls []) := by
      intro NN13
      induction NN13 with
      | zero =>
        intro k H locs ls zk hk hm13 hH hS hl
        exact absurd hm13 (by omega)
      | succ NN13 ih13 =>
        intro k H locs ls zk hk hm13 hH hS hl
        refine lv_aload_n F.1 F.2.1 dX7_next_13 rfl (lv_at hl 1 rfl) ?_
        refine lv_iload_n F.1 F.2.1 dX7_next_14 rfl (lv_at hl 0 rfl) ?_
        refine g_calli (g_runV (As := [.int (iI k)]) (rest := []) (ci := 7) F hl.1 hH hS hz (c_X7_byteAt l g gh T I R J AI AJ AR mo k zk hv hm hT (by omega)) (cwV 1 F.2.2.2.2.1 (good_up gT_X7_byteAt) rfl rfl rfl hdX7_byteAt ⟨Nat.le_of_ble_eq_true rfl, Nat.le_of_ble_eq_true rfl⟩) hm (by decide) rfl rfl rfl (Nat.le_of_ble_eq_true rfl) dX7_next_15 ⟨Nat.zero_le _, Nat.zero_le _⟩) hS (fun v_10 I_4 R_5 J_6 AI_7 AJ_8 AR_9 H locs zv_10 hp_11 hH hS => ?_)
        dsimp only at hp_11
        obtain ⟨rfl, rfl, rfl, rfl, rfl, rfl, q_12⟩ := hp_11
        refine z_bipush F dX7_next_18 (by decide) ?_
        refine z_icmp_eq (tgt := 33) F dX7_next_20 (by decide) zv_10 ⟨by decide, by decide⟩ (fun c_13 => ?_) (fun c_13 => ?_)
        · refine z_iinc (lv' := [(1, .int (iI (k + 1))), (0, .ref mo)]) F dX7_next_33 hl (k := 0) rfl (by decide) rfl (fun ls hl => ?_)
          refine z_goto (tgt := 13) F dX7_next_36 (by decide) ?_
          exact ih13 (k + 1) H locs ls ⟨by omega, by omega⟩ (by omega) (by omega) hH hS (lv_sub hl [0, 1] rfl)
        · refine lv_aload_n F.1 F.2.1 dX7_next_23 rfl (lv_at hl 1 rfl) ?_
          refine lv_iload_n F.1 F.2.1 dX7_next_24 rfl (lv_at hl 0 rfl) ?_
          refine g_calli (g_runV (As := [.int (iI k)]) (rest := []) (ci := 7) F hl.1 hH hS hz (c_X7_byteAt l g gh T I R J AI AJ AR mo k zk hv hm hT (by omega)) (cwV 1 F.2.2.2.2.1 (good_up gT_X7_byteAt) rfl rfl rfl hdX7_byteAt ⟨Nat.le_of_ble_eq_true rfl, Nat.le_of_ble_eq_true rfl⟩) hm (by decide) rfl rfl rfl (Nat.le_of_ble_eq_true rfl) dX7_next_25 ⟨Nat.zero_le _, Nat.zero_le _⟩) hS (fun v_20 I_14 R_15 J_16 AI_17 AJ_18 AR_19 H locs zv_20 hp_21 hH hS => ?_)
          dsimp only at hp_21
          obtain ⟨rfl, rfl, rfl, rfl, rfl, rfl, q_22⟩ := hp_21
          refine z_bipush F dX7_next_28 (by decide) ?_
          refine z_icmp_ne (tgt := 39) F dX7_next_30 (by decide) zv_20 ⟨by decide, by decide⟩ (fun c_23 => ?_) (fun c_23 => ?_)
          · refine lv_aload_n F.1 F.2.1 dX7_next_39 rfl (lv_at hl 1 rfl) ?_
            refine lv_iload_n F.1 F.2.1 dX7_next_40 rfl (lv_at hl 0 rfl) ?_
            refine g_putI (ci := 7) (k := 19) F hH hS rfl (by decide) iX7 hm (by decide) tyX7 tyX7_ok nmX7 rfl rfl rfl k91 dX7_next_41 (fun H locs hH hS => ?_)
            obtain ⟨I_24, eI_24⟩ : ∃ qQ, qQ = gup2 I mo 19 (iI (k)) := ⟨_, rfl⟩
            rw [← eI_24] at hH
            have kI_24 : ∀ b, b ≠ mo → I_24 b = I b := fun b hb => by rw [eI_24]; exact funext fun j => gup2_a _ _ hb
            have w_25 : (I_24 mo 19).toInt = k := by rw [eI_24, gup2_s]; exact iI_val zk
            have hv : mInv g gh R I_24 AI := by rw [eI_24]; exact mP19 hv hm (by omega) (by omega)
            have pf : qF mo I I_24 := qF_t pf (by rw [eI_24]; exact qF_p (by decide))
            have u_26_2 : (I_24 mo 2).toInt = (I mo 2).toInt := by rw [pf 2 (by decide) (by decide) (by decide) (by decide) (by decide)]
            have u_26_5 : (I_24 mo 5).toInt = (I mo 5).toInt := by rw [pf 5 (by decide) (by decide) (by decide) (by decide) (by decide)]
            have u_26_14 : (I_24 mo 14).toInt = (I mo 14).toInt := by rw [pf 14 (by decide) (by decide) (by decide) (by decide) (by decide)]
            have u_26_16 : (I_24 mo 16).toInt = (I mo 16).toInt := by rw [pf 16 (by decide) (by decide) (by decide) (by decide) (by decide)]
            have u_26_18 : (I_24 mo 18).toInt = (I mo 18).toInt := by rw [pf 18 (by decide) (by decide) (by decide) (by decide) (by decide)]
            have w_25_k20 : (I_24 mo 20).toInt = (I mo 20).toInt := by rw [eI_24, gup2_k _ _ (by decide)]
            have w_25_k21 : (I_24 mo 21).toInt = (I mo 21).toInt := by rw [eI_24, gup2_k _ _ (by decide)]
            have w_25_k23 : (I_24 mo 23).toInt = (I mo 23).toInt := by rw [eI_24, gup2_k _ _ (by decide)]
            have w_25_k24 : (I_24 mo 24).toInt = (I mo 24).toInt := by rw [eI_24, gup2_k _ _ (by decide)]
            refine lv_aload_n F.1 F.2.1 dX7_next_44 rfl (lv_at hl 1 rfl) ?_
            refine lv_iload_n F.1 F.2.1 dX7_next_45 rfl (lv_at hl 0 rfl) ?_
            refine z_iconst F dX7_next_46 ?_
            refine z_iadd F dX7_next_47 ?_
            refine g_putI (ci := 7) (k := 20) F hH hS rfl (by decide) iX7 hm (by decide) tyX7 tyX7_ok nmX7 rfl rfl rfl k84 dX7_next_48 (fun H locs hH hS => ?_)
            obtain ⟨I_27, eI_27⟩ : ∃ qQ, qQ = gup2 I_24 mo 20 (iI (k + 1)) := ⟨_, rfl⟩
            rw [← eI_27] at hH
            have kI_27 : ∀ b, b ≠ mo → I_27 b = I_24 b := fun b hb => by rw [eI_27]; exact funext fun j => gup2_a _ _ hb
            have w_28 : (I_27 mo 20).toInt = k + 1 := by rw [eI_27, gup2_s]; exact iI_val ⟨by omega, by omega⟩
            have hv : mInv g gh R I_27 AI := by rw [eI_27]; exact mP20 hv hm (by omega) (by omega)
            have pf : qF mo I I_27 := qF_t pf (by rw [eI_27]; exact qF_p (by decide))
            have u_29_2 : (I_27 mo 2).toInt = (I mo 2).toInt := by rw [pf 2 (by decide) (by decide) (by decide) (by decide) (by decide)]
            have u_29_5 : (I_27 mo 5).toInt = (I mo 5).toInt := by rw [pf 5 (by decide) (by decide) (by decide) (by decide) (by decide)]
            have u_29_14 : (I_27 mo 14).toInt = (I mo 14).toInt := by rw [pf 14 (by decide) (by decide) (by decide) (by decide) (by decide)]
            have u_29_16 : (I_27 mo 16).toInt = (I mo 16).toInt := by rw [pf 16 (by decide) (by decide) (by decide) (by decide) (by decide)]
            have u_29_18 : (I_27 mo 18).toInt = (I mo 18).toInt := by rw [pf 18 (by decide) (by decide) (by decide) (by decide) (by decide)]
            have w_28_k21 : (I_27 mo 21).toInt = (I_24 mo 21).toInt := by rw [eI_27, gup2_k _ _ (by decide)]
            have w_28_k23 : (I_27 mo 23).toInt = (I_24 mo 23).toInt := by rw [eI_27, gup2_k _ _ (by decide)]
            have w_28_k24 : (I_27 mo 24).toInt = (I_24 mo 24).toInt := by rw [eI_27, gup2_k _ _ (by decide)]
            refine lv_aload_n F.1 F.2.1 dX7_next_51 rfl (lv_at hl 1 rfl) ?_
            refine lv_iload_n F.1 F.2.1 dX7_next_52 rfl (lv_at hl 0 rfl) ?_
            have b_30 := mJ hv hm
            unfold mNum1 at b_30
            refine g_calli (g_runV (As := [.int (iI k)]) (rest := []) (ci := 7) F hl.1 hH hS hz (c_X7_byteAt l g gh T I_27 R J AI AJ AR mo k zk hv hm hT (by omega)) (cwV 1 F.2.2.2.2.1 (good_up gT_X7_byteAt) rfl rfl rfl hdX7_byteAt ⟨Nat.le_of_ble_eq_true rfl, Nat.le_of_ble_eq_true rfl⟩) hm (by decide) rfl rfl rfl (Nat.le_of_ble_eq_true rfl) dX7_next_53 ⟨Nat.zero_le _, Nat.zero_le _⟩) hS (fun v_37 I_31 R_32 J_33 AI_34 AJ_35 AR_36 H locs zv_37 hp_38 hH hS => ?_)
            dsimp only at hp_38
            obtain ⟨rfl, rfl, rfl, rfl, rfl, rfl, q_39⟩ := hp_38
            refine lv_istore_n (lv' := [(2, .int (iI v_37)), (1, .int (iI k)), (0, .ref mo)]) F.1 F.2.1 dX7_next_56 rfl hl (by decide) rfl (fun ls hl => ?_)
            refine lv_aload_n F.1 F.2.1 dX7_next_57 rfl (lv_at hl 2 rfl) ?_
            refine z_iconst F dX7_next_58 ?_
            refine g_putI (ci := 7) (k := 21) F hH hS rfl (by decide) iX7 hm (by decide) tyX7 tyX7_ok nmX7 rfl rfl rfl k94 dX7_next_59 (fun H locs hH hS => ?_)
            obtain ⟨I_40, eI_40⟩ : ∃ qQ, qQ = gup2 I_27 mo 21 (iI (5)) := ⟨_, rfl⟩
            rw [← eI_40] at hH
            have kI_40 : ∀ b, b ≠ mo → I_40 b = I_27 b := fun b hb => by rw [eI_40]; exact funext fun j => gup2_a _ _ hb
            have w_41 : (I_40 mo 21).toInt = 5 := by rw [eI_40, gup2_s]; exact iI_val ⟨by decide, by decide⟩
            have hv : mInv g gh R I_40 AI := by rw [eI_40]; exact mP21 hv hm ⟨by decide, by decide⟩ (by omega)
            have pf : qF mo I I_40 := qF_t pf (by rw [eI_40]; exact qF_p (by decide))
            have u_42_2 : (I_40 mo 2).toInt = (I mo 2).toInt := by rw [pf 2 (by decide) (by decide) (by decide) (by decide) (by decide)]
            have u_42_5 : (I_40 mo 5).toInt = (I mo 5).toInt := by rw [pf 5 (by decide) (by decide) (by decide) (by decide) (by decide)]
            have u_42_14 : (I_40 mo 14).toInt = (I mo 14).toInt := by rw [pf 14 (by decide) (by decide) (by decide) (by decide) (by decide)]
            have u_42_16 : (I_40 mo 16).toInt = (I mo 16).toInt := by rw [pf 16 (by decide) (by decide) (by decide) (by decide) (by decide)]
            have u_42_18 : (I_40 mo 18).toInt = (I mo 18).toInt := by rw [pf 18 (by decide) (by decide) (by decide) (by decide) (by decide)]
            have w_41_k20 : (I_40 mo 20).toInt = (I_27 mo 20).toInt := by rw [eI_40, gup2_k _ _ (by decide)]
            have w_41_k23 : (I_40 mo 23).toInt = (I_27 mo 23).toInt := by rw [eI_40, gup2_k _ _ (by decide)]
            have w_41_k24 : (I_40 mo 24).toInt = (I_27 mo 24).toInt := by rw [eI_40, gup2_k _ _ (by decide)]
            refine lv_aload_n F.1 F.2.1 dX7_next_62 rfl (lv_at hl 2 rfl) ?_
            refine lv_iload_n F.1 F.2.1 dX7_next_63 rfl (lv_at hl 0 rfl) ?_
            refine g_putI (ci := 7) (k := 23) F hH hS rfl (by decide) iX7 hm (by decide) tyX7 tyX7_ok nmX7 rfl rfl rfl k97 dX7_next_64 (fun H locs hH hS => ?_)
            obtain ⟨I_43, eI_43⟩ : ∃ qQ, qQ = gup2 I_40 mo 23 (iI (v_37)) := ⟨_, rfl⟩
            rw [← eI_43] at hH
            have kI_43 : ∀ b, b ≠ mo → I_43 b = I_40 b := fun b hb => by rw [eI_43]; exact funext fun j => gup2_a _ _ hb
            have w_44 : (I_43 mo 23).toInt = v_37 := by rw [eI_43, gup2_s]; exact iI_val zv_37
            have hv : mInv g gh R I_43 AI := by rw [eI_43]; exact mP23 hv hm zv_37 (by omega)
            have pf : qF mo I I_43 := qF_t pf (by rw [eI_43]; exact qF_p (by decide))
            have u_45_2 : (I_43 mo 2).toInt = (I mo 2).toInt := by rw [pf 2 (by decide) (by decide) (by decide) (by decide) (by decide)]
            have u_45_5 : (I_43 mo 5).toInt = (I mo 5).toInt := by rw [pf 5 (by decide) (by decide) (by decide) (by decide) (by decide)]
            have u_45_14 : (I_43 mo 14).toInt = (I mo 14).toInt := by rw [pf 14 (by decide) (by decide) (by decide) (by decide) (by decide)]
            have u_45_16 : (I_43 mo 16).toInt = (I mo 16).toInt := by rw [pf 16 (by decide) (by decide) (by decide) (by decide) (by decide)]
            have u_45_18 : (I_43 mo 18).toInt = (I mo 18).toInt := by rw [pf 18 (by decide) (by decide) (by decide) (by decide) (by decide)]
            have w_44_k20 : (I_43 mo 20).toInt = (I_40 mo 20).toInt := by rw [eI_43, gup2_k _ _ (by decide)]
            have w_44_k21 : (I_43 mo 21).toInt = (I_40 mo 21).toInt := by rw [eI_43, gup2_k _ _ (by decide)]
            have w_44_k24 : (I_43 mo 24).toInt = (I_40 mo 24).toInt := by rw [eI_43, gup2_k _ _ (by decide)]
            refine lv_iload_n F.1 F.2.1 dX7_next_67 rfl (lv_at hl 0 rfl) ?_
            refine z_iconst F dX7_next_68 ?_
            refine z_icmp_ne (tgt := 85) F dX7_next_69 (by decide) zv_37 ⟨by decide, by decide⟩ (fun c_46 => ?_) (fun c_46 => ?_)
            · refine lv_iload_n F.1 F.2.1 dX7_next_85 rfl (lv_at hl 0 rfl) ?_
              refine z_bipush F dX7_next_86 (by decide) ?_
              refine z_icmp_eq (tgt := 127) F dX7_next_88 (by decide) zv_37 ⟨by decide, by decide⟩ (fun c_47 => ?_) (fun c_47 => ?_)
              · refine lv_aload_n F.1 F.2.1 dX7_next_127 rfl (lv_at hl 2 rfl) ?_
                refine z_iconst F dX7_next_128 ?_
                refine g_putI (ci := 7) (k := 21) F hH hS rfl (by decide) iX7 hm (by decide) tyX7 tyX7_ok nmX7 rfl rfl rfl k94 dX7_next_129 (fun H locs hH hS => ?_)
                obtain ⟨I_48, eI_48⟩ : ∃ qQ, qQ = gup2 I_43 mo 21 (iI (4)) := ⟨_, rfl⟩
                rw [← eI_48] at hH
                have kI_48 : ∀ b, b ≠ mo → I_48 b = I_43 b := fun b hb => by rw [eI_48]; exact funext fun j => gup2_a _ _ hb
                have w_49 : (I_48 mo 21).toInt = 4 := by rw [eI_48, gup2_s]; exact iI_val ⟨by decide, by decide⟩
                have hv : mInv g gh R I_48 AI := by rw [eI_48]; exact mP21 hv hm ⟨by decide, by decide⟩ (by omega)
                have pf : qF mo I I_48 := qF_t pf (by rw [eI_48]; exact qF_p (by decide))
                have u_50_2 : (I_48 mo 2).toInt = (I mo 2).toInt := by rw [pf 2 (by decide) (by decide) (by decide) (by decide) (by decide)]
                have u_50_5 : (I_48 mo 5).toInt = (I mo 5).toInt := by rw [pf 5 (by decide) (by decide) (by decide) (by decide) (by decide)]
                have u_50_14 : (I_48 mo 14).toInt = (I mo 14).toInt := by rw [pf 14 (by decide) (by decide) (by decide) (by decide) (by decide)]
                have u_50_16 : (I_48 mo 16).toInt = (I mo 16).toInt := by rw [pf 16 (by decide) (by decide) (by decide) (by decide) (by decide)]
                have u_50_18 : (I_48 mo 18).toInt = (I mo 18).toInt := by rw [pf 18 (by decide) (by decide) (by decide) (by decide) (by decide)]
                have w_49_k20 : (I_48 mo 20).toInt = (I_43 mo 20).toInt := by rw [eI_48, gup2_k _ _ (by decide)]
                have w_49_k23 : (I_48 mo 23).toInt = (I_43 mo 23).toInt := by rw [eI_48, gup2_k _ _ (by decide)]
                have w_49_k24 : (I_48 mo 24).toInt = (I_43 mo 24).toInt := by rw [eI_48, gup2_k _ _ (by decide)]
                refine z_goto (tgt := 154) F dX7_next_132 (by decide) ?_
                exact g_vret F hr hlk hH hS hz ⟨rfl, rfl, rfl, rfl, hv, pf, by first | omega | rfl | (dsimp only; omega), by first | omega | rfl | (dsimp only; omega)⟩ dX7_next_154
              · refine lv_iload_n F.1 F.2.1 dX7_next_91 rfl (lv_at hl 0 rfl) ?_
                refine z_bipush F dX7_next_92 (by decide) ?_
                refine z_icmp_eq (tgt := 127) F dX7_next_94 (by decide) zv_37 ⟨by decide, by decide⟩ (fun c_51 => ?_) (fun c_51 => ?_)
                · refine lv_aload_n F.1 F.2.1 dX7_next_127 rfl (lv_at hl 2 rfl) ?_
                  refine z_iconst F dX7_next_128 ?_
                  refine g_putI (ci := 7) (k := 21) F hH hS rfl (by decide) iX7 hm (by decide) tyX7 tyX7_ok nmX7 rfl rfl rfl k94 dX7_next_129 (fun H locs hH hS => ?_)
                  obtain ⟨I_52, eI_52⟩ : ∃ qQ, qQ = gup2 I_43 mo 21 (iI (4)) := ⟨_, rfl⟩
                  rw [← eI_52] at hH
                  have kI_52 : ∀ b, b ≠ mo → I_52 b = I_43 b := fun b hb => by rw [eI_52]; exact funext fun j => gup2_a _ _ hb
                  have w_53 : (I_52 mo 21).toInt = 4 := by rw [eI_52, gup2_s]; exact iI_val ⟨by decide, by decide⟩
                  have hv : mInv g gh R I_52 AI := by rw [eI_52]; exact mP21 hv hm ⟨by decide, by decide⟩ (by omega)
                  have pf : qF mo I I_52 := qF_t pf (by rw [eI_52]; exact qF_p (by decide))
                  have u_54_2 : (I_52 mo 2).toInt = (I mo 2).toInt := by rw [pf 2 (by decide) (by decide) (by decide) (by decide) (by decide)]
                  have u_54_5 : (I_52 mo 5).toInt = (I mo 5).toInt := by rw [pf 5 (by decide) (by decide) (by decide) (by decide) (by decide)]
                  have u_54_14 : (I_52 mo 14).toInt = (I mo 14).toInt := by rw [pf 14 (by decide) (by decide) (by decide) (by decide) (by decide)]
                  have u_54_16 : (I_52 mo 16).toInt = (I mo 16).toInt := by rw [pf 16 (by decide) (by decide) (by decide) (by decide) (by decide)]
                  have u_54_18 : (I_52 mo 18).toInt = (I mo 18).toInt := by rw [pf 18 (by decide) (by decide) (by decide) (by decide) (by decide)]
                  have w_53_k20 : (I_52 mo 20).toInt = (I_43 mo 20).toInt := by rw [eI_52, gup2_k _ _ (by decide)]
                  have w_53_k23 : (I_52 mo 23).toInt = (I_43 mo 23).toInt := by rw [eI_52, gup2_k _ _ (by decide)]
                  have w_53_k24 : (I_52 mo 24).toInt = (I_43 mo 24).toInt := by rw [eI_52, gup2_k _ _ (by decide)]
                  refine z_goto (tgt := 154) F dX7_next_132 (by decide) ?_
                  exact g_vret F hr hlk hH hS hz ⟨rfl, rfl, rfl, rfl, hv, pf, by first | omega | rfl | (dsimp only; omega), by first | omega | rfl | (dsimp only; omega)⟩ dX7_next_154
                · refine lv_iload_n F.1 F.2.1 dX7_next_97 rfl (lv_at hl 0 rfl) ?_
                  refine z_bipush F dX7_next_98 (by decide) ?_
                  refine z_icmp_eq (tgt := 127) F dX7_next_100 (by decide) zv_37 ⟨by decide, by decide⟩ (fun c_55 => ?_) (fun c_55 => ?_)
                  · refine lv_aload_n F.1 F.2.1 dX7_next_127 rfl (lv_at hl 2 rfl) ?_
                    refine z_iconst F dX7_next_128 ?_
                    refine g_putI (ci := 7) (k := 21) F hH hS rfl (by decide) iX7 hm (by decide) tyX7 tyX7_ok nmX7 rfl rfl rfl k94 dX7_next_129 (fun H locs hH hS => ?_)
                    obtain ⟨I_56, eI_56⟩ : ∃ qQ, qQ = gup2 I_43 mo 21 (iI (4)) := ⟨_, rfl⟩
                    rw [← eI_56] at hH
                    have kI_56 : ∀ b, b ≠ mo → I_56 b = I_43 b := fun b hb => by rw [eI_56]; exact funext fun j => gup2_a _ _ hb
                    have w_57 : (I_56 mo 21).toInt = 4 := by rw [eI_56, gup2_s]; exact iI_val ⟨by decide, by decide⟩
                    have hv : mInv g gh R I_56 AI := by rw [eI_56]; exact mP21 hv hm ⟨by decide, by decide⟩ (by omega)
                    have pf : qF mo I I_56 := qF_t pf (by rw [eI_56]; exact qF_p (by decide))
                    have u_58_2 : (I_56 mo 2).toInt = (I mo 2).toInt := by rw [pf 2 (by decide) (by decide) (by decide) (by decide) (by decide)]
                    have u_58_5 : (I_56 mo 5).toInt = (I mo 5).toInt := by rw [pf 5 (by decide) (by decide) (by decide) (by decide) (by decide)]
                    have u_58_14 : (I_56 mo 14).toInt = (I mo 14).toInt := by rw [pf 14 (by decide) (by decide) (by decide) (by decide) (by decide)]
                    have u_58_16 : (I_56 mo 16).toInt = (I mo 16).toInt := by rw [pf 16 (by decide) (by decide) (by decide) (by decide) (by decide)]
                    have u_58_18 : (I_56 mo 18).toInt = (I mo 18).toInt := by rw [pf 18 (by decide) (by decide) (by decide) (by decide) (by decide)]
                    have w_57_k20 : (I_56 mo 20).toInt = (I_43 mo 20).toInt := by rw [eI_56, gup2_k _ _ (by decide)]
                    have w_57_k23 : (I_56 mo 23).toInt = (I_43 mo 23).toInt := by rw [eI_56, gup2_k _ _ (by decide)]
                    have w_57_k24 : (I_56 mo 24).toInt = (I_43 mo 24).toInt := by rw [eI_56, gup2_k _ _ (by decide)]
                    refine z_goto (tgt := 154) F dX7_next_132 (by decide) ?_
                    exact g_vret F hr hlk hH hS hz ⟨rfl, rfl, rfl, rfl, hv, pf, by first | omega | rfl | (dsimp only; omega), by first | omega | rfl | (dsimp only; omega)⟩ dX7_next_154
                  · refine lv_iload_n F.1 F.2.1 dX7_next_103 rfl (lv_at hl 0 rfl) ?_
                    refine z_bipush F dX7_next_104 (by decide) ?_
                    refine z_icmp_eq (tgt := 127) F dX7_next_106 (by decide) zv_37 ⟨by decide, by decide⟩ (fun c_59 => ?_) (fun c_59 => ?_)
                    · refine lv_aload_n F.1 F.2.1 dX7_next_127 rfl (lv_at hl 2 rfl) ?_
                      refine z_iconst F dX7_next_128 ?_
                      refine g_putI (ci := 7) (k := 21) F hH hS rfl (by decide) iX7 hm (by decide) tyX7 tyX7_ok nmX7 rfl rfl rfl k94 dX7_next_129 (fun H locs hH hS => ?_)
                      obtain ⟨I_60, eI_60⟩ : ∃ qQ, qQ = gup2 I_43 mo 21 (iI (4)) := ⟨_, rfl⟩
                      rw [← eI_60] at hH
                      have kI_60 : ∀ b, b ≠ mo → I_60 b = I_43 b := fun b hb => by rw [eI_60]; exact funext fun j => gup2_a _ _ hb
                      have w_61 : (I_60 mo 21).toInt = 4 := by rw [eI_60, gup2_s]; exact iI_val ⟨by decide, by decide⟩
                      have hv : mInv g gh R I_60 AI := by rw [eI_60]; exact mP21 hv hm ⟨by decide, by decide⟩ (by omega)
                      have pf : qF mo I I_60 := qF_t pf (by rw [eI_60]; exact qF_p (by decide))
                      have u_62_2 : (I_60 mo 2).toInt = (I mo 2).toInt := by rw [pf 2 (by decide) (by decide) (by decide) (by decide) (by decide)]
                      have u_62_5 : (I_60 mo 5).toInt = (I mo 5).toInt := by rw [pf 5 (by decide) (by decide) (by decide) (by decide) (by decide)]
                      have u_62_14 : (I_60 mo 14).toInt = (I mo 14).toInt := by rw [pf 14 (by decide) (by decide) (by decide) (by decide) (by decide)]
                      have u_62_16 : (I_60 mo 16).toInt = (I mo 16).toInt := by rw [pf 16 (by decide) (by decide) (by decide) (by decide) (by decide)]
                      have u_62_18 : (I_60 mo 18).toInt = (I mo 18).toInt := by rw [pf 18 (by decide) (by decide) (by decide) (by decide) (by decide)]
                      have w_61_k20 : (I_60 mo 20).toInt = (I_43 mo 20).toInt := by rw [eI_60, gup2_k _ _ (by decide)]
                      have w_61_k23 : (I_60 mo 23).toInt = (I_43 mo 23).toInt := by rw [eI_60, gup2_k _ _ (by decide)]
                      have w_61_k24 : (I_60 mo 24).toInt = (I_43 mo 24).toInt := by rw [eI_60, gup2_k _ _ (by decide)]
                      refine z_goto (tgt := 154) F dX7_next_132 (by decide) ?_
                      exact g_vret F hr hlk hH hS hz ⟨rfl, rfl, rfl, rfl, hv, pf, by first | omega | rfl | (dsimp only; omega), by first | omega | rfl | (dsimp only; omega)⟩ dX7_next_154
                    · refine lv_iload_n F.1 F.2.1 dX7_next_109 rfl (lv_at hl 0 rfl) ?_
                      refine z_bipush F dX7_next_110 (by decide) ?_
                      refine z_icmp_eq (tgt := 127) F dX7_next_112 (by decide) zv_37 ⟨by decide, by decide⟩ (fun c_63 => ?_) (fun c_63 => ?_)
                      · refine lv_aload_n F.1 F.2.1 dX7_next_127 rfl (lv_at hl 2 rfl) ?_
                        refine z_iconst F dX7_next_128 ?_
                        refine g_putI (ci := 7) (k := 21) F hH hS rfl (by decide) iX7 hm (by decide) tyX7 tyX7_ok nmX7 rfl rfl rfl k94 dX7_next_129 (fun H locs hH hS => ?_)
                        obtain ⟨I_64, eI_64⟩ : ∃ qQ, qQ = gup2 I_43 mo 21 (iI (4)) := ⟨_, rfl⟩
                        rw [← eI_64] at hH
                        have kI_64 : ∀ b, b ≠ mo → I_64 b = I_43 b := fun b hb => by rw [eI_64]; exact funext fun j => gup2_a _ _ hb
                        have w_65 : (I_64 mo 21).toInt = 4 := by rw [eI_64, gup2_s]; exact iI_val ⟨by decide, by decide⟩
                        have hv : mInv g gh R I_64 AI := by rw [eI_64]; exact mP21 hv hm ⟨by decide, by decide⟩ (by omega)
                        have pf : qF mo I I_64 := qF_t pf (by rw [eI_64]; exact qF_p (by decide))
                        have u_66_2 : (I_64 mo 2).toInt = (I mo 2).toInt := by rw [pf 2 (by decide) (by decide) (by decide) (by decide) (by decide)]
                        have u_66_5 : (I_64 mo 5).toInt = (I mo 5).toInt := by rw [pf 5 (by decide) (by decide) (by decide) (by decide) (by decide)]
                        have u_66_14 : (I_64 mo 14).toInt = (I mo 14).toInt := by rw [pf 14 (by decide) (by decide) (by decide) (by decide) (by decide)]
                        have u_66_16 : (I_64 mo 16).toInt = (I mo 16).toInt := by rw [pf 16 (by decide) (by decide) (by decide) (by decide) (by decide)]
                        have u_66_18 : (I_64 mo 18).toInt = (I mo 18).toInt := by rw [pf 18 (by decide) (by decide) (by decide) (by decide) (by decide)]
                        have w_65_k20 : (I_64 mo 20).toInt = (I_43 mo 20).toInt := by rw [eI_64, gup2_k _ _ (by decide)]
                        have w_65_k23 : (I_64 mo 23).toInt = (I_43 mo 23).toInt := by rw [eI_64, gup2_k _ _ (by decide)]
                        have w_65_k24 : (I_64 mo 24).toInt = (I_43 mo 24).toInt := by rw [eI_64, gup2_k _ _ (by decide)]
                        refine z_goto (tgt := 154) F dX7_next_132 (by decide) ?_
                        exact g_vret F hr hlk hH hS hz ⟨rfl, rfl, rfl, rfl, hv, pf, by first | omega | rfl | (dsimp only; omega), by first | omega | rfl | (dsimp only; omega)⟩ dX7_next_154
                      · refine lv_iload_n F.1 F.2.1 dX7_next_115 rfl (lv_at hl 0 rfl) ?_
                        refine z_bipush F dX7_next_116 (by decide) ?_
                        refine z_icmp_eq (tgt := 127) F dX7_next_118 (by decide) zv_37 ⟨by decide, by decide⟩ (fun c_67 => ?_) (fun c_67 => ?_)
                        · refine lv_aload_n F.1 F.2.1 dX7_next_127 rfl (lv_at hl 2 rfl) ?_
                          refine z_iconst F dX7_next_128 ?_
                          refine g_putI (ci := 7) (k := 21) F hH hS rfl (by decide) iX7 hm (by decide) tyX7 tyX7_ok nmX7 rfl rfl rfl k94 dX7_next_129 (fun H locs hH hS => ?_)
                          obtain ⟨I_68, eI_68⟩ : ∃ qQ, qQ = gup2 I_43 mo 21 (iI (4)) := ⟨_, rfl⟩
                          rw [← eI_68] at hH
                          have kI_68 : ∀ b, b ≠ mo → I_68 b = I_43 b := fun b hb => by rw [eI_68]; exact funext fun j => gup2_a _ _ hb
                          have w_69 : (I_68 mo 21).toInt = 4 := by rw [eI_68, gup2_s]; exact iI_val ⟨by decide, by decide⟩
                          have hv : mInv g gh R I_68 AI := by rw [eI_68]; exact mP21 hv hm ⟨by decide, by decide⟩ (by omega)
                          have pf : qF mo I I_68 := qF_t pf (by rw [eI_68]; exact qF_p (by decide))
                          have u_70_2 : (I_68 mo 2).toInt = (I mo 2).toInt := by rw [pf 2 (by decide) (by decide) (by decide) (by decide) (by decide)]
                          have u_70_5 : (I_68 mo 5).toInt = (I mo 5).toInt := by rw [pf 5 (by decide) (by decide) (by decide) (by decide) (by decide)]
                          have u_70_14 : (I_68 mo 14).toInt = (I mo 14).toInt := by rw [pf 14 (by decide) (by decide) (by decide) (by decide) (by decide)]
                          have u_70_16 : (I_68 mo 16).toInt = (I mo 16).toInt := by rw [pf 16 (by decide) (by decide) (by decide) (by decide) (by decide)]
                          have u_70_18 : (I_68 mo 18).toInt = (I mo 18).toInt := by rw [pf 18 (by decide) (by decide) (by decide) (by decide) (by decide)]
                          have w_69_k20 : (I_68 mo 20).toInt = (I_43 mo 20).toInt := by rw [eI_68, gup2_k _ _ (by decide)]
                          have w_69_k23 : (I_68 mo 23).toInt = (I_43 mo 23).toInt := by rw [eI_68, gup2_k _ _ (by decide)]
                          have w_69_k24 : (I_68 mo 24).toInt = (I_43 mo 24).toInt := by rw [eI_68, gup2_k _ _ (by decide)]
                          refine z_goto (tgt := 154) F dX7_next_132 (by decide) ?_
                          exact g_vret F hr hlk hH hS hz ⟨rfl, rfl, rfl, rfl, hv, pf, by first | omega | rfl | (dsimp only; omega), by first | omega | rfl | (dsimp only; omega)⟩ dX7_next_154
                        · refine lv_iload_n F.1 F.2.1 dX7_next_121 rfl (lv_at hl 0 rfl) ?_
                          refine z_bipush F dX7_next_122 (by decide) ?_
                          refine z_icmp_ne (tgt := 135) F dX7_next_124 (by decide) zv_37 ⟨by decide, by decide⟩ (fun c_71 => ?_) (fun c_71 => ?_)
                          · refine lv_iload_n F.1 F.2.1 dX7_next_135 rfl (lv_at hl 0 rfl) ?_
                            refine g_calli (g_runS (As := [.int (iI v_37)]) (rest := []) F hl.1 hH hS hz (c_X7_isSmall l g  I_43 R J AI AJ AR v_37 zv_37) (va_cwS 1 F.2.2.2.2.1 (good_up gT_X7_isSmall) rfl rfl rfl hdX7_isSmall.2 ⟨Nat.le_of_ble_eq_true rfl, Nat.le_of_ble_eq_true rfl⟩) rfl rfl (Nat.le_of_ble_eq_true rfl) dX7_next_136 ⟨Nat.zero_le _, Nat.zero_le _⟩) hS (fun v_78 I_72 R_73 J_74 AI_75 AJ_76 AR_77 H locs zv_78 hp_79 hH hS => ?_)
                            dsimp only at hp_79
                            obtain ⟨rfl, rfl, rfl, rfl, rfl, rfl, q_80⟩ := hp_79
                            refine z_if_ne (tgt := 149) F dX7_next_139 (by decide) zv_78 (fun c_81 => ?_) (fun c_81 => ?_)
                            · refine lv_aload_n F.1 F.2.1 dX7_next_149 rfl (lv_at hl 2 rfl) ?_
                              refine lv_iload_n F.1 F.2.1 dX7_next_150 rfl (lv_at hl 1 rfl) ?_
                              have b_82 := mJ hv hm
                              unfold mNum1 at b_82
                              refine g_callv (g_runV (As := [.int (iI k)]) (rest := []) (ci := 7) F hl.1 hH hS hz (c_X7_runs l g gh T I_43 R J AI AJ AR mo k zk hv hm hT (by omega) (by omega) (by omega)) (cwV 1 F.2.2.2.2.1 (good_up gT_X7_runs) rfl rfl rfl hdX7_runs ⟨Nat.le_of_ble_eq_true rfl, Nat.le_of_ble_eq_true rfl⟩) hm (by decide) rfl rfl rfl (Nat.le_of_ble_eq_true rfl) dX7_next_151 ⟨Nat.zero_le _, Nat.zero_le _⟩) hS (fun I_83 R_84 J_85 AI_86 AJ_87 AR_88 H locs hp_89 hH hS => ?_)
                              dsimp only at hp_89
                              obtain ⟨rfl, rfl, rfl, rfl, hv, pfq, q_90, q_91⟩ := hp_89
                              have pf := qF_t pf pfq
                              have u_92_2 : (I_83 mo 2).toInt = (I mo 2).toInt := by rw [pf 2 (by decide) (by decide) (by decide) (by decide) (by decide)]
                              have u_92_5 : (I_83 mo 5).toInt = (I mo 5).toInt := by rw [pf 5 (by decide) (by decide) (by decide) (by decide) (by decide)]
                              have u_92_14 : (I_83 mo 14).toInt = (I mo 14).toInt := by rw [pf 14 (by decide) (by decide) (by decide) (by decide) (by decide)]
                              have u_92_16 : (I_83 mo 16).toInt = (I mo 16).toInt := by rw [pf 16 (by decide) (by decide) (by decide) (by decide) (by decide)]
                              have u_92_18 : (I_83 mo 18).toInt = (I mo 18).toInt := by rw [pf 18 (by decide) (by decide) (by decide) (by decide) (by decide)]
                              exact g_vret F hr hlk hH hS hz ⟨rfl, rfl, rfl, rfl, hv, pf, by first | omega | rfl | (dsimp only; omega), by first | omega | rfl | (dsimp only; omega)⟩ dX7_next_154
                            · refine lv_iload_n F.1 F.2.1 dX7_next_142 rfl (lv_at hl 0 rfl) ?_
                              refine g_calli (g_runS (As := [.int (iI v_37)]) (rest := []) F hl.1 hH hS hz (c_X7_isDigit l g  I_43 R J AI AJ AR v_37 zv_37) (va_cwS 1 F.2.2.2.2.1 (good_up gT_X7_isDigit) rfl rfl rfl hdX7_isDigit.2 ⟨Nat.le_of_ble_eq_true rfl, Nat.le_of_ble_eq_true rfl⟩) rfl rfl (Nat.le_of_ble_eq_true rfl) dX7_next_143 ⟨Nat.zero_le _, Nat.zero_le _⟩) hS (fun v_99 I_93 R_94 J_95 AI_96 AJ_97 AR_98 H locs zv_99 hp_100 hH hS => ?_)
                              dsimp only at hp_100
                              obtain ⟨rfl, rfl, rfl, rfl, rfl, rfl, q_101⟩ := hp_100
                              refine z_if_eq (tgt := 154) F dX7_next_146 (by decide) zv_99 (fun c_102 => ?_) (fun c_102 => ?_)
                              · exact g_vret F hr hlk hH hS hz ⟨rfl, rfl, rfl, rfl, hv, pf, by first | omega | rfl | (dsimp only; omega), by first | omega | rfl | (dsimp only; omega)⟩ dX7_next_154
                              · refine lv_aload_n F.1 F.2.1 dX7_next_149 rfl (lv_at hl 2 rfl) ?_
                                refine lv_iload_n F.1 F.2.1 dX7_next_150 rfl (lv_at hl 1 rfl) ?_
                                have b_103 := mJ hv hm
                                unfold mNum1 at b_103
                                refine g_callv (g_runV (As := [.int (iI k)]) (rest := []) (ci := 7) F hl.1 hH hS hz (c_X7_runs l g gh T I_43 R J AI AJ AR mo k zk hv hm hT (by omega) (by omega) (by omega)) (cwV 1 F.2.2.2.2.1 (good_up gT_X7_runs) rfl rfl rfl hdX7_runs ⟨Nat.le_of_ble_eq_true rfl, Nat.le_of_ble_eq_true rfl⟩) hm (by decide) rfl rfl rfl (Nat.le_of_ble_eq_true rfl) dX7_next_151 ⟨Nat.zero_le _, Nat.zero_le _⟩) hS (fun I_104 R_105 J_106 AI_107 AJ_108 AR_109 H locs hp_110 hH hS => ?_)
                                dsimp only at hp_110
                                obtain ⟨rfl, rfl, rfl, rfl, hv, pfq, q_111, q_112⟩ := hp_110
                                have pf := qF_t pf pfq
                                have u_113_2 : (I_104 mo 2).toInt = (I mo 2).toInt := by rw [pf 2 (by decide) (by decide) (by decide) (by decide) (by decide)]
                                have u_113_5 : (I_104 mo 5).toInt = (I mo 5).toInt := by rw [pf 5 (by decide) (by decide) (by decide) (by decide) (by decide)]
                                have u_113_14 : (I_104 mo 14).toInt = (I mo 14).toInt := by rw [pf 14 (by decide) (by decide) (by decide) (by decide) (by decide)]
                                have u_113_16 : (I_104 mo 16).toInt = (I mo 16).toInt := by rw [pf 16 (by decide) (by decide) (by decide) (by decide) (by decide)]
                                have u_113_18 : (I_104 mo 18).toInt = (I mo 18).toInt := by rw [pf 18 (by decide) (by decide) (by decide) (by decide) (by decide)]
                                exact g_vret F hr hlk hH hS hz ⟨rfl, rfl, rfl, rfl, hv, pf, by first | omega | rfl | (dsimp only; omega), by first | omega | rfl | (dsimp only; omega)⟩ dX7_next_154
                          · refine lv_aload_n F.1 F.2.1 dX7_next_127 rfl (lv_at hl 2 rfl) ?_
                            refine z_iconst F dX7_next_128 ?_
                            refine g_putI (ci := 7) (k := 21) F hH hS rfl (by decide) iX7 hm (by decide) tyX7 tyX7_ok nmX7 rfl rfl rfl k94 dX7_next_129 (fun H locs hH hS => ?_)
                            obtain ⟨I_114, eI_114⟩ : ∃ qQ, qQ = gup2 I_43 mo 21 (iI (4)) := ⟨_, rfl⟩
                            rw [← eI_114] at hH
                            have kI_114 : ∀ b, b ≠ mo → I_114 b = I_43 b := fun b hb => by rw [eI_114]; exact funext fun j => gup2_a _ _ hb
                            have w_115 : (I_114 mo 21).toInt = 4 := by rw [eI_114, gup2_s]; exact iI_val ⟨by decide, by decide⟩
                            have hv : mInv g gh R I_114 AI := by rw [eI_114]; exact mP21 hv hm ⟨by decide, by decide⟩ (by omega)
                            have pf : qF mo I I_114 := qF_t pf (by rw [eI_114]; exact qF_p (by decide))
                            have u_116_2 : (I_114 mo 2).toInt = (I mo 2).toInt := by rw [pf 2 (by decide) (by decide) (by decide) (by decide) (by decide)]
                            have u_116_5 : (I_114 mo 5).toInt = (I mo 5).toInt := by rw [pf 5 (by decide) (by decide) (by decide) (by decide) (by decide)]
                            have u_116_14 : (I_114 mo 14).toInt = (I mo 14).toInt := by rw [pf 14 (by decide) (by decide) (by decide) (by decide) (by decide)]
                            have u_116_16 : (I_114 mo 16).toInt = (I mo 16).toInt := by rw [pf 16 (by decide) (by decide) (by decide) (by decide) (by decide)]
                            have u_116_18 : (I_114 mo 18).toInt = (I mo 18).toInt := by rw [pf 18 (by decide) (by decide) (by decide) (by decide) (by decide)]
                            have w_115_k20 : (I_114 mo 20).toInt = (I_43 mo 20).toInt := by rw [eI_114, gup2_k _ _ (by decide)]
                            have w_115_k23 : (I_114 mo 23).toInt = (I_43 mo 23).toInt := by rw [eI_114, gup2_k _ _ (by decide)]
                            have w_115_k24 : (I_114 mo 24).toInt = (I_43 mo 24).toInt := by rw [eI_114, gup2_k _ _ (by decide)]
                            refine z_goto (tgt := 154) F dX7_next_132 (by decide) ?_
                            exact g_vret F hr hlk hH hS hz ⟨rfl, rfl, rfl, rfl, hv, pf, by first | omega | rfl | (dsimp only; omega), by first | omega | rfl | (dsimp only; omega)⟩ dX7_next_154
            · refine lv_aload_n F.1 F.2.1 dX7_next_72 rfl (lv_at hl 2 rfl) ?_
              refine z_iconst F dX7_next_73 ?_
              refine g_putI (ci := 7) (k := 21) F hH hS rfl (by decide) iX7 hm (by decide) tyX7 tyX7_ok nmX7 rfl rfl rfl k94 dX7_next_74 (fun H locs hH hS => ?_)
              obtain ⟨I_117, eI_117⟩ : ∃ qQ, qQ = gup2 I_43 mo 21 (iI (0)) := ⟨_, rfl⟩
              rw [← eI_117] at hH
              have kI_117 : ∀ b, b ≠ mo → I_117 b = I_43 b := fun b hb => by rw [eI_117]; exact funext fun j => gup2_a _ _ hb
              have w_118 : (I_117 mo 21).toInt = 0 := by rw [eI_117, gup2_s]; exact iI_val ⟨by decide, by decide⟩
              have hv : mInv g gh R I_117 AI := by rw [eI_117]; exact mP21 hv hm ⟨by decide, by decide⟩ (by omega)
              have pf : qF mo I I_117 := qF_t pf (by rw [eI_117]; exact qF_p (by decide))
              have u_119_2 : (I_117 mo 2).toInt = (I mo 2).toInt := by rw [pf 2 (by decide) (by decide) (by decide) (by decide) (by decide)]
              have u_119_5 : (I_117 mo 5).toInt = (I mo 5).toInt := by rw [pf 5 (by decide) (by decide) (by decide) (by decide) (by decide)]
              have u_119_14 : (I_117 mo 14).toInt = (I mo 14).toInt := by rw [pf 14 (by decide) (by decide) (by decide) (by decide) (by decide)]
              have u_119_16 : (I_117 mo 16).toInt = (I mo 16).toInt := by rw [pf 16 (by decide) (by decide) (by decide) (by decide) (by decide)]
              have u_119_18 : (I_117 mo 18).toInt = (I mo 18).toInt := by rw [pf 18 (by decide) (by decide) (by decide) (by decide) (by decide)]
              have w_118_k20 : (I_117 mo 20).toInt = (I_43 mo 20).toInt := by rw [eI_117, gup2_k _ _ (by decide)]
              have w_118_k23 : (I_117 mo 23).toInt = (I_43 mo 23).toInt := by rw [eI_117, gup2_k _ _ (by decide)]
              have w_118_k24 : (I_117 mo 24).toInt = (I_43 mo 24).toInt := by rw [eI_117, gup2_k _ _ (by decide)]
              refine lv_aload_n F.1 F.2.1 dX7_next_77 rfl (lv_at hl 2 rfl) ?_
              refine lv_iload_n F.1 F.2.1 dX7_next_78 rfl (lv_at hl 1 rfl) ?_
              refine g_putI (ci := 7) (k := 20) F hH hS rfl (by decide) iX7 hm (by decide) tyX7 tyX7_ok nmX7 rfl rfl rfl k84 dX7_next_79 (fun H locs hH hS => ?_)
              obtain ⟨I_120, eI_120⟩ : ∃ qQ, qQ = gup2 I_117 mo 20 (iI (k)) := ⟨_, rfl⟩
              rw [← eI_120] at hH
              have kI_120 : ∀ b, b ≠ mo → I_120 b = I_117 b := fun b hb => by rw [eI_120]; exact funext fun j => gup2_a _ _ hb
              have w_121 : (I_120 mo 20).toInt = k := by rw [eI_120, gup2_s]; exact iI_val zk
              have hv : mInv g gh R I_120 AI := by rw [eI_120]; exact mP20 hv hm (by omega) (by omega)
              have pf : qF mo I I_120 := qF_t pf (by rw [eI_120]; exact qF_p (by decide))
              have u_122_2 : (I_120 mo 2).toInt = (I mo 2).toInt := by rw [pf 2 (by decide) (by decide) (by decide) (by decide) (by decide)]
              have u_122_5 : (I_120 mo 5).toInt = (I mo 5).toInt := by rw [pf 5 (by decide) (by decide) (by decide) (by decide) (by decide)]
              have u_122_14 : (I_120 mo 14).toInt = (I mo 14).toInt := by rw [pf 14 (by decide) (by decide) (by decide) (by decide) (by decide)]
              have u_122_16 : (I_120 mo 16).toInt = (I mo 16).toInt := by rw [pf 16 (by decide) (by decide) (by decide) (by decide) (by decide)]
              have u_122_18 : (I_120 mo 18).toInt = (I mo 18).toInt := by rw [pf 18 (by decide) (by decide) (by decide) (by decide) (by decide)]
              have w_121_k21 : (I_120 mo 21).toInt = (I_117 mo 21).toInt := by rw [eI_120, gup2_k _ _ (by decide)]
              have w_121_k23 : (I_120 mo 23).toInt = (I_117 mo 23).toInt := by rw [eI_120, gup2_k _ _ (by decide)]
              have w_121_k24 : (I_120 mo 24).toInt = (I_117 mo 24).toInt := by rw [eI_120, gup2_k _ _ (by decide)]
              refine z_goto (tgt := 154) F dX7_next_82 (by decide) ?_
              exact g_vret F hr hlk hH hS hz ⟨rfl, rfl, rfl, rfl, hv, pf, by first | omega | rfl | (dsimp only; omega), by first | omega | rfl | (dsimp only; omega)⟩ dX7_next_154
          · refine z_iinc (lv' := [(1, .int (iI (k + 1))), (0, .ref mo)]) F dX7_next_33 hl (k := 0) rfl (by decide) rfl (fun ls hl => ?_)
            refine z_goto (tgt := 13) F dX7_next_36 (by decide) ?_
            exact ih13 (k + 1) H locs ls ⟨by omega, by omega⟩ (by omega) (by omega) hH hS (lv_sub hl [0, 1] rfl)
    exact cut_13_2 (((936 - ((I mo 20).toInt)) + 1 : Int).toNat) ((I mo 20).toInt) H locs ls (zr_t _) (by omega) (by omega) hH hS (lv_sub hl [0, 1] rfl)
  · exact g_vret F hr hlk hH hS hz ⟨rfl, rfl, rfl, rfl, hv, pf, by first | omega | rfl | (dsimp only; omega), by first | omega | rfl | (dsimp only; omega)⟩ dX7_next_7
