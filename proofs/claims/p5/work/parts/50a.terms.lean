def rmX7_termsTold : Room := { frames := 4, cells := 0, slots := 0, locals := 89 }
theorem hdX7_termsTold : yX7_termsTold.cls = RX7 ∧ yX7_termsTold.cls ≠ "java/lang/invoke/MethodHandle" ∧ yX7_termsTold.cls ≠ "java/lang/invoke/VarHandle" ∧ (parseMethodDescriptor yX7_termsTold.desc).map (fun d => d.parameters.length) = some 2 := by decide +kernel
set_option maxHeartbeats 4000000 in
set_option maxRecDepth 100000 in
/-- terms told -/
theorem c_X7_termsTold (l : Launch) (g : gG) (gh : gGh) (T : Nat → Int32) (M : Int) (I : gI) (R : gR) (J : gJ) (AI : gI) (AJ : gJ) (AR : gR) (mo : Nat) (bl : Int) (fm : Int) (zbl : zr bl) (zfm : zr fm) (hv : mInv g gh R I AI) (hm : gO g mo 7) (hT : AI (gh 50 0) = T) (hE : (I mo 20).toInt ≤ 936) (hM : (I mo 24).toInt = 0 → (I mo 5).toInt ≤ 15) (hMM : (I mo 5).toInt = M) (hfm : 0 ≤ fm ∧ fm ≤ 1) : gMet l g yX7_termsTold tsX7_termsTold rmX7_termsTold [.ref mo, .int (iI bl), .int (iI fm)] (I, R, J, AI, AJ, AR) (gQi g (fun (z : Int) (w : gS) => R = w.2.1 ∧ AJ = w.2.2.2.2.1 ∧ AR = w.2.2.2.2.2 ∧ (mInv g gh R (w.1) (w.2.2.2.1)) ∧ ((w.2.2.2.1) (gh 50 0) = T) ∧ (qF mo I (w.1)) ∧ (((w.1) mo 20).toInt ≤ 936 ∧ (I mo 24).toInt ≤ ((w.1) mo 24).toInt) ∧ (0 ≤ z ∧ z ≤ 5) ∧ (((w.1) mo 24).toInt = 0 → 1 ≤ z ∧ z ≤ 4 ∧ termP ((w.2.2.2.1) (gh 53 0)) M fm z ∧ trF (AI (gh 53 0)) ((w.2.2.2.1) (gh 53 0)) M fm))) := by
  refine gStart (cc := cX7_termsTold) (maxL := 8) (ret := (some (.int))) (by decide) rfl (Nat.le_of_ble_eq_true rfl) ?_
  intro p e s m below meth c ls F hr hlk hH hz hS hl
  have hl : lv_has ls 8 [(0, .ref mo), (1, .int (iI bl)), (2, .int (iI fm))] := hl
  have hS : va_S (gA g) s.heap s.heap [] := hS
  obtain ⟨H, hHe⟩ : ∃ H : Heap, H = s.heap := ⟨_, rfl⟩
  obtain ⟨locs, hlo⟩ : ∃ k : List Loc, k = [] := ⟨_, rfl⟩
  have hH : gH g I R J AI AJ AR H := by rw [hHe]; exact hH
  have hS : va_S (gA g) s.heap H locs := by rw [hHe, hlo]; exact hS
  suffices hw : W p l e rmX7_termsTold s m ([.ref mo, .int (iI bl), .int (iI fm)] : List Value).toArray below meth c H locs 0 0 (MQ below (gQi g (fun (z : Int) (w : gS) => R = w.2.1 ∧ AJ = w.2.2.2.2.1 ∧ AR = w.2.2.2.2.2 ∧ (mInv g gh R (w.1) (w.2.2.2.1)) ∧ ((w.2.2.2.1) (gh 50 0) = T) ∧ (qF mo I (w.1)) ∧ (((w.1) mo 20).toInt ≤ 936 ∧ (I mo 24).toInt ≤ ((w.1) mo 24).toInt) ∧ (0 ≤ z ∧ z ≤ 5) ∧ (((w.1) mo 24).toInt = 0 → 1 ≤ z ∧ z ≤ 4 ∧ termP ((w.2.2.2.1) (gh 53 0)) M fm z ∧ trF (AI (gh 53 0)) ((w.2.2.2.1) (gh 53 0)) M fm))) ([.ref mo, .int (iI bl), .int (iI fm)] : List Value).toArray s 0 0 (gA g)) (F0 m 0 ls []) by
    rw [hHe, hlo] at hw; exact hw
  clear hHe hlo
  have pf : qF mo I I := qF_r
  have hb0 := mJ hv hm
  unfold mNum1 at hb0
  have iX7 : ∀ w ∈ u_ws RX7 TX7 32, w ∈ tsX7_termsTold := fun w h => List.mem_cons_of_mem _ (inTB7 w h)
  have k81 : Cond.fieldLink RX7 81 (TX7 24).1 (TX7 24).2.1 (TX7 24).2.2.1 ∈ tsX7_termsTold := List.mem_cons_of_mem _ fl_81
  have k94 : Cond.fieldLink RX7 94 (TX7 21).1 (TX7 21).2.1 (TX7 21).2.2.1 ∈ tsX7_termsTold := List.mem_cons_of_mem _ fl_94
  have k97 : Cond.fieldLink RX7 97 (TX7 23).1 (TX7 23).2.1 (TX7 23).2.2.1 ∈ tsX7_termsTold := List.mem_cons_of_mem _ fl_97
  refine z_iconst F dX7_termsTold_0 ?_
  refine lv_istore_n (lv' := [(3, .int (iI 0)), (0, .ref mo), (1, .int (iI bl)), (2, .int (iI fm))]) F.1 F.2.1 dX7_termsTold_1 rfl hl (by decide) rfl (fun ls hl => ?_)
  refine z_iconst F dX7_termsTold_2 ?_
  refine lv_istore (lv' := [(4, .int (iI 1)), (3, .int (iI 0)), (0, .ref mo), (1, .int (iI bl)), (2, .int (iI fm))]) F.1 F.2.1 dX7_termsTold_3 hl (by decide) rfl (fun ls hl => ?_)
  have cut_5_3 : ∀ (NN : Nat) (n mr : Int) (I_1 : gI) (J_2 : gJ) (AI_3 : gI) (H : Heap) (locs : List Loc) (ls : Array Slot), zr n → zr mr → (mInv g gh R I_1 AI_3) → (AI_3 (gh 50 0) = T) → (qF mo I I_1) → ((I_1 mo 20).toInt ≤ 936 ∧ (I mo 24).toInt ≤ (I_1 mo 24).toInt ∧ 0 ≤ n ∧ n ≤ 5 ∧ (mr = 0 ∨ mr = 1) ∧ (mr = 0 → 1 ≤ n)) → ((I_1 mo 24).toInt = 0 → n ≤ 4 ∧ termP (AI_3 (gh 53 0)) M fm n ∧ trF (AI (gh 53 0)) (AI_3 (gh 53 0)) M fm) → (6 - n) < ((NN : Nat) : Int) → gH g I_1 R J_2 AI_3 AJ AR H → va_S (gA g) s.heap H locs → lv_has ls 8 [(4, .int (iI mr)), (3, .int (iI n)), (0, .ref mo), (1, .int (iI bl)), (2, .int (iI fm))] → W p l e rmX7_termsTold s m ([.ref mo, .int (iI bl), .int (iI fm)] : List Value).toArray below meth c H locs 0 0 (MQ below (gQi g (fun (z : Int) (w : gS) => R = w.2.1 ∧ AJ = w.2.2.2.2.1 ∧ AR = w.2.2.2.2.2 ∧ (mInv g gh R (w.1) (w.2.2.2.1)) ∧ ((w.2.2.2.1) (gh 50 0) = T) ∧ (qF mo I (w.1)) ∧ (((w.1) mo 20).toInt ≤ 936 ∧ (I mo 24).toInt ≤ ((w.1) mo 24).toInt) ∧ (0 ≤ z ∧ z ≤ 5) ∧ (((w.1) mo 24).toInt = 0 → 1 ≤ z ∧ z ≤ 4 ∧ termP ((w.2.2.2.1) (gh 53 0)) M fm z ∧ trF (AI (gh 53 0)) ((w.2.2.2.1) (gh 53 0)) M fm))) ([.ref mo, .int (iI bl), .int (iI fm)] : List Value).toArray s 0 0 (gA g)) (F0 m 5 ls []) := by
    intro NN5
    induction NN5 with
    | zero =>
      intro n mr I_1 J_2 AI_3 H locs ls zn zmr hv hT pf hx hp hm5 hH hS hl
      exact absurd hm5 (by omega)
    | succ NN5 ih5 =>
      intro n mr I_1 J_2 AI_3 H locs ls zn zmr hv hT pf hx hp hm5 hH hS hl
      have uc_2 : (I_1 mo 2).toInt = (I mo 2).toInt := by rw [pf 2 (by decide) (by decide) (by decide) (by decide) (by decide)]
      have uc_5 : (I_1 mo 5).toInt = (I mo 5).toInt := by rw [pf 5 (by decide) (by decide) (by decide) (by decide) (by decide)]
      have uc_14 : (I_1 mo 14).toInt = (I mo 14).toInt := by rw [pf 14 (by decide) (by decide) (by decide) (by decide) (by decide)]
      have uc_16 : (I_1 mo 16).toInt = (I mo 16).toInt := by rw [pf 16 (by decide) (by decide) (by decide) (by decide) (by decide)]
      have uc_18 : (I_1 mo 18).toInt = (I mo 18).toInt := by rw [pf 18 (by decide) (by decide) (by decide) (by decide) (by decide)]
      refine lv_iload F.1 F.2.1 dX7_termsTold_5 (lv_at hl 0 rfl) ?_
      refine z_if_eq (tgt := 181) F dX7_termsTold_7 (by decide) zmr (fun c_5 => ?_) (fun c_5 => ?_)
      · refine lv_iload_n F.1 F.2.1 dX7_termsTold_181 rfl (lv_at hl 1 rfl) ?_
        exact g_iret F hr hlk hH hS hz zn ⟨rfl, rfl, rfl, hv, hT, pf, by first | omega | rfl | (dsimp only; omega), by first | omega | rfl | (dsimp only; omega), by (try dsimp only); intro hf; exact ⟨by omega, by omega, (hp (by omega)).2.1, (hp (by omega)).2.2⟩⟩ dX7_termsTold_182
      · refine lv_aload_n F.1 F.2.1 dX7_termsTold_10 rfl (lv_at hl 2 rfl) ?_
        refine g_getI (ci := 7) (k := 24) F hH rfl (by decide) iX7 hm (by decide) rfl k81 dX7_termsTold_11 ?_
        have b_6 := mJ hv hm
        unfold mNum1 at b_6
        refine z_if_ne (tgt := 181) F dX7_termsTold_14 (by decide) (zr_t _) (fun c_7 => ?_) (fun c_7 => ?_)
        · refine lv_iload_n F.1 F.2.1 dX7_termsTold_181 rfl (lv_at hl 1 rfl) ?_
          exact g_iret F hr hlk hH hS hz zn ⟨rfl, rfl, rfl, hv, hT, pf, by first | omega | rfl | (dsimp only; omega), by first | omega | rfl | (dsimp only; omega), by (try dsimp only); intro hf; exact ⟨by omega, by omega, (hp (by omega)).2.1, (hp (by omega)).2.2⟩⟩ dX7_termsTold_182
        · have cut_63_8 : ∀ (I_8 : gI) (H : Heap) (locs : List Loc) (ls : Array Slot), (mInv g gh R I_8 AI_3) → (qF mo I I_8) → ((I_8 mo 20).toInt ≤ 936 ∧ (I mo 24).toInt ≤ (I_8 mo 24).toInt ∧ ((I_8 mo 24).toInt = 0 → n ≤ 3)) → gH g I_8 R J_2 AI_3 AJ AR H → va_S (gA g) s.heap H locs → lv_has ls 8 [(4, .int (iI mr)), (3, .int (iI n)), (0, .ref mo), (1, .int (iI bl)), (2, .int (iI fm))] → W p l e rmX7_termsTold s m ([.ref mo, .int (iI bl), .int (iI fm)] : List Value).toArray below meth c H locs 0 0 (MQ below (gQi g (fun (z : Int) (w : gS) => R = w.2.1 ∧ AJ = w.2.2.2.2.1 ∧ AR = w.2.2.2.2.2 ∧ (mInv g gh R (w.1) (w.2.2.2.1)) ∧ ((w.2.2.2.1) (gh 50 0) = T) ∧ (qF mo I (w.1)) ∧ (((w.1) mo 20).toInt ≤ 936 ∧ (I mo 24).toInt ≤ ((w.1) mo 24).toInt) ∧ (0 ≤ z ∧ z ≤ 5) ∧ (((w.1) mo 24).toInt = 0 → 1 ≤ z ∧ z ≤ 4 ∧ termP ((w.2.2.2.1) (gh 53 0)) M fm z ∧ trF (AI (gh 53 0)) ((w.2.2.2.1) (gh 53 0)) M fm))) ([.ref mo, .int (iI bl), .int (iI fm)] : List Value).toArray s 0 0 (gA g)) (F0 m 63 ls []) := by
            intro I_8 H locs ls hv pf hj17 hH hS hl
            have uc_2 : (I_8 mo 2).toInt = (I mo 2).toInt := by rw [pf 2 (by decide) (by decide) (by decide) (by decide) (by decide)]
            have uc_5 : (I_8 mo 5).toInt = (I mo 5).toInt := by rw [pf 5 (by decide) (by decide) (by decide) (by decide) (by decide)]
            have uc_14 : (I_8 mo 14).toInt = (I mo 14).toInt := by rw [pf 14 (by decide) (by decide) (by decide) (by decide) (by decide)]
            have uc_16 : (I_8 mo 16).toInt = (I mo 16).toInt := by rw [pf 16 (by decide) (by decide) (by decide) (by decide) (by decide)]
            have uc_18 : (I_8 mo 18).toInt = (I mo 18).toInt := by rw [pf 18 (by decide) (by decide) (by decide) (by decide) (by decide)]
            have cut_158_12 : ∀ (I_10 : gI) (J_11 : gJ) (AI_12 : gI) (H : Heap) (locs : List Loc) (ls : Array Slot), (mInv g gh R I_10 AI_12) → (AI_12 (gh 50 0) = T) → (qF mo I I_10) → ((I_10 mo 20).toInt ≤ 936 ∧ (I mo 24).toInt ≤ (I_10 mo 24).toInt) → ((I_10 mo 24).toInt = 0 → n ≤ 3 ∧ termP (AI_12 (gh 53 0)) M fm (n + 1) ∧ trF (AI (gh 53 0)) (AI_12 (gh 53 0)) M fm) → gH g I_10 R J_11 AI_12 AJ AR H → va_S (gA g) s.heap H locs → lv_has ls 8 [(4, .int (iI mr)), (3, .int (iI n)), (0, .ref mo), (1, .int (iI bl)), (2, .int (iI fm))] → W p l e rmX7_termsTold s m ([.ref mo, .int (iI bl), .int (iI fm)] : List Value).toArray below meth c H locs 0 0 (MQ below (gQi g (fun (z : Int) (w : gS) => R = w.2.1 ∧ AJ = w.2.2.2.2.1 ∧ AR = w.2.2.2.2.2 ∧ (mInv g gh R (w.1) (w.2.2.2.1)) ∧ ((w.2.2.2.1) (gh 50 0) = T) ∧ (qF mo I (w.1)) ∧ (((w.1) mo 20).toInt ≤ 936 ∧ (I mo 24).toInt ≤ ((w.1) mo 24).toInt) ∧ (0 ≤ z ∧ z ≤ 5) ∧ (((w.1) mo 24).toInt = 0 → 1 ≤ z ∧ z ≤ 4 ∧ termP ((w.2.2.2.1) (gh 53 0)) M fm z ∧ trF (AI (gh 53 0)) ((w.2.2.2.1) (gh 53 0)) M fm))) ([.ref mo, .int (iI bl), .int (iI fm)] : List Value).toArray s 0 0 (gA g)) (F0 m 158 ls []) := by
              intro I_10 J_11 AI_12 H locs ls hv hT pf h158a h158 hH hS hl
              have uc_2 : (I_10 mo 2).toInt = (I mo 2).toInt := by rw [pf 2 (by decide) (by decide) (by decide) (by decide) (by decide)]
              have uc_5 : (I_10 mo 5).toInt = (I mo 5).toInt := by rw [pf 5 (by decide) (by decide) (by decide) (by decide) (by decide)]
              have uc_14 : (I_10 mo 14).toInt = (I mo 14).toInt := by rw [pf 14 (by decide) (by decide) (by decide) (by decide) (by decide)]
              have uc_16 : (I_10 mo 16).toInt = (I mo 16).toInt := by rw [pf 16 (by decide) (by decide) (by decide) (by decide) (by decide)]
              have uc_18 : (I_10 mo 18).toInt = (I mo 18).toInt := by rw [pf 18 (by decide) (by decide) (by decide) (by decide) (by decide)]
              refine z_iinc (lv' := [(3, .int (iI (n + 1))), (4, .int (iI mr)), (0, .ref mo), (1, .int (iI bl)), (2, .int (iI fm))]) F dX7_termsTold_158 hl (k := 1) rfl (by decide) rfl (fun ls hl => ?_)
              refine lv_aload_n F.1 F.2.1 dX7_termsTold_161 rfl (lv_at hl 2 rfl) ?_
              refine z_bipush F dX7_termsTold_162 (by decide) ?_
              have b_14 := mJ hv hm
              unfold mNum1 at b_14
              refine g_calli (g_runV (As := [.int (iI 44)]) (rest := []) (ci := 7) F hl.1 hH hS hz (c_X7_isSign l g gh T I_10 R J_11 AI_12 AJ AR mo 44 ⟨by decide, by decide⟩ hv hm hT) (cwV 1 F.2.2.2.2.1 (good_up gT_X7_isSign) rfl rfl rfl hdX7_isSign ⟨Nat.le_of_ble_eq_true rfl, Nat.le_of_ble_eq_true rfl⟩) hm (by decide) rfl rfl rfl (Nat.le_of_ble_eq_true rfl) dX7_termsTold_164 ⟨Nat.zero_le _, Nat.zero_le _⟩) hS (fun v_21 I_15 R_16 J_17 AI_18 AJ_19 AR_20 H locs zv_21 hp_22 hH hS => ?_)
              dsimp only at hp_22
              obtain ⟨rfl, rfl, rfl, rfl, rfl, rfl, q_23⟩ := hp_22
              refine lv_istore (lv' := [(4, .int (iI v_21)), (3, .int (iI (n + 1))), (0, .ref mo), (1, .int (iI bl)), (2, .int (iI fm))]) F.1 F.2.1 dX7_termsTold_167 hl (by decide) rfl (fun ls hl => ?_)
              refine lv_iload F.1 F.2.1 dX7_termsTold_169 (lv_at hl 0 rfl) ?_
              refine z_if_eq (tgt := 5) F dX7_termsTold_171 (by decide) zv_21 (fun c_24 => ?_) (fun c_24 => ?_)
              · exact ih5 (n + 1) v_21 I_10 J_11 AI_12 H locs ls ⟨by omega, by omega⟩ zv_21 hv hT pf (by omega) (by first | exact (fun _ => ⟨by omega, fun k a b => absurd b (by omega), trF_r⟩) | exact (fun hf => ⟨by omega, (h158 (by omega)).2.1, (h158 (by omega)).2.2⟩)) (by omega) hH hS (lv_sub hl [0, 1, 2, 3, 4] rfl)
              · refine lv_aload_n F.1 F.2.1 dX7_termsTold_174 rfl (lv_at hl 2 rfl) ?_
                refine g_callv (g_runV (As := []) (rest := []) (ci := 7) F hl.1 hH hS hz (c_X7_next l g gh T I_10 R J_11 AI_12 AJ AR mo hv hm hT (by omega)) (cwV 0 F.2.2.2.2.1 (good_up gT_X7_next) rfl rfl rfl hdX7_next ⟨Nat.le_of_ble_eq_true rfl, Nat.le_of_ble_eq_true rfl⟩) hm (by decide) rfl rfl rfl (Nat.le_of_ble_eq_true rfl) dX7_termsTold_175 ⟨Nat.zero_le _, Nat.zero_le _⟩) hS (fun I_25 R_26 J_27 AI_28 AJ_29 AR_30 H locs hp_31 hH hS => ?_)
                dsimp only at hp_31
                obtain ⟨rfl, rfl, rfl, rfl, hv, pfq, q_32, q_33⟩ := hp_31
                have pf := qF_t pf pfq
                have u_34_2 : (I_25 mo 2).toInt = (I mo 2).toInt := by rw [pf 2 (by decide) (by decide) (by decide) (by decide) (by decide)]
                have u_34_5 : (I_25 mo 5).toInt = (I mo 5).toInt := by rw [pf 5 (by decide) (by decide) (by decide) (by decide) (by decide)]
                have u_34_14 : (I_25 mo 14).toInt = (I mo 14).toInt := by rw [pf 14 (by decide) (by decide) (by decide) (by decide) (by decide)]
                have u_34_16 : (I_25 mo 16).toInt = (I mo 16).toInt := by rw [pf 16 (by decide) (by decide) (by decide) (by decide) (by decide)]
                have u_34_18 : (I_25 mo 18).toInt = (I mo 18).toInt := by rw [pf 18 (by decide) (by decide) (by decide) (by decide) (by decide)]
                refine z_goto (tgt := 5) F dX7_termsTold_178 (by decide) ?_
                exact ih5 (n + 1) v_21 I_25 J_27 AI_12 H locs ls ⟨by omega, by omega⟩ zv_21 hv hT pf (by omega) (by first | exact (fun _ => ⟨by omega, fun k a b => absurd b (by omega), trF_r⟩) | exact (fun hf => ⟨by omega, (h158 (by omega)).2.1, (h158 (by omega)).2.2⟩)) (by omega) hH hS (lv_sub hl [0, 1, 2, 3, 4] rfl)
            refine lv_aload_n F.1 F.2.1 dX7_termsTold_63 rfl (lv_at hl 2 rfl) ?_
            refine g_getI (ci := 7) (k := 21) F hH rfl (by decide) iX7 hm (by decide) rfl k94 dX7_termsTold_64 ?_
            have b_35 := mJ hv hm
            unfold mNum1 at b_35
            refine z_iconst F dX7_termsTold_67 ?_
            refine z_icmp_ne (tgt := 88) F dX7_termsTold_68 (by decide) (zr_t _) ⟨by decide, by decide⟩ (fun c_36 => ?_) (fun c_36 => ?_)
            · refine lv_aload_n F.1 F.2.1 dX7_termsTold_88 rfl (lv_at hl 2 rfl) ?_
              refine lv_iload_n F.1 F.2.1 dX7_termsTold_89 rfl (lv_at hl 3 rfl) ?_
              refine g_calli (g_runV (As := [.int (iI bl)]) (rest := []) (ci := 7) F hl.1 hH hS hz (c_X7_column l g gh T I_8 R J_2 AI_3 AJ AR mo bl zbl hv hm hT (by omega)) (cwV 1 F.2.2.2.2.1 (good_up gT_X7_column) rfl rfl rfl hdX7_column ⟨Nat.le_of_ble_eq_true rfl, Nat.le_of_ble_eq_true rfl⟩) hm (by decide) rfl rfl rfl (Nat.le_of_ble_eq_true rfl) dX7_termsTold_90 ⟨Nat.zero_le _, Nat.zero_le _⟩) hS (fun v_43 I_37 R_38 J_39 AI_40 AJ_41 AR_42 H locs zv_43 hp_44 hH hS => ?_)
              dsimp only at hp_44
              obtain ⟨rfl, rfl, rfl, rfl, hv, pfq, q_45, q_46⟩ := hp_44
              have pf := qF_t pf pfq
              have u_47_2 : (I_37 mo 2).toInt = (I mo 2).toInt := by rw [pf 2 (by decide) (by decide) (by decide) (by decide) (by decide)]
              have u_47_5 : (I_37 mo 5).toInt = (I mo 5).toInt := by rw [pf 5 (by decide) (by decide) (by decide) (by decide) (by decide)]
              have u_47_14 : (I_37 mo 14).toInt = (I mo 14).toInt := by rw [pf 14 (by decide) (by decide) (by decide) (by decide) (by decide)]
              have u_47_16 : (I_37 mo 16).toInt = (I mo 16).toInt := by rw [pf 16 (by decide) (by decide) (by decide) (by decide) (by decide)]
              have u_47_18 : (I_37 mo 18).toInt = (I mo 18).toInt := by rw [pf 18 (by decide) (by decide) (by decide) (by decide) (by decide)]
              obtain ⟨f1, ef1⟩ : ∃ q, q = (I_37 mo 24).toInt := ⟨_, rfl⟩
              have hc1 : f1 = 0 → v_43 ≤ 3 := by omega
              refine lv_istore (lv' := [(5, .int (iI v_43)), (4, .int (iI mr)), (3, .int (iI n)), (0, .ref mo), (1, .int (iI bl)), (2, .int (iI fm))]) F.1 F.2.1 dX7_termsTold_93 hl (by decide) rfl (fun ls hl => ?_)
              refine z_iconst F dX7_termsTold_95 ?_
              refine lv_istore (lv' := [(6, .int (iI 0)), (5, .int (iI v_43)), (4, .int (iI mr)), (3, .int (iI n)), (0, .ref mo), (1, .int (iI bl)), (2, .int (iI fm))]) F.1 F.2.1 dX7_termsTold_96 hl (by decide) rfl (fun ls hl => ?_)
              have cut_145_49 : ∀ (by1 : Int) (I_48 : gI) (J_49 : gJ) (H : Heap) (locs : List Loc) (ls : Array Slot), zr by1 → (mInv g gh R I_48 AI_3) → (qF mo I I_48) → ((I_48 mo 20).toInt ≤ 936 ∧ f1 ≤ (I_48 mo 24).toInt) → gH g I_48 R J_49 AI_3 AJ AR H → va_S (gA g) s.heap H locs → lv_has ls 8 [(6, .int (iI by1)), (5, .int (iI v_43)), (4, .int (iI mr)), (3, .int (iI n)), (0, .ref mo), (1, .int (iI bl)), (2, .int (iI fm))] → W p l e rmX7_termsTold s m ([.ref mo, .int (iI bl), .int (iI fm)] : List Value).toArray below meth c H locs 0 0 (MQ below (gQi g (fun (z : Int) (w : gS) => R = w.2.1 ∧ AJ = w.2.2.2.2.1 ∧ AR = w.2.2.2.2.2 ∧ (mInv g gh R (w.1) (w.2.2.2.1)) ∧ ((w.2.2.2.1) (gh 50 0) = T) ∧ (qF mo I (w.1)) ∧ (((w.1) mo 20).toInt ≤ 936 ∧ (I mo 24).toInt ≤ ((w.1) mo 24).toInt) ∧ (0 ≤ z ∧ z ≤ 5) ∧ (((w.1) mo 24).toInt = 0 → 1 ≤ z ∧ z ≤ 4 ∧ termP ((w.2.2.2.1) (gh 53 0)) M fm z ∧ trF (AI (gh 53 0)) ((w.2.2.2.1) (gh 53 0)) M fm))) ([.ref mo, .int (iI bl), .int (iI fm)] : List Value).toArray s 0 0 (gA g)) (F0 m 145 ls []) := by
                intro by1 I_48 J_49 H locs ls zby1 hv pf h145 hH hS hl
                have uc_2 : (I_48 mo 2).toInt = (I mo 2).toInt := by rw [pf 2 (by decide) (by decide) (by decide) (by decide) (by decide)]
                have uc_5 : (I_48 mo 5).toInt = (I mo 5).toInt := by rw [pf 5 (by decide) (by decide) (by decide) (by decide) (by decide)]
                have uc_14 : (I_48 mo 14).toInt = (I mo 14).toInt := by rw [pf 14 (by decide) (by decide) (by decide) (by decide) (by decide)]
                have uc_16 : (I_48 mo 16).toInt = (I mo 16).toInt := by rw [pf 16 (by decide) (by decide) (by decide) (by decide) (by decide)]
                have uc_18 : (I_48 mo 18).toInt = (I mo 18).toInt := by rw [pf 18 (by decide) (by decide) (by decide) (by decide) (by decide)]
                refine lv_aload_n F.1 F.2.1 dX7_termsTold_145 rfl (lv_at hl 4 rfl) ?_
                refine lv_iload_n F.1 F.2.1 dX7_termsTold_146 rfl (lv_at hl 6 rfl) ?_
                refine lv_iload_n F.1 F.2.1 dX7_termsTold_147 rfl (lv_at hl 3 rfl) ?_
                refine z_iadd F dX7_termsTold_148 ?_
                refine lv_iload F.1 F.2.1 dX7_termsTold_149 (lv_at hl 1 rfl) ?_
                refine lv_iload F.1 F.2.1 dX7_termsTold_151 (lv_at hl 0 rfl) ?_
                refine z_iconst F dX7_termsTold_153 ?_
                refine z_iconst F dX7_termsTold_154 ?_
                have b_51 := mJ hv hm
                unfold mNum1 at b_51
                refine g_callv (g_runV (As := [.int (iI (fm + n)), .int (iI v_43), .int (iI by1), .int (iI 0), .int (iI 0)]) (rest := []) (ci := 7) F hl.1 hH hS hz (c_X7_setsPart l g gh T M I_48 R J_49 AI_3 AJ AR mo (fm + n) v_43 by1 0 0 ⟨by omega, by omega⟩ zv_43 zby1 ⟨by decide, by decide⟩ ⟨by decide, by decide⟩ hv hm hT (by omega) (by omega) (by omega)) (cwV 5 F.2.2.2.2.1 (good_up gT_X7_setsPart) rfl rfl rfl hdX7_setsPart ⟨Nat.le_of_ble_eq_true rfl, Nat.le_of_ble_eq_true rfl⟩) hm (by decide) rfl rfl rfl (Nat.le_of_ble_eq_true rfl) dX7_termsTold_155 ⟨Nat.zero_le _, Nat.zero_le _⟩) hS (fun I_52 R_53 J_54 AI_55 AJ_56 AR_57 H locs hp_58 hH hS => ?_)
                dsimp only at hp_58
                obtain ⟨rfl, rfl, rfl, rfl, rfl, hv, hT, hsp⟩ := hp_58
                exact cut_158_12 I_48 J_49 AI_55 H locs ls hv hT pf (by omega) (fun hf => ⟨by omega, termP_step (by omega) (by omega) (hp (by omega)).2.1 (hsp (by omega)) (by omega), trF_step (hp (by omega)).2.2 ⟨by omega, by omega⟩ (hsp (by omega))⟩) hH hS (lv_sub hl [2, 3, 4, 5, 6] rfl)
              refine lv_aload_n F.1 F.2.1 dX7_termsTold_98 rfl (lv_at hl 4 rfl) ?_
              refine z_bipush F dX7_termsTold_99 (by decide) ?_
              have b_59 := mJ hv hm
              unfold mNum1 at b_59
              refine g_calli (g_runV (As := [.int (iI 43)]) (rest := []) (ci := 7) F hl.1 hH hS hz (c_X7_isSign l g gh T I_37 R J_39 AI_3 AJ AR mo 43 ⟨by decide, by decide⟩ hv hm hT) (cwV 1 F.2.2.2.2.1 (good_up gT_X7_isSign) rfl rfl rfl hdX7_isSign ⟨Nat.le_of_ble_eq_true rfl, Nat.le_of_ble_eq_true rfl⟩) hm (by decide) rfl rfl rfl (Nat.le_of_ble_eq_true rfl) dX7_termsTold_101 ⟨Nat.zero_le _, Nat.zero_le _⟩) hS (fun v_66 I_60 R_61 J_62 AI_63 AJ_64 AR_65 H locs zv_66 hp_67 hH hS => ?_)
              dsimp only at hp_67
              obtain ⟨rfl, rfl, rfl, rfl, rfl, rfl, q_68⟩ := hp_67
              refine z_if_ne (tgt := 116) F dX7_termsTold_104 (by decide) zv_66 (fun c_69 => ?_) (fun c_69 => ?_)
              · have cut_130_69 : ∀ (sg : Int) (H : Heap) (locs : List Loc) (ls : Array Slot), zr sg → gH g I_37 R J_39 AI_3 AJ AR H → va_S (gA g) s.heap H locs → lv_has ls 8 [(6, .int (iI 0)), (5, .int (iI v_43)), (4, .int (iI mr)), (3, .int (iI n)), (0, .ref mo), (1, .int (iI bl)), (2, .int (iI fm))] → W p l e rmX7_termsTold s m ([.ref mo, .int (iI bl), .int (iI fm)] : List Value).toArray below meth c H locs 0 0 (MQ below (gQi g (fun (z : Int) (w : gS) => R = w.2.1 ∧ AJ = w.2.2.2.2.1 ∧ AR = w.2.2.2.2.2 ∧ (mInv g gh R (w.1) (w.2.2.2.1)) ∧ ((w.2.2.2.1) (gh 50 0) = T) ∧ (qF mo I (w.1)) ∧ (((w.1) mo 20).toInt ≤ 936 ∧ (I mo 24).toInt ≤ ((w.1) mo 24).toInt) ∧ (0 ≤ z ∧ z ≤ 5) ∧ (((w.1) mo 24).toInt = 0 → 1 ≤ z ∧ z ≤ 4 ∧ termP ((w.2.2.2.1) (gh 53 0)) M fm z ∧ trF (AI (gh 53 0)) ((w.2.2.2.1) (gh 53 0)) M fm))) ([.ref mo, .int (iI bl), .int (iI fm)] : List Value).toArray s 0 0 (gA g)) (F0 m 130 ls [.int (iI sg)]) := by
                  intro sg H locs ls zsg hH hS hl
                  refine lv_istore (lv' := [(7, .int (iI sg)), (6, .int (iI 0)), (5, .int (iI v_43)), (4, .int (iI mr)), (3, .int (iI n)), (0, .ref mo), (1, .int (iI bl)), (2, .int (iI fm))]) F.1 F.2.1 dX7_termsTold_130 hl (by decide) rfl (fun ls hl => ?_)
                  refine lv_aload_n F.1 F.2.1 dX7_termsTold_132 rfl (lv_at hl 5 rfl) ?_
                  refine g_callv (g_runV (As := []) (rest := []) (ci := 7) F hl.1 hH hS hz (c_X7_next l g gh T I_37 R J_39 AI_3 AJ AR mo hv hm hT (by omega)) (cwV 0 F.2.2.2.2.1 (good_up gT_X7_next) rfl rfl rfl hdX7_next ⟨Nat.le_of_ble_eq_true rfl, Nat.le_of_ble_eq_true rfl⟩) hm (by decide) rfl rfl rfl (Nat.le_of_ble_eq_true rfl) dX7_termsTold_133 ⟨Nat.zero_le _, Nat.zero_le _⟩) hS (fun I_71 R_72 J_73 AI_74 AJ_75 AR_76 H locs hp_77 hH hS => ?_)
                  dsimp only at hp_77
                  obtain ⟨rfl, rfl, rfl, rfl, hv, pfq, q_78, q_79⟩ := hp_77
                  have pf := qF_t pf pfq
                  have u_80_2 : (I_71 mo 2).toInt = (I mo 2).toInt := by rw [pf 2 (by decide) (by decide) (by decide) (by decide) (by decide)]
                  have u_80_5 : (I_71 mo 5).toInt = (I mo 5).toInt := by rw [pf 5 (by decide) (by decide) (by decide) (by decide) (by decide)]
                  have u_80_14 : (I_71 mo 14).toInt = (I mo 14).toInt := by rw [pf 14 (by decide) (by decide) (by decide) (by decide) (by decide)]
                  have u_80_16 : (I_71 mo 16).toInt = (I mo 16).toInt := by rw [pf 16 (by decide) (by decide) (by decide) (by decide) (by decide)]
                  have u_80_18 : (I_71 mo 18).toInt = (I mo 18).toInt := by rw [pf 18 (by decide) (by decide) (by decide) (by decide) (by decide)]
                  refine lv_iload F.1 F.2.1 dX7_termsTold_136 (lv_at hl 0 rfl) ?_
                  refine lv_aload_n F.1 F.2.1 dX7_termsTold_138 rfl (lv_at hl 5 rfl) ?_
                  have b_81 := mJ hv hm
                  unfold mNum1 at b_81
                  refine g_calli (g_runV (As := []) (rest := [.int (iI sg)]) (ci := 7) F hl.1 hH hS hz (c_X7_numberTold l g gh T I_71 R J_73 AI_3 AJ AR mo hv hm hT (by omega)) (cwV 0 F.2.2.2.2.1 (good_up gT_X7_numberTold) rfl rfl rfl hdX7_numberTold ⟨Nat.le_of_ble_eq_true rfl, Nat.le_of_ble_eq_true rfl⟩) hm (by decide) rfl rfl rfl (Nat.le_of_ble_eq_true rfl) dX7_termsTold_139 ⟨Nat.zero_le _, Nat.zero_le _⟩) hS (fun v_88 I_82 R_83 J_84 AI_85 AJ_86 AR_87 H locs zv_88 hp_89 hH hS => ?_)
                  dsimp only at hp_89
                  obtain ⟨rfl, rfl, rfl, rfl, hv, pfq, q_90, q_91⟩ := hp_89
                  have pf := qF_t pf pfq
                  have u_92_2 : (I_82 mo 2).toInt = (I mo 2).toInt := by rw [pf 2 (by decide) (by decide) (by decide) (by decide) (by decide)]
                  have u_92_5 : (I_82 mo 5).toInt = (I mo 5).toInt := by rw [pf 5 (by decide) (by decide) (by decide) (by decide) (by decide)]
                  have u_92_14 : (I_82 mo 14).toInt = (I mo 14).toInt := by rw [pf 14 (by decide) (by decide) (by decide) (by decide) (by decide)]
                  have u_92_16 : (I_82 mo 16).toInt = (I mo 16).toInt := by rw [pf 16 (by decide) (by decide) (by decide) (by decide) (by decide)]
                  have u_92_18 : (I_82 mo 18).toInt = (I mo 18).toInt := by rw [pf 18 (by decide) (by decide) (by decide) (by decide) (by decide)]
                  refine z_imul F dX7_termsTold_142 ?_
                  refine z_norm (fun v_93 zv_93 ev_93 => ?_)
                  refine lv_istore (lv' := [(6, .int (iI v_93)), (7, .int (iI sg)), (5, .int (iI v_43)), (4, .int (iI mr)), (3, .int (iI n)), (0, .ref mo), (1, .int (iI bl)), (2, .int (iI fm))]) F.1 F.2.1 dX7_termsTold_143 hl (by decide) rfl (fun ls hl => ?_)
                  exact cut_145_49 v_93 I_82 J_84 H locs ls zv_93 hv pf (by omega) hH hS (lv_sub hl [0, 2, 3, 4, 5, 6, 7] rfl)
                refine lv_aload_n F.1 F.2.1 dX7_termsTold_116 rfl (lv_at hl 4 rfl) ?_
                refine z_bipush F dX7_termsTold_117 (by decide) ?_
                refine g_calli (g_runV (As := [.int (iI 43)]) (rest := []) (ci := 7) F hl.1 hH hS hz (c_X7_isSign l g gh T I_37 R J_39 AI_3 AJ AR mo 43 ⟨by decide, by decide⟩ hv hm hT) (cwV 1 F.2.2.2.2.1 (good_up gT_X7_isSign) rfl rfl rfl hdX7_isSign ⟨Nat.le_of_ble_eq_true rfl, Nat.le_of_ble_eq_true rfl⟩) hm (by decide) rfl rfl rfl (Nat.le_of_ble_eq_true rfl) dX7_termsTold_119 ⟨Nat.zero_le _, Nat.zero_le _⟩) hS (fun v_100 I_94 R_95 J_96 AI_97 AJ_98 AR_99 H locs zv_100 hp_101 hH hS => ?_)
                dsimp only at hp_101
                obtain ⟨rfl, rfl, rfl, rfl, rfl, rfl, q_102⟩ := hp_101
                refine z_if_eq (tgt := 129) F dX7_termsTold_122 (by decide) zv_100 (fun c_103 => ?_) (fun c_103 => ?_)
                · refine z_iconst F dX7_termsTold_129 ?_
                  exact cut_130_69 (-1) H locs ls ⟨by decide, by decide⟩ hH hS (lv_sub hl [0, 1, 2, 3, 4, 5, 6] rfl)
                · refine z_iconst F dX7_termsTold_125 ?_
                  refine z_goto (tgt := 130) F dX7_termsTold_126 (by decide) ?_
                  exact cut_130_69 1 H locs ls ⟨by decide, by decide⟩ hH hS (lv_sub hl [0, 1, 2, 3, 4, 5, 6] rfl)
              · refine lv_aload_n F.1 F.2.1 dX7_termsTold_107 rfl (lv_at hl 4 rfl) ?_
                refine z_bipush F dX7_termsTold_108 (by decide) ?_
                refine g_calli (g_runV (As := [.int (iI 45)]) (rest := []) (ci := 7) F hl.1 hH hS hz (c_X7_isSign l g gh T I_37 R J_39 AI_3 AJ AR mo 45 ⟨by decide, by decide⟩ hv hm hT) (cwV 1 F.2.2.2.2.1 (good_up gT_X7_isSign) rfl rfl rfl hdX7_isSign ⟨Nat.le_of_ble_eq_true rfl, Nat.le_of_ble_eq_true rfl⟩) hm (by decide) rfl rfl rfl (Nat.le_of_ble_eq_true rfl) dX7_termsTold_110 ⟨Nat.zero_le _, Nat.zero_le _⟩) hS (fun v_110 I_104 R_105 J_106 AI_107 AJ_108 AR_109 H locs zv_110 hp_111 hH hS => ?_)
                dsimp only at hp_111
                obtain ⟨rfl, rfl, rfl, rfl, rfl, rfl, q_112⟩ := hp_111
                refine z_if_eq (tgt := 145) F dX7_termsTold_113 (by decide) zv_110 (fun c_113 => ?_) (fun c_113 => ?_)
                · exact cut_145_49 0 I_37 J_39 H locs ls ⟨by decide, by decide⟩ hv pf (by omega) hH hS (lv_sub hl [0, 1, 2, 3, 4, 5, 6] rfl)
                · have cut_130_113 : ∀ (sg : Int) (H : Heap) (locs : List Loc) (ls : Array Slot), zr sg → gH g I_37 R J_39 AI_3 AJ AR H → va_S (gA g) s.heap H locs → lv_has ls 8 [(6, .int (iI 0)), (5, .int (iI v_43)), (4, .int (iI mr)), (3, .int (iI n)), (0, .ref mo), (1, .int (iI bl)), (2, .int (iI fm))] → W p l e rmX7_termsTold s m ([.ref mo, .int (iI bl), .int (iI fm)] : List Value).toArray below meth c H locs 0 0 (MQ below (gQi g (fun (z : Int) (w : gS) => R = w.2.1 ∧ AJ = w.2.2.2.2.1 ∧ AR = w.2.2.2.2.2 ∧ (mInv g gh R (w.1) (w.2.2.2.1)) ∧ ((w.2.2.2.1) (gh 50 0) = T) ∧ (qF mo I (w.1)) ∧ (((w.1) mo 20).toInt ≤ 936 ∧ (I mo 24).toInt ≤ ((w.1) mo 24).toInt) ∧ (0 ≤ z ∧ z ≤ 5) ∧ (((w.1) mo 24).toInt = 0 → 1 ≤ z ∧ z ≤ 4 ∧ termP ((w.2.2.2.1) (gh 53 0)) M fm z ∧ trF (AI (gh 53 0)) ((w.2.2.2.1) (gh 53 0)) M fm))) ([.ref mo, .int (iI bl), .int (iI fm)] : List Value).toArray s 0 0 (gA g)) (F0 m 130 ls [.int (iI sg)]) := by
                    intro sg H locs ls zsg hH hS hl
                    refine lv_istore (lv' := [(7, .int (iI sg)), (6, .int (iI 0)), (5, .int (iI v_43)), (4, .int (iI mr)), (3, .int (iI n)), (0, .ref mo), (1, .int (iI bl)), (2, .int (iI fm))]) F.1 F.2.1 dX7_termsTold_130 hl (by decide) rfl (fun ls hl => ?_)
                    refine lv_aload_n F.1 F.2.1 dX7_termsTold_132 rfl (lv_at hl 5 rfl) ?_
                    refine g_callv (g_runV (As := []) (rest := []) (ci := 7) F hl.1 hH hS hz (c_X7_next l g gh T I_37 R J_39 AI_3 AJ AR mo hv hm hT (by omega)) (cwV 0 F.2.2.2.2.1 (good_up gT_X7_next) rfl rfl rfl hdX7_next ⟨Nat.le_of_ble_eq_true rfl, Nat.le_of_ble_eq_true rfl⟩) hm (by decide) rfl rfl rfl (Nat.le_of_ble_eq_true rfl) dX7_termsTold_133 ⟨Nat.zero_le _, Nat.zero_le _⟩) hS (fun I_115 R_116 J_117 AI_118 AJ_119 AR_120 H locs hp_121 hH hS => ?_)
                    dsimp only at hp_121
                    obtain ⟨rfl, rfl, rfl, rfl, hv, pfq, q_122, q_123⟩ := hp_121
                    have pf := qF_t pf pfq
                    have u_124_2 : (I_115 mo 2).toInt = (I mo 2).toInt := by rw [pf 2 (by decide) (by decide) (by decide) (by decide) (by decide)]
                    have u_124_5 : (I_115 mo 5).toInt = (I mo 5).toInt := by rw [pf 5 (by decide) (by decide) (by decide) (by decide) (by decide)]
                    have u_124_14 : (I_115 mo 14).toInt = (I mo 14).toInt := by rw [pf 14 (by decide) (by decide) (by decide) (by decide) (by decide)]
                    have u_124_16 : (I_115 mo 16).toInt = (I mo 16).toInt := by rw [pf 16 (by decide) (by decide) (by decide) (by decide) (by decide)]
                    have u_124_18 : (I_115 mo 18).toInt = (I mo 18).toInt := by rw [pf 18 (by decide) (by decide) (by decide) (by decide) (by decide)]
                    refine lv_iload F.1 F.2.1 dX7_termsTold_136 (lv_at hl 0 rfl) ?_
                    refine lv_aload_n F.1 F.2.1 dX7_termsTold_138 rfl (lv_at hl 5 rfl) ?_
                    have b_125 := mJ hv hm
                    unfold mNum1 at b_125
                    refine g_calli (g_runV (As := []) (rest := [.int (iI sg)]) (ci := 7) F hl.1 hH hS hz (c_X7_numberTold l g gh T I_115 R J_117 AI_3 AJ AR mo hv hm hT (by omega)) (cwV 0 F.2.2.2.2.1 (good_up gT_X7_numberTold) rfl rfl rfl hdX7_numberTold ⟨Nat.le_of_ble_eq_true rfl, Nat.le_of_ble_eq_true rfl⟩) hm (by decide) rfl rfl rfl (Nat.le_of_ble_eq_true rfl) dX7_termsTold_139 ⟨Nat.zero_le _, Nat.zero_le _⟩) hS (fun v_132 I_126 R_127 J_128 AI_129 AJ_130 AR_131 H locs zv_132 hp_133 hH hS => ?_)
                    dsimp only at hp_133
                    obtain ⟨rfl, rfl, rfl, rfl, hv, pfq, q_134, q_135⟩ := hp_133
                    have pf := qF_t pf pfq
                    have u_136_2 : (I_126 mo 2).toInt = (I mo 2).toInt := by rw [pf 2 (by decide) (by decide) (by decide) (by decide) (by decide)]
                    have u_136_5 : (I_126 mo 5).toInt = (I mo 5).toInt := by rw [pf 5 (by decide) (by decide) (by decide) (by decide) (by decide)]
                    have u_136_14 : (I_126 mo 14).toInt = (I mo 14).toInt := by rw [pf 14 (by decide) (by decide) (by decide) (by decide) (by decide)]
                    have u_136_16 : (I_126 mo 16).toInt = (I mo 16).toInt := by rw [pf 16 (by decide) (by decide) (by decide) (by decide) (by decide)]
                    have u_136_18 : (I_126 mo 18).toInt = (I mo 18).toInt := by rw [pf 18 (by decide) (by decide) (by decide) (by decide) (by decide)]
                    refine z_imul F dX7_termsTold_142 ?_
                    refine z_norm (fun v_137 zv_137 ev_137 => ?_)
                    refine lv_istore (lv' := [(6, .int (iI v_137)), (7, .int (iI sg)), (5, .int (iI v_43)), (4, .int (iI mr)), (3, .int (iI n)), (0, .ref mo), (1, .int (iI bl)), (2, .int (iI fm))]) F.1 F.2.1 dX7_termsTold_143 hl (by decide) rfl (fun ls hl => ?_)
                    exact cut_145_49 v_137 I_126 J_128 H locs ls zv_137 hv pf (by omega) hH hS (lv_sub hl [0, 2, 3, 4, 5, 6, 7] rfl)
                  refine lv_aload_n F.1 F.2.1 dX7_termsTold_116 rfl (lv_at hl 4 rfl) ?_
                  refine z_bipush F dX7_termsTold_117 (by decide) ?_
                  refine g_calli (g_runV (As := [.int (iI 43)]) (rest := []) (ci := 7) F hl.1 hH hS hz (c_X7_isSign l g gh T I_37 R J_39 AI_3 AJ AR mo 43 ⟨by decide, by decide⟩ hv hm hT) (cwV 1 F.2.2.2.2.1 (good_up gT_X7_isSign) rfl rfl rfl hdX7_isSign ⟨Nat.le_of_ble_eq_true rfl, Nat.le_of_ble_eq_true rfl⟩) hm (by decide) rfl rfl rfl (Nat.le_of_ble_eq_true rfl) dX7_termsTold_119 ⟨Nat.zero_le _, Nat.zero_le _⟩) hS (fun v_144 I_138 R_139 J_140 AI_141 AJ_142 AR_143 H locs zv_144 hp_145 hH hS => ?_)
                  dsimp only at hp_145
                  obtain ⟨rfl, rfl, rfl, rfl, rfl, rfl, q_146⟩ := hp_145
                  refine z_if_eq (tgt := 129) F dX7_termsTold_122 (by decide) zv_144 (fun c_147 => ?_) (fun c_147 => ?_)
                  · refine z_iconst F dX7_termsTold_129 ?_
                    exact cut_130_113 (-1) H locs ls ⟨by decide, by decide⟩ hH hS (lv_sub hl [0, 1, 2, 3, 4, 5, 6] rfl)
                  · refine z_iconst F dX7_termsTold_125 ?_
                    refine z_goto (tgt := 130) F dX7_termsTold_126 (by decide) ?_
                    exact cut_130_113 1 H locs ls ⟨by decide, by decide⟩ hH hS (lv_sub hl [0, 1, 2, 3, 4, 5, 6] rfl)
            · refine lv_aload_n F.1 F.2.1 dX7_termsTold_71 rfl (lv_at hl 2 rfl) ?_
              refine lv_iload_n F.1 F.2.1 dX7_termsTold_72 rfl (lv_at hl 4 rfl) ?_
              refine lv_iload_n F.1 F.2.1 dX7_termsTold_73 rfl (lv_at hl 1 rfl) ?_
              refine z_iadd F dX7_termsTold_74 ?_
              refine z_iconst F dX7_termsTold_75 ?_
              refine lv_aload_n F.1 F.2.1 dX7_termsTold_76 rfl (lv_at hl 2 rfl) ?_
              refine g_calli (g_runV (As := []) (rest := [.int (iI ((-1))), .int (iI (fm + n)), .ref mo]) (ci := 7) F hl.1 hH hS hz (c_X7_numberTold l g gh T I_8 R J_2 AI_3 AJ AR mo hv hm hT (by omega)) (cwV 0 F.2.2.2.2.1 (good_up gT_X7_numberTold) rfl rfl rfl hdX7_numberTold ⟨Nat.le_of_ble_eq_true rfl, Nat.le_of_ble_eq_true rfl⟩) hm (by decide) rfl rfl rfl (Nat.le_of_ble_eq_true rfl) dX7_termsTold_77 ⟨Nat.zero_le _, Nat.zero_le _⟩) hS (fun v_154 I_148 R_149 J_150 AI_151 AJ_152 AR_153 H locs zv_154 hp_155 hH hS => ?_)
              dsimp only at hp_155
              obtain ⟨rfl, rfl, rfl, rfl, hv, pfq, q_156, q_157⟩ := hp_155
              have pf := qF_t pf pfq
              have u_158_2 : (I_148 mo 2).toInt = (I mo 2).toInt := by rw [pf 2 (by decide) (by decide) (by decide) (by decide) (by decide)]
              have u_158_5 : (I_148 mo 5).toInt = (I mo 5).toInt := by rw [pf 5 (by decide) (by decide) (by decide) (by decide) (by decide)]
              have u_158_14 : (I_148 mo 14).toInt = (I mo 14).toInt := by rw [pf 14 (by decide) (by decide) (by decide) (by decide) (by decide)]
              have u_158_16 : (I_148 mo 16).toInt = (I mo 16).toInt := by rw [pf 16 (by decide) (by decide) (by decide) (by decide) (by decide)]
              have u_158_18 : (I_148 mo 18).toInt = (I mo 18).toInt := by rw [pf 18 (by decide) (by decide) (by decide) (by decide) (by decide)]
              refine z_iconst F dX7_termsTold_80 ?_
              refine z_iconst F dX7_termsTold_81 ?_
              have b_159 := mJ hv hm
              unfold mNum1 at b_159
              refine g_callv (g_runV (As := [.int (iI (fm + n)), .int (iI ((-1))), .int (iI v_154), .int (iI 0), .int (iI 0)]) (rest := []) (ci := 7) F hl.1 hH hS hz (c_X7_setsPart l g gh T M I_148 R J_150 AI_3 AJ AR mo (fm + n) (-1) v_154 0 0 ⟨by omega, by omega⟩ ⟨by decide, by decide⟩ zv_154 ⟨by decide, by decide⟩ ⟨by decide, by decide⟩ hv hm hT (by omega) (by omega) (by omega)) (cwV 5 F.2.2.2.2.1 (good_up gT_X7_setsPart) rfl rfl rfl hdX7_setsPart ⟨Nat.le_of_ble_eq_true rfl, Nat.le_of_ble_eq_true rfl⟩) hm (by decide) rfl rfl rfl (Nat.le_of_ble_eq_true rfl) dX7_termsTold_82 ⟨Nat.zero_le _, Nat.zero_le _⟩) hS (fun I_160 R_161 J_162 AI_163 AJ_164 AR_165 H locs hp_166 hH hS => ?_)
              dsimp only at hp_166
              obtain ⟨rfl, rfl, rfl, rfl, rfl, hv, hT, hsp⟩ := hp_166
              refine z_goto (tgt := 158) F dX7_termsTold_85 (by decide) ?_
              exact cut_158_12 I_148 J_150 AI_163 H locs ls hv hT pf (by omega) (fun hf => ⟨by omega, termP_step (by omega) (by omega) (hp (by omega)).2.1 (hsp (by omega)) (by omega), trF_step (hp (by omega)).2.2 ⟨by omega, by omega⟩ (hsp (by omega))⟩) hH hS (lv_sub hl [0, 1, 2, 3, 4] rfl)
          refine lv_iload_n F.1 F.2.1 dX7_termsTold_17 rfl (lv_at hl 1 rfl) ?_
          refine z_iconst F dX7_termsTold_18 ?_
          refine z_icmp_ne (tgt := 63) F dX7_termsTold_19 (by decide) zn ⟨by decide, by decide⟩ (fun c_167 => ?_) (fun c_167 => ?_)
          · exact cut_63_8 I_1 H locs ls hv pf (by omega) hH hS (lv_sub hl [0, 1, 2, 3, 4] rfl)
          · refine lv_aload_n F.1 F.2.1 dX7_termsTold_22 rfl (lv_at hl 2 rfl) ?_
            have cut_60_167 : ∀ (kd : Int) (H : Heap) (locs : List Loc) (ls : Array Slot), zr kd → (1 ≤ kd ∧ kd ≤ 8) → gH g I_1 R J_2 AI_3 AJ AR H → va_S (gA g) s.heap H locs → lv_has ls 8 [(4, .int (iI mr)), (3, .int (iI n)), (0, .ref mo), (1, .int (iI bl)), (2, .int (iI fm))] → W p l e rmX7_termsTold s m ([.ref mo, .int (iI bl), .int (iI fm)] : List Value).toArray below meth c H locs 0 0 (MQ below (gQi g (fun (z : Int) (w : gS) => R = w.2.1 ∧ AJ = w.2.2.2.2.1 ∧ AR = w.2.2.2.2.2 ∧ (mInv g gh R (w.1) (w.2.2.2.1)) ∧ ((w.2.2.2.1) (gh 50 0) = T) ∧ (qF mo I (w.1)) ∧ (((w.1) mo 20).toInt ≤ 936 ∧ (I mo 24).toInt ≤ ((w.1) mo 24).toInt) ∧ (0 ≤ z ∧ z ≤ 5) ∧ (((w.1) mo 24).toInt = 0 → 1 ≤ z ∧ z ≤ 4 ∧ termP ((w.2.2.2.1) (gh 53 0)) M fm z ∧ trF (AI (gh 53 0)) ((w.2.2.2.1) (gh 53 0)) M fm))) ([.ref mo, .int (iI bl), .int (iI fm)] : List Value).toArray s 0 0 (gA g)) (F0 m 60 ls [.int (iI kd), .ref mo]) := by
              intro kd H locs ls zkd hkd hH hS hl
              refine g_callv (g_runV (As := [.int (iI kd)]) (rest := []) (ci := 7) F hl.1 hH hS hz (c_X7_wrong l g gh T I_1 R J_2 AI_3 AJ AR mo kd zkd hv hm hT (by omega)) (cwV 1 F.2.2.2.2.1 (good_up gT_X7_wrong) rfl rfl rfl hdX7_wrong ⟨Nat.le_of_ble_eq_true rfl, Nat.le_of_ble_eq_true rfl⟩) hm (by decide) rfl rfl rfl (Nat.le_of_ble_eq_true rfl) dX7_termsTold_60 ⟨Nat.zero_le _, Nat.zero_le _⟩) hS (fun I_169 R_170 J_171 AI_172 AJ_173 AR_174 H locs hp_175 hH hS => ?_)
              dsimp only at hp_175
              obtain ⟨rfl, rfl, rfl, rfl, rfl, hv, pfq, q_176⟩ := hp_175
              have pf := qF_t pf pfq
              have u_177_2 : (I_169 mo 2).toInt = (I mo 2).toInt := by rw [pf 2 (by decide) (by decide) (by decide) (by decide) (by decide)]
              have u_177_5 : (I_169 mo 5).toInt = (I mo 5).toInt := by rw [pf 5 (by decide) (by decide) (by decide) (by decide) (by decide)]
              have u_177_14 : (I_169 mo 14).toInt = (I mo 14).toInt := by rw [pf 14 (by decide) (by decide) (by decide) (by decide) (by decide)]
              have u_177_16 : (I_169 mo 16).toInt = (I mo 16).toInt := by rw [pf 16 (by decide) (by decide) (by decide) (by decide) (by decide)]
              have u_177_18 : (I_169 mo 18).toInt = (I mo 18).toInt := by rw [pf 18 (by decide) (by decide) (by decide) (by decide) (by decide)]
              exact cut_63_8 I_169 H locs ls hv pf (by omega) hH hS (lv_sub hl [0, 1, 2, 3, 4] rfl)
            refine lv_aload_n F.1 F.2.1 dX7_termsTold_23 rfl (lv_at hl 2 rfl) ?_
            refine g_getI (ci := 7) (k := 21) F hH rfl (by decide) iX7 hm (by decide) rfl k94 dX7_termsTold_24 ?_
            refine z_iconst F dX7_termsTold_27 ?_
            refine z_icmp_ne (tgt := 47) F dX7_termsTold_28 (by decide) (zr_t _) ⟨by decide, by decide⟩ (fun c_178 => ?_) (fun c_178 => ?_)
            · refine lv_aload_n F.1 F.2.1 dX7_termsTold_47 rfl (lv_at hl 2 rfl) ?_
              refine g_getI (ci := 7) (k := 21) F hH rfl (by decide) iX7 hm (by decide) rfl k94 dX7_termsTold_48 ?_
              refine z_iconst F dX7_termsTold_51 ?_
              refine z_icmp_ne (tgt := 59) F dX7_termsTold_52 (by decide) (zr_t _) ⟨by decide, by decide⟩ (fun c_179 => ?_) (fun c_179 => ?_)
              · refine z_iconst F dX7_termsTold_59 ?_
                exact cut_60_167 1 H locs ls ⟨by decide, by decide⟩ (by omega) hH hS (lv_sub hl [0, 1, 2, 3, 4] rfl)
              · refine z_iconst F dX7_termsTold_55 ?_
                refine z_goto (tgt := 60) F dX7_termsTold_56 (by decide) ?_
                exact cut_60_167 4 H locs ls ⟨by decide, by decide⟩ (by omega) hH hS (lv_sub hl [0, 1, 2, 3, 4] rfl)
            · refine lv_aload_n F.1 F.2.1 dX7_termsTold_31 rfl (lv_at hl 2 rfl) ?_
              refine g_getI (ci := 7) (k := 23) F hH rfl (by decide) iX7 hm (by decide) rfl k97 dX7_termsTold_32 ?_
              refine lv_iload_n F.1 F.2.1 dX7_termsTold_35 rfl (lv_at hl 3 rfl) ?_
              refine z_icmp_lt (tgt := 43) F dX7_termsTold_36 (by decide) (zr_t _) zbl (fun c_180 => ?_) (fun c_180 => ?_)
              · refine z_iconst F dX7_termsTold_43 ?_
                refine z_goto (tgt := 60) F dX7_termsTold_44 (by decide) ?_
                exact cut_60_167 4 H locs ls ⟨by decide, by decide⟩ (by omega) hH hS (lv_sub hl [0, 1, 2, 3, 4] rfl)
              · refine z_iconst F dX7_termsTold_39 ?_
                refine z_goto (tgt := 60) F dX7_termsTold_40 (by decide) ?_
                exact cut_60_167 2 H locs ls ⟨by decide, by decide⟩ (by omega) hH hS (lv_sub hl [0, 1, 2, 3, 4] rfl)
  exact cut_5_3 (((6 - 0) + 1 : Int).toNat) 0 1 I J AI H locs ls ⟨by decide, by decide⟩ ⟨by decide, by decide⟩ hv hT pf (by omega) (by first | exact (fun _ => ⟨by omega, fun k a b => absurd b (by omega), trF_r⟩) | exact (fun hf => ⟨by omega, (h158 (by omega)).2.1, (h158 (by omega)).2.2⟩)) (by omega) hH hS (lv_sub hl [0, 1, 2, 3, 4] rfl)

def rmX7_selectTold : Room := { frames := 8, cells := 0, slots := 0, locals := 170 }
theorem hdX7_selectTold : yX7_selectTold.cls = RX7 ∧ yX7_selectTold.cls ≠ "java/lang/invoke/MethodHandle" ∧ yX7_selectTold.cls ≠ "java/lang/invoke/VarHandle" ∧ (parseMethodDescriptor yX7_selectTold.desc).map (fun d => d.parameters.length) = some 0 := by decide +kernel
set_option maxHeartbeats 4000000 in
set_option maxRecDepth 100000 in
/-- a selection told -/
theorem c_X7_selectTold (l : Launch) (g : gG) (gh : gGh) (T : Nat → Int32) (M : Int) (I : gI) (R : gR) (J : gJ) (AI : gI) (AJ : gJ) (AR : gR) (mo : Nat) (hv : mInv g gh R I AI) (hm : gO g mo 7) (hT : AI (gh 50 0) = T) (hE : (I mo 20).toInt ≤ 936) (hM : (I mo 24).toInt = 0 → (I mo 5).toInt ≤ 15) (hMM : (I mo 5).toInt = M) : gMet l g yX7_selectTold tsX7_selectTold rmX7_selectTold [.ref mo] (I, R, J, AI, AJ, AR) (gQv g (fun w : gS => R = w.2.1 ∧ AJ = w.2.2.2.2.1 ∧ AR = w.2.2.2.2.2 ∧ (mInv g gh R (w.1) (w.2.2.2.1)) ∧ ((w.2.2.2.1) (gh 50 0) = T) ∧ (qF mo I (w.1)) ∧ (((w.1) mo 20).toInt ≤ 936 ∧ (I mo 24).toInt ≤ ((w.1) mo 24).toInt) ∧ (((w.1) mo 24).toInt = 0 → ((w.1) mo 21).toInt = 4 → ((w.1) mo 23).toInt = 59 → rowOK ((w.2.2.2.1) (gh 53 0)) M) ∧ (((w.1) mo 24).toInt = 0 → tI ((w.2.2.2.1) (gh 53 0)) (40 * M) = 1))) := by
  refine gStart (cc := cX7_selectTold) (maxL := 8) (ret := none) (by decide) rfl (Nat.le_of_ble_eq_true rfl) ?_
  intro p e s m below meth c ls F hr hlk hH hz hS hl
  have hl : lv_has ls 8 [(0, .ref mo)] := hl
  have hS : va_S (gA g) s.heap s.heap [] := hS
  obtain ⟨H, hHe⟩ : ∃ H : Heap, H = s.heap := ⟨_, rfl⟩
  obtain ⟨locs, hlo⟩ : ∃ k : List Loc, k = [] := ⟨_, rfl⟩
  have hH : gH g I R J AI AJ AR H := by rw [hHe]; exact hH
  have hS : va_S (gA g) s.heap H locs := by rw [hHe, hlo]; exact hS
  suffices hw : W p l e rmX7_selectTold s m ([.ref mo] : List Value).toArray below meth c H locs 0 0 (MQ below (gQv g (fun w : gS => R = w.2.1 ∧ AJ = w.2.2.2.2.1 ∧ AR = w.2.2.2.2.2 ∧ (mInv g gh R (w.1) (w.2.2.2.1)) ∧ ((w.2.2.2.1) (gh 50 0) = T) ∧ (qF mo I (w.1)) ∧ (((w.1) mo 20).toInt ≤ 936 ∧ (I mo 24).toInt ≤ ((w.1) mo 24).toInt) ∧ (((w.1) mo 24).toInt = 0 → ((w.1) mo 21).toInt = 4 → ((w.1) mo 23).toInt = 59 → rowOK ((w.2.2.2.1) (gh 53 0)) M) ∧ (((w.1) mo 24).toInt = 0 → tI ((w.2.2.2.1) (gh 53 0)) (40 * M) = 1))) ([.ref mo] : List Value).toArray s 0 0 (gA g)) (F0 m 0 ls []) by
    rw [hHe, hlo] at hw; exact hw
  clear hHe hlo
  have pf : qF mo I I := qF_r
  have hb0 := mJ hv hm
  unfold mNum1 at hb0
  have iX7 : ∀ w ∈ u_ws RX7 TX7 32, w ∈ tsX7_selectTold := fun w h => List.mem_cons_of_mem _ (inTB7 w h)
  have k81 : Cond.fieldLink RX7 81 (TX7 24).1 (TX7 24).2.1 (TX7 24).2.2.1 ∈ tsX7_selectTold := List.mem_cons_of_mem _ fl_81
  have k94 : Cond.fieldLink RX7 94 (TX7 21).1 (TX7 21).2.1 (TX7 21).2.2.1 ∈ tsX7_selectTold := List.mem_cons_of_mem _ fl_94
  have k97 : Cond.fieldLink RX7 97 (TX7 23).1 (TX7 23).2.1 (TX7 23).2.2.1 ∈ tsX7_selectTold := List.mem_cons_of_mem _ fl_97
  refine lv_aload_n F.1 F.2.1 dX7_selectTold_0 rfl (lv_at hl 0 rfl) ?_
  have b_1 := mJ hv hm
  unfold mNum1 at b_1
  refine g_calli (g_runV (As := []) (rest := []) (ci := 7) F hl.1 hH hS hz (c_X7_relation l g gh T I R J AI AJ AR mo hv hm hT (by omega)) (cwV 0 F.2.2.2.2.1 (good_up gT_X7_relation) rfl rfl rfl hdX7_relation ⟨Nat.le_of_ble_eq_true rfl, Nat.le_of_ble_eq_true rfl⟩) hm (by decide) rfl rfl rfl (Nat.le_of_ble_eq_true rfl) dX7_selectTold_1 ⟨Nat.zero_le _, Nat.zero_le _⟩) hS (fun v_8 I_2 R_3 J_4 AI_5 AJ_6 AR_7 H locs zv_8 hp_9 hH hS => ?_)
  dsimp only at hp_9
  obtain ⟨rfl, rfl, rfl, rfl, hv, pfq, q_10, q_11⟩ := hp_9
  have pf := qF_t pf pfq
  have u_12_2 : (I_2 mo 2).toInt = (I mo 2).toInt := by rw [pf 2 (by decide) (by decide) (by decide) (by decide) (by decide)]
  have u_12_5 : (I_2 mo 5).toInt = (I mo 5).toInt := by rw [pf 5 (by decide) (by decide) (by decide) (by decide) (by decide)]
  have u_12_14 : (I_2 mo 14).toInt = (I mo 14).toInt := by rw [pf 14 (by decide) (by decide) (by decide) (by decide) (by decide)]
  have u_12_16 : (I_2 mo 16).toInt = (I mo 16).toInt := by rw [pf 16 (by decide) (by decide) (by decide) (by decide) (by decide)]
  have u_12_18 : (I_2 mo 18).toInt = (I mo 18).toInt := by rw [pf 18 (by decide) (by decide) (by decide) (by decide) (by decide)]
  obtain ⟨f0, ef0⟩ : ∃ q, q = (I_2 mo 24).toInt := ⟨_, rfl⟩
  have hr1 : f0 = 0 → v_8 < M := by omega
  refine lv_istore_n (lv' := [(1, .int (iI v_8)), (0, .ref mo)]) F.1 F.2.1 dX7_selectTold_4 rfl hl (by decide) rfl (fun ls hl => ?_)
  refine lv_aload_n F.1 F.2.1 dX7_selectTold_5 rfl (lv_at hl 1 rfl) ?_
  refine va_ldcS F.1 F.2.1 F.2.2.2.1 (F.2.2.2.2.2.2.1 10 _ rfl).1 dX7_selectTold_6 ?_
  have b_13 := mJ hv hm
  unfold mNum1 at b_13
  refine g_callv (g_runV (As := [.ref (gSK g 10)]) (rest := []) (ci := 7) F hl.1 hH hS hz (c_X7_mustWord l g gh T 10 _ I_2 R J_4 AI AJ AR mo hv hm hT (by omega) (rfl : sTab[10]? = some _)) (cwV 1 F.2.2.2.2.1 (good_up gT_X7_mustWord) rfl rfl rfl hdX7_mustWord ⟨Nat.le_of_ble_eq_true rfl, Nat.le_of_ble_eq_true rfl⟩) hm (by decide) rfl rfl rfl (Nat.le_of_ble_eq_true rfl) dX7_selectTold_8 ⟨Nat.zero_le _, Nat.zero_le _⟩) hS (fun I_14 R_15 J_16 AI_17 AJ_18 AR_19 H locs hp_20 hH hS => ?_)
  dsimp only at hp_20
  obtain ⟨rfl, rfl, rfl, rfl, hv, pfq, q_21⟩ := hp_20
  have pf := qF_t pf pfq
  have u_22_2 : (I_14 mo 2).toInt = (I mo 2).toInt := by rw [pf 2 (by decide) (by decide) (by decide) (by decide) (by decide)]
  have u_22_5 : (I_14 mo 5).toInt = (I mo 5).toInt := by rw [pf 5 (by decide) (by decide) (by decide) (by decide) (by decide)]
  have u_22_14 : (I_14 mo 14).toInt = (I mo 14).toInt := by rw [pf 14 (by decide) (by decide) (by decide) (by decide) (by decide)]
  have u_22_16 : (I_14 mo 16).toInt = (I mo 16).toInt := by rw [pf 16 (by decide) (by decide) (by decide) (by decide) (by decide)]
  have u_22_18 : (I_14 mo 18).toInt = (I mo 18).toInt := by rw [pf 18 (by decide) (by decide) (by decide) (by decide) (by decide)]
  refine z_iconst F dX7_selectTold_11 ?_
  refine lv_istore_n (lv' := [(2, .int (iI 0)), (1, .int (iI v_8)), (0, .ref mo)]) F.1 F.2.1 dX7_selectTold_12 rfl hl (by decide) rfl (fun ls hl => ?_)
  refine z_iconst F dX7_selectTold_13 ?_
  refine lv_istore_n (lv' := [(3, .int (iI 1)), (2, .int (iI 0)), (1, .int (iI v_8)), (0, .ref mo)]) F.1 F.2.1 dX7_selectTold_14 rfl hl (by decide) rfl (fun ls hl => ?_)
  have cut_15_25 : ∀ (NN : Nat) (n mr : Int) (I_23 : gI) (J_24 : gJ) (AI_25 : gI) (H : Heap) (locs : List Loc) (ls : Array Slot), zr n → zr mr → (mInv g gh R I_23 AI_25) → (AI_25 (gh 50 0) = T) → (qF mo I I_23) → ((I_23 mo 20).toInt ≤ 936 ∧ f0 ≤ (I_23 mo 24).toInt ∧ 0 ≤ n ∧ n ≤ 9 ∧ (mr = 0 ∨ mr = 1)) → ((I_23 mo 24).toInt = 0 → n ≤ 8 ∧ selP (AI_25 (gh 53 0)) M n) → (10 - n) < ((NN : Nat) : Int) → gH g I_23 R J_24 AI_25 AJ AR H → va_S (gA g) s.heap H locs → lv_has ls 8 [(3, .int (iI mr)), (2, .int (iI n)), (1, .int (iI v_8)), (0, .ref mo)] → W p l e rmX7_selectTold s m ([.ref mo] : List Value).toArray below meth c H locs 0 0 (MQ below (gQv g (fun w : gS => R = w.2.1 ∧ AJ = w.2.2.2.2.1 ∧ AR = w.2.2.2.2.2 ∧ (mInv g gh R (w.1) (w.2.2.2.1)) ∧ ((w.2.2.2.1) (gh 50 0) = T) ∧ (qF mo I (w.1)) ∧ (((w.1) mo 20).toInt ≤ 936 ∧ (I mo 24).toInt ≤ ((w.1) mo 24).toInt) ∧ (((w.1) mo 24).toInt = 0 → ((w.1) mo 21).toInt = 4 → ((w.1) mo 23).toInt = 59 → rowOK ((w.2.2.2.1) (gh 53 0)) M) ∧ (((w.1) mo 24).toInt = 0 → tI ((w.2.2.2.1) (gh 53 0)) (40 * M) = 1))) ([.ref mo] : List Value).toArray s 0 0 (gA g)) (F0 m 15 ls []) := by
    intro NN15
    induction NN15 with
    | zero =>
      intro n mr I_23 J_24 AI_25 H locs ls zn zmr hv hT pf hx hp hm15 hH hS hl
      exact absurd hm15 (by omega)
    | succ NN15 ih15 =>
      intro n mr I_23 J_24 AI_25 H locs ls zn zmr hv hT pf hx hp hm15 hH hS hl
      have uc_2 : (I_23 mo 2).toInt = (I mo 2).toInt := by rw [pf 2 (by decide) (by decide) (by decide) (by decide) (by decide)]
      have uc_5 : (I_23 mo 5).toInt = (I mo 5).toInt := by rw [pf 5 (by decide) (by decide) (by decide) (by decide) (by decide)]
      have uc_14 : (I_23 mo 14).toInt = (I mo 14).toInt := by rw [pf 14 (by decide) (by decide) (by decide) (by decide) (by decide)]
      have uc_16 : (I_23 mo 16).toInt = (I mo 16).toInt := by rw [pf 16 (by decide) (by decide) (by decide) (by decide) (by decide)]
      have uc_18 : (I_23 mo 18).toInt = (I mo 18).toInt := by rw [pf 18 (by decide) (by decide) (by decide) (by decide) (by decide)]
      have cut_220_26 : ∀ (H : Heap) (locs : List Loc) (ls : Array Slot), gH g I_23 R J_24 AI_25 AJ AR H → va_S (gA g) s.heap H locs → lv_has ls 8 [(3, .int (iI mr)), (2, .int (iI n)), (1, .int (iI v_8)), (0, .ref mo)] → W p l e rmX7_selectTold s m ([.ref mo] : List Value).toArray below meth c H locs 0 0 (MQ below (gQv g (fun w : gS => R = w.2.1 ∧ AJ = w.2.2.2.2.1 ∧ AR = w.2.2.2.2.2 ∧ (mInv g gh R (w.1) (w.2.2.2.1)) ∧ ((w.2.2.2.1) (gh 50 0) = T) ∧ (qF mo I (w.1)) ∧ (((w.1) mo 20).toInt ≤ 936 ∧ (I mo 24).toInt ≤ ((w.1) mo 24).toInt) ∧ (((w.1) mo 24).toInt = 0 → ((w.1) mo 21).toInt = 4 → ((w.1) mo 23).toInt = 59 → rowOK ((w.2.2.2.1) (gh 53 0)) M) ∧ (((w.1) mo 24).toInt = 0 → tI ((w.2.2.2.1) (gh 53 0)) (40 * M) = 1))) ([.ref mo] : List Value).toArray s 0 0 (gA g)) (F0 m 220 ls []) := by
        intro H locs ls hH hS hl
        refine lv_aload_n F.1 F.2.1 dX7_selectTold_220 rfl (lv_at hl 3 rfl) ?_
        refine z_iconst F dX7_selectTold_221 ?_
        refine lv_aload_n F.1 F.2.1 dX7_selectTold_222 rfl (lv_at hl 3 rfl) ?_
        refine lv_iload_n F.1 F.2.1 dX7_selectTold_223 rfl (lv_at hl 2 rfl) ?_
        have b_28 := mJ hv hm
        unfold mNum1 at b_28
        refine g_calli (g_runV (As := [.int (iI v_8)]) (rest := [.int (iI 1), .ref mo]) (ci := 7) F hl.1 hH hS hz (c_X7_columns l g gh T I_23 R J_24 AI_25 AJ AR mo v_8 zv_8 hv hm hT (by omega)) (cwV 1 F.2.2.2.2.1 (good_up gT_X7_columns) rfl rfl rfl hdX7_columns ⟨Nat.le_of_ble_eq_true rfl, Nat.le_of_ble_eq_true rfl⟩) hm (by decide) rfl rfl rfl (Nat.le_of_ble_eq_true rfl) dX7_selectTold_224 ⟨Nat.zero_le _, Nat.zero_le _⟩) hS (fun v_35 I_29 R_30 J_31 AI_32 AJ_33 AR_34 H locs zv_35 hp_36 hH hS => ?_)
        dsimp only at hp_36
        obtain ⟨rfl, rfl, rfl, rfl, rfl, rfl, q_37⟩ := hp_36
        have hcol : (I_23 mo 24).toInt = 0 → 1 ≤ v_35 ∧ v_35 ≤ 4 := fun h => by have q9 := mCol hv hm (z := v_8) (by omega) (by omega); omega
        refine lv_iload_n F.1 F.2.1 dX7_selectTold_227 rfl (lv_at hl 2 rfl) ?_
        refine z_iconst F dX7_selectTold_228 ?_
        refine lv_iload_n F.1 F.2.1 dX7_selectTold_229 rfl (lv_at hl 1 rfl) ?_
        refine g_callv (g_runV (As := [.int (iI 1), .int (iI v_35), .int (iI v_8), .int (iI ((-1))), .int (iI n)]) (rest := []) (ci := 7) F hl.1 hH hS hz (c_X7_header l g gh T M I_23 R J_24 AI_25 AJ AR mo 1 v_35 v_8 (-1) n ⟨by decide, by decide⟩ zv_35 zv_8 ⟨by decide, by decide⟩ zn hv hm hT (by omega) (by omega)) (cwV 5 F.2.2.2.2.1 (good_up gT_X7_header) rfl rfl rfl hdX7_header ⟨Nat.le_of_ble_eq_true rfl, Nat.le_of_ble_eq_true rfl⟩) hm (by decide) rfl rfl rfl (Nat.le_of_ble_eq_true rfl) dX7_selectTold_230 ⟨Nat.zero_le _, Nat.zero_le _⟩) hS (fun I_38 R_39 J_40 AI_41 AJ_42 AR_43 H locs hp_44 hH hS => ?_)
        dsimp only at hp_44
        obtain ⟨rfl, rfl, rfl, rfl, rfl, hv, hT, hhd⟩ := hp_44
        exact g_vret F hr hlk hH hS hz ⟨rfl, rfl, rfl, hv, hT, pf, by first | omega | rfl | (dsimp only; omega), by (try dsimp only); intro hf ht hn; exact row_mk (by omega) (hhd (by omega)) (by omega) (hcol (by omega)) (by omega) (by omega) (fun h => absurd h (by omega)) (fun _ => (hp (by omega)).2) (fun h => absurd h (by omega)) (fun h => absurd h (by omega)) (fun h => absurd h (by omega)) (fun h => absurd h (by omega)) (fun h => absurd h (by omega)), by (try dsimp only); intro hf; exact (hhd (by omega)).2.1⟩ dX7_selectTold_233
      refine lv_iload_n F.1 F.2.1 dX7_selectTold_15 rfl (lv_at hl 0 rfl) ?_
      refine z_if_eq (tgt := 220) F dX7_selectTold_16 (by decide) zmr (fun c_45 => ?_) (fun c_45 => ?_)
      · exact cut_220_26 H locs ls hH hS (lv_sub hl [0, 1, 2, 3] rfl)
      · refine lv_aload_n F.1 F.2.1 dX7_selectTold_19 rfl (lv_at hl 3 rfl) ?_
        refine g_getI (ci := 7) (k := 24) F hH rfl (by decide) iX7 hm (by decide) rfl k81 dX7_selectTold_20 ?_
        have b_46 := mJ hv hm
        unfold mNum1 at b_46
        refine z_if_ne (tgt := 220) F dX7_selectTold_23 (by decide) (zr_t _) (fun c_47 => ?_) (fun c_47 => ?_)
        · exact cut_220_26 H locs ls hH hS (lv_sub hl [0, 1, 2, 3] rfl)
        · have cut_73_48 : ∀ (I_48 : gI) (H : Heap) (locs : List Loc) (ls : Array Slot), (mInv g gh R I_48 AI_25) → (qF mo I I_48) → ((I_48 mo 20).toInt ≤ 936 ∧ f0 ≤ (I_48 mo 24).toInt ∧ ((I_48 mo 24).toInt = 0 → n ≤ 7)) → gH g I_48 R J_24 AI_25 AJ AR H → va_S (gA g) s.heap H locs → lv_has ls 8 [(3, .int (iI mr)), (2, .int (iI n)), (1, .int (iI v_8)), (0, .ref mo)] → W p l e rmX7_selectTold s m ([.ref mo] : List Value).toArray below meth c H locs 0 0 (MQ below (gQv g (fun w : gS => R = w.2.1 ∧ AJ = w.2.2.2.2.1 ∧ AR = w.2.2.2.2.2 ∧ (mInv g gh R (w.1) (w.2.2.2.1)) ∧ ((w.2.2.2.1) (gh 50 0) = T) ∧ (qF mo I (w.1)) ∧ (((w.1) mo 20).toInt ≤ 936 ∧ (I mo 24).toInt ≤ ((w.1) mo 24).toInt) ∧ (((w.1) mo 24).toInt = 0 → ((w.1) mo 21).toInt = 4 → ((w.1) mo 23).toInt = 59 → rowOK ((w.2.2.2.1) (gh 53 0)) M) ∧ (((w.1) mo 24).toInt = 0 → tI ((w.2.2.2.1) (gh 53 0)) (40 * M) = 1))) ([.ref mo] : List Value).toArray s 0 0 (gA g)) (F0 m 73 ls []) := by
            intro I_48 H locs ls hv pf hj26 hH hS hl
            have uc_2 : (I_48 mo 2).toInt = (I mo 2).toInt := by rw [pf 2 (by decide) (by decide) (by decide) (by decide) (by decide)]
            have uc_5 : (I_48 mo 5).toInt = (I mo 5).toInt := by rw [pf 5 (by decide) (by decide) (by decide) (by decide) (by decide)]
            have uc_14 : (I_48 mo 14).toInt = (I mo 14).toInt := by rw [pf 14 (by decide) (by decide) (by decide) (by decide) (by decide)]
            have uc_16 : (I_48 mo 16).toInt = (I mo 16).toInt := by rw [pf 16 (by decide) (by decide) (by decide) (by decide) (by decide)]
            have uc_18 : (I_48 mo 18).toInt = (I mo 18).toInt := by rw [pf 18 (by decide) (by decide) (by decide) (by decide) (by decide)]
            refine lv_aload_n F.1 F.2.1 dX7_selectTold_73 rfl (lv_at hl 3 rfl) ?_
            refine lv_aload_n F.1 F.2.1 dX7_selectTold_74 rfl (lv_at hl 3 rfl) ?_
            refine lv_iload_n F.1 F.2.1 dX7_selectTold_75 rfl (lv_at hl 2 rfl) ?_
            have b_50 := mJ hv hm
            unfold mNum1 at b_50
            refine g_calli (g_runV (As := [.int (iI v_8)]) (rest := [.ref mo]) (ci := 7) F hl.1 hH hS hz (c_X7_columns l g gh T I_48 R J_24 AI_25 AJ AR mo v_8 zv_8 hv hm hT (by omega)) (cwV 1 F.2.2.2.2.1 (good_up gT_X7_columns) rfl rfl rfl hdX7_columns ⟨Nat.le_of_ble_eq_true rfl, Nat.le_of_ble_eq_true rfl⟩) hm (by decide) rfl rfl rfl (Nat.le_of_ble_eq_true rfl) dX7_selectTold_76 ⟨Nat.zero_le _, Nat.zero_le _⟩) hS (fun v_57 I_51 R_52 J_53 AI_54 AJ_55 AR_56 H locs zv_57 hp_58 hH hS => ?_)
            dsimp only at hp_58
            obtain ⟨rfl, rfl, rfl, rfl, rfl, rfl, q_59⟩ := hp_58
            refine g_calli (g_runV (As := [.int (iI v_57)]) (rest := []) (ci := 7) F hl.1 hH hS hz (c_X7_column l g gh T I_48 R J_24 AI_25 AJ AR mo v_57 zv_57 hv hm hT (by omega)) (cwV 1 F.2.2.2.2.1 (good_up gT_X7_column) rfl rfl rfl hdX7_column ⟨Nat.le_of_ble_eq_true rfl, Nat.le_of_ble_eq_true rfl⟩) hm (by decide) rfl rfl rfl (Nat.le_of_ble_eq_true rfl) dX7_selectTold_79 ⟨Nat.zero_le _, Nat.zero_le _⟩) hS (fun v_66 I_60 R_61 J_62 AI_63 AJ_64 AR_65 H locs zv_66 hp_67 hH hS => ?_)
            dsimp only at hp_67
            obtain ⟨rfl, rfl, rfl, rfl, hv, pfq, q_68, q_69⟩ := hp_67
            have pf := qF_t pf pfq
            have u_70_2 : (I_60 mo 2).toInt = (I mo 2).toInt := by rw [pf 2 (by decide) (by decide) (by decide) (by decide) (by decide)]
            have u_70_5 : (I_60 mo 5).toInt = (I mo 5).toInt := by rw [pf 5 (by decide) (by decide) (by decide) (by decide) (by decide)]
            have u_70_14 : (I_60 mo 14).toInt = (I mo 14).toInt := by rw [pf 14 (by decide) (by decide) (by decide) (by decide) (by decide)]
            have u_70_16 : (I_60 mo 16).toInt = (I mo 16).toInt := by rw [pf 16 (by decide) (by decide) (by decide) (by decide) (by decide)]
            have u_70_18 : (I_60 mo 18).toInt = (I mo 18).toInt := by rw [pf 18 (by decide) (by decide) (by decide) (by decide) (by decide)]
            obtain ⟨f1, ef1⟩ : ∃ q, q = (I_60 mo 24).toInt := ⟨_, rfl⟩
            have hc1 : f1 = 0 → 0 ≤ v_66 ∧ v_66 ≤ 3 := by omega
            refine lv_istore (lv' := [(4, .int (iI v_66)), (3, .int (iI mr)), (2, .int (iI n)), (1, .int (iI v_8)), (0, .ref mo)]) F.1 F.2.1 dX7_selectTold_82 hl (by decide) rfl (fun ls hl => ?_)
            have cut_124_70 : ∀ (sg : Int) (H : Heap) (locs : List Loc) (ls : Array Slot), zr sg → (-1 ≤ sg ∧ sg ≤ 2) → gH g I_60 R J_62 AI_25 AJ AR H → va_S (gA g) s.heap H locs → lv_has ls 8 [(4, .int (iI v_66)), (3, .int (iI mr)), (2, .int (iI n)), (1, .int (iI v_8)), (0, .ref mo)] → W p l e rmX7_selectTold s m ([.ref mo] : List Value).toArray below meth c H locs 0 0 (MQ below (gQv g (fun w : gS => R = w.2.1 ∧ AJ = w.2.2.2.2.1 ∧ AR = w.2.2.2.2.2 ∧ (mInv g gh R (w.1) (w.2.2.2.1)) ∧ ((w.2.2.2.1) (gh 50 0) = T) ∧ (qF mo I (w.1)) ∧ (((w.1) mo 20).toInt ≤ 936 ∧ (I mo 24).toInt ≤ ((w.1) mo 24).toInt) ∧ (((w.1) mo 24).toInt = 0 → ((w.1) mo 21).toInt = 4 → ((w.1) mo 23).toInt = 59 → rowOK ((w.2.2.2.1) (gh 53 0)) M) ∧ (((w.1) mo 24).toInt = 0 → tI ((w.2.2.2.1) (gh 53 0)) (40 * M) = 1))) ([.ref mo] : List Value).toArray s 0 0 (gA g)) (F0 m 124 ls [.int (iI sg)]) := by
              intro sg H locs ls zsg hsg hH hS hl
              refine lv_istore (lv' := [(5, .int (iI sg)), (4, .int (iI v_66)), (3, .int (iI mr)), (2, .int (iI n)), (1, .int (iI v_8)), (0, .ref mo)]) F.1 F.2.1 dX7_selectTold_124 hl (by decide) rfl (fun ls hl => ?_)
              have cut_136_72 : ∀ (I_72 : gI) (H : Heap) (locs : List Loc) (ls : Array Slot), (mInv g gh R I_72 AI_25) → (qF mo I I_72) → ((I_72 mo 20).toInt ≤ 936 ∧ f1 ≤ (I_72 mo 24).toInt) → gH g I_72 R J_62 AI_25 AJ AR H → va_S (gA g) s.heap H locs → lv_has ls 8 [(5, .int (iI sg)), (4, .int (iI v_66)), (3, .int (iI mr)), (2, .int (iI n)), (1, .int (iI v_8)), (0, .ref mo)] → W p l e rmX7_selectTold s m ([.ref mo] : List Value).toArray below meth c H locs 0 0 (MQ below (gQv g (fun w : gS => R = w.2.1 ∧ AJ = w.2.2.2.2.1 ∧ AR = w.2.2.2.2.2 ∧ (mInv g gh R (w.1) (w.2.2.2.1)) ∧ ((w.2.2.2.1) (gh 50 0) = T) ∧ (qF mo I (w.1)) ∧ (((w.1) mo 20).toInt ≤ 936 ∧ (I mo 24).toInt ≤ ((w.1) mo 24).toInt) ∧ (((w.1) mo 24).toInt = 0 → ((w.1) mo 21).toInt = 4 → ((w.1) mo 23).toInt = 59 → rowOK ((w.2.2.2.1) (gh 53 0)) M) ∧ (((w.1) mo 24).toInt = 0 → tI ((w.2.2.2.1) (gh 53 0)) (40 * M) = 1))) ([.ref mo] : List Value).toArray s 0 0 (gA g)) (F0 m 136 ls []) := by
                intro I_72 H locs ls hv pf hj126 hH hS hl
                have uc_2 : (I_72 mo 2).toInt = (I mo 2).toInt := by rw [pf 2 (by decide) (by decide) (by decide) (by decide) (by decide)]
                have uc_5 : (I_72 mo 5).toInt = (I mo 5).toInt := by rw [pf 5 (by decide) (by decide) (by decide) (by decide) (by decide)]
                have uc_14 : (I_72 mo 14).toInt = (I mo 14).toInt := by rw [pf 14 (by decide) (by decide) (by decide) (by decide) (by decide)]
                have uc_16 : (I_72 mo 16).toInt = (I mo 16).toInt := by rw [pf 16 (by decide) (by decide) (by decide) (by decide) (by decide)]
                have uc_18 : (I_72 mo 18).toInt = (I mo 18).toInt := by rw [pf 18 (by decide) (by decide) (by decide) (by decide) (by decide)]
                refine lv_aload_n F.1 F.2.1 dX7_selectTold_136 rfl (lv_at hl 5 rfl) ?_
                have b_74 := mJ hv hm
                unfold mNum1 at b_74
                refine g_callv (g_runV (As := []) (rest := []) (ci := 7) F hl.1 hH hS hz (c_X7_next l g gh T I_72 R J_62 AI_25 AJ AR mo hv hm hT (by omega)) (cwV 0 F.2.2.2.2.1 (good_up gT_X7_next) rfl rfl rfl hdX7_next ⟨Nat.le_of_ble_eq_true rfl, Nat.le_of_ble_eq_true rfl⟩) hm (by decide) rfl rfl rfl (Nat.le_of_ble_eq_true rfl) dX7_selectTold_137 ⟨Nat.zero_le _, Nat.zero_le _⟩) hS (fun I_75 R_76 J_77 AI_78 AJ_79 AR_80 H locs hp_81 hH hS => ?_)
                dsimp only at hp_81
                obtain ⟨rfl, rfl, rfl, rfl, hv, pfq, q_82, q_83⟩ := hp_81
                have pf := qF_t pf pfq
                have u_84_2 : (I_75 mo 2).toInt = (I mo 2).toInt := by rw [pf 2 (by decide) (by decide) (by decide) (by decide) (by decide)]
                have u_84_5 : (I_75 mo 5).toInt = (I mo 5).toInt := by rw [pf 5 (by decide) (by decide) (by decide) (by decide) (by decide)]
                have u_84_14 : (I_75 mo 14).toInt = (I mo 14).toInt := by rw [pf 14 (by decide) (by decide) (by decide) (by decide) (by decide)]
                have u_84_16 : (I_75 mo 16).toInt = (I mo 16).toInt := by rw [pf 16 (by decide) (by decide) (by decide) (by decide) (by decide)]
                have u_84_18 : (I_75 mo 18).toInt = (I mo 18).toInt := by rw [pf 18 (by decide) (by decide) (by decide) (by decide) (by decide)]
                have cut_153_84 : ∀ (ic : Int) (H : Heap) (locs : List Loc) (ls : Array Slot), zr ic → (ic = 0 ∨ ic = 1) → gH g I_75 R J_77 AI_25 AJ AR H → va_S (gA g) s.heap H locs → lv_has ls 8 [(5, .int (iI sg)), (4, .int (iI v_66)), (3, .int (iI mr)), (2, .int (iI n)), (1, .int (iI v_8)), (0, .ref mo)] → W p l e rmX7_selectTold s m ([.ref mo] : List Value).toArray below meth c H locs 0 0 (MQ below (gQv g (fun w : gS => R = w.2.1 ∧ AJ = w.2.2.2.2.1 ∧ AR = w.2.2.2.2.2 ∧ (mInv g gh R (w.1) (w.2.2.2.1)) ∧ ((w.2.2.2.1) (gh 50 0) = T) ∧ (qF mo I (w.1)) ∧ (((w.1) mo 20).toInt ≤ 936 ∧ (I mo 24).toInt ≤ ((w.1) mo 24).toInt) ∧ (((w.1) mo 24).toInt = 0 → ((w.1) mo 21).toInt = 4 → ((w.1) mo 23).toInt = 59 → rowOK ((w.2.2.2.1) (gh 53 0)) M) ∧ (((w.1) mo 24).toInt = 0 → tI ((w.2.2.2.1) (gh 53 0)) (40 * M) = 1))) ([.ref mo] : List Value).toArray s 0 0 (gA g)) (F0 m 153 ls [.int (iI ic)]) := by
                  intro ic H locs ls zic hic hH hS hl
                  refine lv_istore (lv' := [(6, .int (iI ic)), (5, .int (iI sg)), (4, .int (iI v_66)), (3, .int (iI mr)), (2, .int (iI n)), (1, .int (iI v_8)), (0, .ref mo)]) F.1 F.2.1 dX7_selectTold_153 hl (by decide) rfl (fun ls hl => ?_)
                  have cut_176_87 : ∀ (v7 : Int) (I_86 : gI) (J_87 : gJ) (H : Heap) (locs : List Loc) (ls : Array Slot), zr v7 → (mInv g gh R I_86 AI_25) → (qF mo I I_86) → ((I_86 mo 20).toInt ≤ 936 ∧ f1 ≤ (I_86 mo 24).toInt ∧ ((I_86 mo 24).toInt = 0 → ic = 1 → 0 ≤ v7 ∧ v7 ≤ 3)) → gH g I_86 R J_87 AI_25 AJ AR H → va_S (gA g) s.heap H locs → lv_has ls 8 [(6, .int (iI ic)), (5, .int (iI sg)), (4, .int (iI v_66)), (3, .int (iI mr)), (2, .int (iI n)), (1, .int (iI v_8)), (0, .ref mo)] → W p l e rmX7_selectTold s m ([.ref mo] : List Value).toArray below meth c H locs 0 0 (MQ below (gQv g (fun w : gS => R = w.2.1 ∧ AJ = w.2.2.2.2.1 ∧ AR = w.2.2.2.2.2 ∧ (mInv g gh R (w.1) (w.2.2.2.1)) ∧ ((w.2.2.2.1) (gh 50 0) = T) ∧ (qF mo I (w.1)) ∧ (((w.1) mo 20).toInt ≤ 936 ∧ (I mo 24).toInt ≤ ((w.1) mo 24).toInt) ∧ (((w.1) mo 24).toInt = 0 → ((w.1) mo 21).toInt = 4 → ((w.1) mo 23).toInt = 59 → rowOK ((w.2.2.2.1) (gh 53 0)) M) ∧ (((w.1) mo 24).toInt = 0 → tI ((w.2.2.2.1) (gh 53 0)) (40 * M) = 1))) ([.ref mo] : List Value).toArray s 0 0 (gA g)) (F0 m 176 ls [.int (iI v7)]) := by
                    intro v7 I_86 J_87 H locs ls zv7 hv pf h176 hH hS hl
                    have uc_2 : (I_86 mo 2).toInt = (I mo 2).toInt := by rw [pf 2 (by decide) (by decide) (by decide) (by decide) (by decide)]
                    have uc_5 : (I_86 mo 5).toInt = (I mo 5).toInt := by rw [pf 5 (by decide) (by decide) (by decide) (by decide) (by decide)]
                    have uc_14 : (I_86 mo 14).toInt = (I mo 14).toInt := by rw [pf 14 (by decide) (by decide) (by decide) (by decide) (by decide)]
                    have uc_16 : (I_86 mo 16).toInt = (I mo 16).toInt := by rw [pf 16 (by decide) (by decide) (by decide) (by decide) (by decide)]
                    have uc_18 : (I_86 mo 18).toInt = (I mo 18).toInt := by rw [pf 18 (by decide) (by decide) (by decide) (by decide) (by decide)]
                    refine lv_istore (lv' := [(7, .int (iI v7)), (6, .int (iI ic)), (5, .int (iI sg)), (4, .int (iI v_66)), (3, .int (iI mr)), (2, .int (iI n)), (1, .int (iI v_8)), (0, .ref mo)]) F.1 F.2.1 dX7_selectTold_176 hl (by decide) rfl (fun ls hl => ?_)
                    refine lv_aload_n F.1 F.2.1 dX7_selectTold_178 rfl (lv_at hl 7 rfl) ?_
                    refine lv_iload_n F.1 F.2.1 dX7_selectTold_179 rfl (lv_at hl 5 rfl) ?_
                    refine lv_iload F.1 F.2.1 dX7_selectTold_180 (lv_at hl 3 rfl) ?_
                    refine lv_iload F.1 F.2.1 dX7_selectTold_182 (lv_at hl 2 rfl) ?_
                    have cut_194_88 : ∀ (ic2 : Int) (H : Heap) (locs : List Loc) (ls : Array Slot), zr ic2 → ((ic2 = 0 ∨ ic2 = 1) ∧ (ic2 = 1 → ic = 1)) → gH g I_86 R J_87 AI_25 AJ AR H → va_S (gA g) s.heap H locs → lv_has ls 8 [(7, .int (iI v7)), (6, .int (iI ic)), (5, .int (iI sg)), (4, .int (iI v_66)), (3, .int (iI mr)), (2, .int (iI n)), (1, .int (iI v_8)), (0, .ref mo)] → W p l e rmX7_selectTold s m ([.ref mo] : List Value).toArray below meth c H locs 0 0 (MQ below (gQv g (fun w : gS => R = w.2.1 ∧ AJ = w.2.2.2.2.1 ∧ AR = w.2.2.2.2.2 ∧ (mInv g gh R (w.1) (w.2.2.2.1)) ∧ ((w.2.2.2.1) (gh 50 0) = T) ∧ (qF mo I (w.1)) ∧ (((w.1) mo 20).toInt ≤ 936 ∧ (I mo 24).toInt ≤ ((w.1) mo 24).toInt) ∧ (((w.1) mo 24).toInt = 0 → ((w.1) mo 21).toInt = 4 → ((w.1) mo 23).toInt = 59 → rowOK ((w.2.2.2.1) (gh 53 0)) M) ∧ (((w.1) mo 24).toInt = 0 → tI ((w.2.2.2.1) (gh 53 0)) (40 * M) = 1))) ([.ref mo] : List Value).toArray s 0 0 (gA g)) (F0 m 194 ls [.int (iI ic2), .int (iI sg), .int (iI v_66), .int (iI n), .ref mo]) := by
                      intro ic2 H locs ls zic2 hic2 hH hS hl
                      refine lv_iload F.1 F.2.1 dX7_selectTold_194 (lv_at hl 0 rfl) ?_
                      have b_90 := mJ hv hm
                      unfold mNum1 at b_90
                      refine g_callv (g_runV (As := [.int (iI n), .int (iI v_66), .int (iI sg), .int (iI ic2), .int (iI v7)]) (rest := []) (ci := 7) F hl.1 hH hS hz (c_X7_setsPart l g gh T M I_86 R J_87 AI_25 AJ AR mo n v_66 sg ic2 v7 zn zv_66 zsg zic2 zv7 hv hm hT (by omega) (by omega) (by omega)) (cwV 5 F.2.2.2.2.1 (good_up gT_X7_setsPart) rfl rfl rfl hdX7_setsPart ⟨Nat.le_of_ble_eq_true rfl, Nat.le_of_ble_eq_true rfl⟩) hm (by decide) rfl rfl rfl (Nat.le_of_ble_eq_true rfl) dX7_selectTold_196 ⟨Nat.zero_le _, Nat.zero_le _⟩) hS (fun I_91 R_92 J_93 AI_94 AJ_95 AR_96 H locs hp_97 hH hS => ?_)
                      dsimp only at hp_97
                      obtain ⟨rfl, rfl, rfl, rfl, rfl, hv, hT, hsp⟩ := hp_97
                      refine z_iinc (lv' := [(2, .int (iI (n + 1))), (7, .int (iI v7)), (6, .int (iI ic)), (5, .int (iI sg)), (4, .int (iI v_66)), (3, .int (iI mr)), (1, .int (iI v_8)), (0, .ref mo)]) F dX7_selectTold_199 hl (k := 5) rfl (by decide) rfl (fun ls hl => ?_)
                      refine lv_aload_n F.1 F.2.1 dX7_selectTold_202 rfl (lv_at hl 7 rfl) ?_
                      refine va_ldcS F.1 F.2.1 F.2.2.2.1 (F.2.2.2.2.2.2.1 11 _ rfl).1 dX7_selectTold_203 ?_
                      refine g_calli (g_runV (As := [.ref (gSK g 11)]) (rest := []) (ci := 7) F hl.1 hH hS hz (c_X7_isWord l g gh T 11 _ I_86 R J_87 AI_94 AJ AR mo hv hm hT (rfl : sTab[11]? = some _)) (cwV 1 F.2.2.2.2.1 (good_up gT_X7_isWord) rfl rfl rfl hdX7_isWord ⟨Nat.le_of_ble_eq_true rfl, Nat.le_of_ble_eq_true rfl⟩) hm (by decide) rfl rfl rfl (Nat.le_of_ble_eq_true rfl) dX7_selectTold_205 ⟨Nat.zero_le _, Nat.zero_le _⟩) hS (fun v_104 I_98 R_99 J_100 AI_101 AJ_102 AR_103 H locs zv_104 hp_105 hH hS => ?_)
                      dsimp only at hp_105
                      obtain ⟨rfl, rfl, rfl, rfl, rfl, rfl, q_106⟩ := hp_105
                      refine lv_istore_n (lv' := [(3, .int (iI v_104)), (2, .int (iI (n + 1))), (7, .int (iI v7)), (6, .int (iI ic)), (5, .int (iI sg)), (4, .int (iI v_66)), (1, .int (iI v_8)), (0, .ref mo)]) F.1 F.2.1 dX7_selectTold_208 rfl hl (by decide) rfl (fun ls hl => ?_)
                      refine lv_iload_n F.1 F.2.1 dX7_selectTold_209 rfl (lv_at hl 0 rfl) ?_
                      refine z_if_eq (tgt := 217) F dX7_selectTold_210 (by decide) zv_104 (fun c_107 => ?_) (fun c_107 => ?_)
                      · refine z_goto (tgt := 15) F dX7_selectTold_217 (by decide) ?_
                        exact ih15 (n + 1) v_104 I_86 J_87 AI_94 H locs ls ⟨by omega, by omega⟩ zv_104 hv hT pf (by omega) (by first | exact (fun _ => ⟨by omega, fun k a b => absurd b (by omega)⟩) | exact (fun hf => ⟨by omega, selP_step (by omega) (hp (by omega)).2 (hsp (by omega)) (by omega) (by omega)⟩)) (by omega) hH hS (lv_sub hl [0, 1, 6, 7] rfl)
                      · refine lv_aload_n F.1 F.2.1 dX7_selectTold_213 rfl (lv_at hl 7 rfl) ?_
                        refine g_callv (g_runV (As := []) (rest := []) (ci := 7) F hl.1 hH hS hz (c_X7_next l g gh T I_86 R J_87 AI_94 AJ AR mo hv hm hT (by omega)) (cwV 0 F.2.2.2.2.1 (good_up gT_X7_next) rfl rfl rfl hdX7_next ⟨Nat.le_of_ble_eq_true rfl, Nat.le_of_ble_eq_true rfl⟩) hm (by decide) rfl rfl rfl (Nat.le_of_ble_eq_true rfl) dX7_selectTold_214 ⟨Nat.zero_le _, Nat.zero_le _⟩) hS (fun I_108 R_109 J_110 AI_111 AJ_112 AR_113 H locs hp_114 hH hS => ?_)
                        dsimp only at hp_114
                        obtain ⟨rfl, rfl, rfl, rfl, hv, pfq, q_115, q_116⟩ := hp_114
                        have pf := qF_t pf pfq
                        have u_117_2 : (I_108 mo 2).toInt = (I mo 2).toInt := by rw [pf 2 (by decide) (by decide) (by decide) (by decide) (by decide)]
                        have u_117_5 : (I_108 mo 5).toInt = (I mo 5).toInt := by rw [pf 5 (by decide) (by decide) (by decide) (by decide) (by decide)]
                        have u_117_14 : (I_108 mo 14).toInt = (I mo 14).toInt := by rw [pf 14 (by decide) (by decide) (by decide) (by decide) (by decide)]
                        have u_117_16 : (I_108 mo 16).toInt = (I mo 16).toInt := by rw [pf 16 (by decide) (by decide) (by decide) (by decide) (by decide)]
                        have u_117_18 : (I_108 mo 18).toInt = (I mo 18).toInt := by rw [pf 18 (by decide) (by decide) (by decide) (by decide) (by decide)]
                        refine z_goto (tgt := 15) F dX7_selectTold_217 (by decide) ?_
                        exact ih15 (n + 1) v_104 I_108 J_110 AI_94 H locs ls ⟨by omega, by omega⟩ zv_104 hv hT pf (by omega) (by first | exact (fun _ => ⟨by omega, fun k a b => absurd b (by omega)⟩) | exact (fun hf => ⟨by omega, selP_step (by omega) (hp (by omega)).2 (hsp (by omega)) (by omega) (by omega)⟩)) (by omega) hH hS (lv_sub hl [0, 1, 6, 7] rfl)
                    refine lv_iload F.1 F.2.1 dX7_selectTold_184 (lv_at hl 1 rfl) ?_
                    refine z_if_eq (tgt := 193) F dX7_selectTold_186 (by decide) zic (fun c_118 => ?_) (fun c_118 => ?_)
                    · refine z_iconst F dX7_selectTold_193 ?_
                      exact cut_194_88 0 H locs ls ⟨by decide, by decide⟩ (by omega) hH hS (lv_sub hl [0, 1, 2, 3, 4, 5, 6, 7] rfl)
                    · refine z_iconst F dX7_selectTold_189 ?_
                      refine z_goto (tgt := 194) F dX7_selectTold_190 (by decide) ?_
                      exact cut_194_88 1 H locs ls ⟨by decide, by decide⟩ (by omega) hH hS (lv_sub hl [0, 1, 2, 3, 4, 5, 6, 7] rfl)
                  refine lv_iload F.1 F.2.1 dX7_selectTold_155 (lv_at hl 0 rfl) ?_
                  refine z_if_eq (tgt := 172) F dX7_selectTold_157 (by decide) zic (fun c_119 => ?_) (fun c_119 => ?_)
                  · refine lv_aload_n F.1 F.2.1 dX7_selectTold_172 rfl (lv_at hl 6 rfl) ?_
                    have b_120 := mJ hv hm
                    unfold mNum1 at b_120
                    refine g_calli (g_runV (As := []) (rest := []) (ci := 7) F hl.1 hH hS hz (c_X7_numberTold l g gh T I_75 R J_77 AI_25 AJ AR mo hv hm hT (by omega)) (cwV 0 F.2.2.2.2.1 (good_up gT_X7_numberTold) rfl rfl rfl hdX7_numberTold ⟨Nat.le_of_ble_eq_true rfl, Nat.le_of_ble_eq_true rfl⟩) hm (by decide) rfl rfl rfl (Nat.le_of_ble_eq_true rfl) dX7_selectTold_173 ⟨Nat.zero_le _, Nat.zero_le _⟩) hS (fun v_127 I_121 R_122 J_123 AI_124 AJ_125 AR_126 H locs zv_127 hp_128 hH hS => ?_)
                    dsimp only at hp_128
                    obtain ⟨rfl, rfl, rfl, rfl, hv, pfq, q_129, q_130⟩ := hp_128
                    have pf := qF_t pf pfq
                    have u_131_2 : (I_121 mo 2).toInt = (I mo 2).toInt := by rw [pf 2 (by decide) (by decide) (by decide) (by decide) (by decide)]
                    have u_131_5 : (I_121 mo 5).toInt = (I mo 5).toInt := by rw [pf 5 (by decide) (by decide) (by decide) (by decide) (by decide)]
                    have u_131_14 : (I_121 mo 14).toInt = (I mo 14).toInt := by rw [pf 14 (by decide) (by decide) (by decide) (by decide) (by decide)]
                    have u_131_16 : (I_121 mo 16).toInt = (I mo 16).toInt := by rw [pf 16 (by decide) (by decide) (by decide) (by decide) (by decide)]
                    have u_131_18 : (I_121 mo 18).toInt = (I mo 18).toInt := by rw [pf 18 (by decide) (by decide) (by decide) (by decide) (by decide)]
                    exact cut_176_87 v_127 I_121 J_123 H locs ls zv_127 hv pf (by omega) hH hS (lv_sub hl [0, 1, 2, 3, 4, 5, 6] rfl)
                  · refine lv_aload_n F.1 F.2.1 dX7_selectTold_160 rfl (lv_at hl 6 rfl) ?_
                    refine lv_aload_n F.1 F.2.1 dX7_selectTold_161 rfl (lv_at hl 6 rfl) ?_
                    refine lv_iload_n F.1 F.2.1 dX7_selectTold_162 rfl (lv_at hl 5 rfl) ?_
                    have b_132 := mJ hv hm
                    unfold mNum1 at b_132
                    refine g_calli (g_runV (As := [.int (iI v_8)]) (rest := [.ref mo]) (ci := 7) F hl.1 hH hS hz (c_X7_columns l g gh T I_75 R J_77 AI_25 AJ AR mo v_8 zv_8 hv hm hT (by omega)) (cwV 1 F.2.2.2.2.1 (good_up gT_X7_columns) rfl rfl rfl hdX7_columns ⟨Nat.le_of_ble_eq_true rfl, Nat.le_of_ble_eq_true rfl⟩) hm (by decide) rfl rfl rfl (Nat.le_of_ble_eq_true rfl) dX7_selectTold_163 ⟨Nat.zero_le _, Nat.zero_le _⟩) hS (fun v_139 I_133 R_134 J_135 AI_136 AJ_137 AR_138 H locs zv_139 hp_140 hH hS => ?_)
                    dsimp only at hp_140
                    obtain ⟨rfl, rfl, rfl, rfl, rfl, rfl, q_141⟩ := hp_140
                    refine g_calli (g_runV (As := [.int (iI v_139)]) (rest := []) (ci := 7) F hl.1 hH hS hz (c_X7_column l g gh T I_75 R J_77 AI_25 AJ AR mo v_139 zv_139 hv hm hT (by omega)) (cwV 1 F.2.2.2.2.1 (good_up gT_X7_column) rfl rfl rfl hdX7_column ⟨Nat.le_of_ble_eq_true rfl, Nat.le_of_ble_eq_true rfl⟩) hm (by decide) rfl rfl rfl (Nat.le_of_ble_eq_true rfl) dX7_selectTold_166 ⟨Nat.zero_le _, Nat.zero_le _⟩) hS (fun v_148 I_142 R_143 J_144 AI_145 AJ_146 AR_147 H locs zv_148 hp_149 hH hS => ?_)
                    dsimp only at hp_149
                    obtain ⟨rfl, rfl, rfl, rfl, hv, pfq, q_150, q_151⟩ := hp_149
                    have pf := qF_t pf pfq
                    have u_152_2 : (I_142 mo 2).toInt = (I mo 2).toInt := by rw [pf 2 (by decide) (by decide) (by decide) (by decide) (by decide)]
                    have u_152_5 : (I_142 mo 5).toInt = (I mo 5).toInt := by rw [pf 5 (by decide) (by decide) (by decide) (by decide) (by decide)]
                    have u_152_14 : (I_142 mo 14).toInt = (I mo 14).toInt := by rw [pf 14 (by decide) (by decide) (by decide) (by decide) (by decide)]
                    have u_152_16 : (I_142 mo 16).toInt = (I mo 16).toInt := by rw [pf 16 (by decide) (by decide) (by decide) (by decide) (by decide)]
                    have u_152_18 : (I_142 mo 18).toInt = (I mo 18).toInt := by rw [pf 18 (by decide) (by decide) (by decide) (by decide) (by decide)]
                    refine z_goto (tgt := 176) F dX7_selectTold_169 (by decide) ?_
                    exact cut_176_87 v_148 I_142 J_144 H locs ls zv_148 hv pf (by omega) hH hS (lv_sub hl [0, 1, 2, 3, 4, 5, 6] rfl)
                refine lv_aload_n F.1 F.2.1 dX7_selectTold_140 rfl (lv_at hl 5 rfl) ?_
                refine g_getI (ci := 7) (k := 21) F hH rfl (by decide) iX7 hm (by decide) rfl k94 dX7_selectTold_141 ?_
                have b_153 := mJ hv hm
                unfold mNum1 at b_153
                refine z_iconst F dX7_selectTold_144 ?_
                refine z_icmp_ne (tgt := 152) F dX7_selectTold_145 (by decide) (zr_t _) ⟨by decide, by decide⟩ (fun c_154 => ?_) (fun c_154 => ?_)
                · refine z_iconst F dX7_selectTold_152 ?_
                  exact cut_153_84 0 H locs ls ⟨by decide, by decide⟩ (by omega) hH hS (lv_sub hl [0, 1, 2, 3, 4, 5] rfl)
                · refine z_iconst F dX7_selectTold_148 ?_
                  refine z_goto (tgt := 153) F dX7_selectTold_149 (by decide) ?_
                  exact cut_153_84 1 H locs ls ⟨by decide, by decide⟩ (by omega) hH hS (lv_sub hl [0, 1, 2, 3, 4, 5] rfl)
              refine lv_iload F.1 F.2.1 dX7_selectTold_126 (lv_at hl 0 rfl) ?_
              refine z_if_ge (tgt := 136) F dX7_selectTold_128 (by decide) zsg (fun c_155 => ?_) (fun c_155 => ?_)
              · exact cut_136_72 I_60 H locs ls hv pf (by omega) hH hS (lv_sub hl [0, 1, 2, 3, 4, 5] rfl)
              · refine lv_aload_n F.1 F.2.1 dX7_selectTold_131 rfl (lv_at hl 5 rfl) ?_
                refine z_iconst F dX7_selectTold_132 ?_
                have b_156 := mJ hv hm
                unfold mNum1 at b_156
                refine g_callv (g_runV (As := [.int (iI 1)]) (rest := []) (ci := 7) F hl.1 hH hS hz (c_X7_wrong l g gh T I_60 R J_62 AI_25 AJ AR mo 1 ⟨by decide, by decide⟩ hv hm hT (by omega)) (cwV 1 F.2.2.2.2.1 (good_up gT_X7_wrong) rfl rfl rfl hdX7_wrong ⟨Nat.le_of_ble_eq_true rfl, Nat.le_of_ble_eq_true rfl⟩) hm (by decide) rfl rfl rfl (Nat.le_of_ble_eq_true rfl) dX7_selectTold_133 ⟨Nat.zero_le _, Nat.zero_le _⟩) hS (fun I_157 R_158 J_159 AI_160 AJ_161 AR_162 H locs hp_163 hH hS => ?_)
                dsimp only at hp_163
                obtain ⟨rfl, rfl, rfl, rfl, rfl, hv, pfq, q_164⟩ := hp_163
                have pf := qF_t pf pfq
                have u_165_2 : (I_157 mo 2).toInt = (I mo 2).toInt := by rw [pf 2 (by decide) (by decide) (by decide) (by decide) (by decide)]
                have u_165_5 : (I_157 mo 5).toInt = (I mo 5).toInt := by rw [pf 5 (by decide) (by decide) (by decide) (by decide) (by decide)]
                have u_165_14 : (I_157 mo 14).toInt = (I mo 14).toInt := by rw [pf 14 (by decide) (by decide) (by decide) (by decide) (by decide)]
                have u_165_16 : (I_157 mo 16).toInt = (I mo 16).toInt := by rw [pf 16 (by decide) (by decide) (by decide) (by decide) (by decide)]
                have u_165_18 : (I_157 mo 18).toInt = (I mo 18).toInt := by rw [pf 18 (by decide) (by decide) (by decide) (by decide) (by decide)]
                exact cut_136_72 I_157 H locs ls hv pf (by omega) hH hS (lv_sub hl [0, 1, 2, 3, 4, 5] rfl)
            refine lv_aload_n F.1 F.2.1 dX7_selectTold_84 rfl (lv_at hl 4 rfl) ?_
            refine z_bipush F dX7_selectTold_85 (by decide) ?_
            have b_166 := mJ hv hm
            unfold mNum1 at b_166
            refine g_calli (g_runV (As := [.int (iI 61)]) (rest := []) (ci := 7) F hl.1 hH hS hz (c_X7_isSign l g gh T I_60 R J_62 AI_25 AJ AR mo 61 ⟨by decide, by decide⟩ hv hm hT) (cwV 1 F.2.2.2.2.1 (good_up gT_X7_isSign) rfl rfl rfl hdX7_isSign ⟨Nat.le_of_ble_eq_true rfl, Nat.le_of_ble_eq_true rfl⟩) hm (by decide) rfl rfl rfl (Nat.le_of_ble_eq_true rfl) dX7_selectTold_87 ⟨Nat.zero_le _, Nat.zero_le _⟩) hS (fun v_173 I_167 R_168 J_169 AI_170 AJ_171 AR_172 H locs zv_173 hp_174 hH hS => ?_)
            dsimp only at hp_174
            obtain ⟨rfl, rfl, rfl, rfl, rfl, rfl, q_175⟩ := hp_174
            refine z_if_eq (tgt := 97) F dX7_selectTold_90 (by decide) zv_173 (fun c_176 => ?_) (fun c_176 => ?_)
            · refine lv_aload_n F.1 F.2.1 dX7_selectTold_97 rfl (lv_at hl 4 rfl) ?_
              refine z_bipush F dX7_selectTold_98 (by decide) ?_
              refine g_calli (g_runV (As := [.int (iI 60)]) (rest := []) (ci := 7) F hl.1 hH hS hz (c_X7_isSign l g gh T I_60 R J_62 AI_25 AJ AR mo 60 ⟨by decide, by decide⟩ hv hm hT) (cwV 1 F.2.2.2.2.1 (good_up gT_X7_isSign) rfl rfl rfl hdX7_isSign ⟨Nat.le_of_ble_eq_true rfl, Nat.le_of_ble_eq_true rfl⟩) hm (by decide) rfl rfl rfl (Nat.le_of_ble_eq_true rfl) dX7_selectTold_100 ⟨Nat.zero_le _, Nat.zero_le _⟩) hS (fun v_183 I_177 R_178 J_179 AI_180 AJ_181 AR_182 H locs zv_183 hp_184 hH hS => ?_)
              dsimp only at hp_184
              obtain ⟨rfl, rfl, rfl, rfl, rfl, rfl, q_185⟩ := hp_184
              refine z_if_eq (tgt := 110) F dX7_selectTold_103 (by decide) zv_183 (fun c_186 => ?_) (fun c_186 => ?_)
              · refine lv_aload_n F.1 F.2.1 dX7_selectTold_110 rfl (lv_at hl 4 rfl) ?_
                refine z_bipush F dX7_selectTold_111 (by decide) ?_
                refine g_calli (g_runV (As := [.int (iI 62)]) (rest := []) (ci := 7) F hl.1 hH hS hz (c_X7_isSign l g gh T I_60 R J_62 AI_25 AJ AR mo 62 ⟨by decide, by decide⟩ hv hm hT) (cwV 1 F.2.2.2.2.1 (good_up gT_X7_isSign) rfl rfl rfl hdX7_isSign ⟨Nat.le_of_ble_eq_true rfl, Nat.le_of_ble_eq_true rfl⟩) hm (by decide) rfl rfl rfl (Nat.le_of_ble_eq_true rfl) dX7_selectTold_113 ⟨Nat.zero_le _, Nat.zero_le _⟩) hS (fun v_193 I_187 R_188 J_189 AI_190 AJ_191 AR_192 H locs zv_193 hp_194 hH hS => ?_)
                dsimp only at hp_194
                obtain ⟨rfl, rfl, rfl, rfl, rfl, rfl, q_195⟩ := hp_194
                refine z_if_eq (tgt := 123) F dX7_selectTold_116 (by decide) zv_193 (fun c_196 => ?_) (fun c_196 => ?_)
                · refine z_iconst F dX7_selectTold_123 ?_
                  exact cut_124_70 (-1) H locs ls ⟨by decide, by decide⟩ (by omega) hH hS (lv_sub hl [0, 1, 2, 3, 4] rfl)
                · refine z_iconst F dX7_selectTold_119 ?_
                  refine z_goto (tgt := 124) F dX7_selectTold_120 (by decide) ?_
                  exact cut_124_70 2 H locs ls ⟨by decide, by decide⟩ (by omega) hH hS (lv_sub hl [0, 1, 2, 3, 4] rfl)
              · refine z_iconst F dX7_selectTold_106 ?_
                refine z_goto (tgt := 124) F dX7_selectTold_107 (by decide) ?_
                exact cut_124_70 1 H locs ls ⟨by decide, by decide⟩ (by omega) hH hS (lv_sub hl [0, 1, 2, 3, 4] rfl)
            · refine z_iconst F dX7_selectTold_93 ?_
              refine z_goto (tgt := 124) F dX7_selectTold_94 (by decide) ?_
              exact cut_124_70 0 H locs ls ⟨by decide, by decide⟩ (by omega) hH hS (lv_sub hl [0, 1, 2, 3, 4] rfl)
          refine lv_iload_n F.1 F.2.1 dX7_selectTold_26 rfl (lv_at hl 1 rfl) ?_
          refine z_bipush F dX7_selectTold_27 (by decide) ?_
          refine z_icmp_ne (tgt := 73) F dX7_selectTold_29 (by decide) zn ⟨by decide, by decide⟩ (fun c_197 => ?_) (fun c_197 => ?_)
          · exact cut_73_48 I_23 H locs ls hv pf (by omega) hH hS (lv_sub hl [0, 1, 2, 3] rfl)
          · refine lv_aload_n F.1 F.2.1 dX7_selectTold_32 rfl (lv_at hl 3 rfl) ?_
            have cut_70_197 : ∀ (kd : Int) (H : Heap) (locs : List Loc) (ls : Array Slot), zr kd → (1 ≤ kd ∧ kd ≤ 8) → gH g I_23 R J_24 AI_25 AJ AR H → va_S (gA g) s.heap H locs → lv_has ls 8 [(3, .int (iI mr)), (2, .int (iI n)), (1, .int (iI v_8)), (0, .ref mo)] → W p l e rmX7_selectTold s m ([.ref mo] : List Value).toArray below meth c H locs 0 0 (MQ below (gQv g (fun w : gS => R = w.2.1 ∧ AJ = w.2.2.2.2.1 ∧ AR = w.2.2.2.2.2 ∧ (mInv g gh R (w.1) (w.2.2.2.1)) ∧ ((w.2.2.2.1) (gh 50 0) = T) ∧ (qF mo I (w.1)) ∧ (((w.1) mo 20).toInt ≤ 936 ∧ (I mo 24).toInt ≤ ((w.1) mo 24).toInt) ∧ (((w.1) mo 24).toInt = 0 → ((w.1) mo 21).toInt = 4 → ((w.1) mo 23).toInt = 59 → rowOK ((w.2.2.2.1) (gh 53 0)) M) ∧ (((w.1) mo 24).toInt = 0 → tI ((w.2.2.2.1) (gh 53 0)) (40 * M) = 1))) ([.ref mo] : List Value).toArray s 0 0 (gA g)) (F0 m 70 ls [.int (iI kd), .ref mo]) := by
              intro kd H locs ls zkd hkd hH hS hl
              refine g_callv (g_runV (As := [.int (iI kd)]) (rest := []) (ci := 7) F hl.1 hH hS hz (c_X7_wrong l g gh T I_23 R J_24 AI_25 AJ AR mo kd zkd hv hm hT (by omega)) (cwV 1 F.2.2.2.2.1 (good_up gT_X7_wrong) rfl rfl rfl hdX7_wrong ⟨Nat.le_of_ble_eq_true rfl, Nat.le_of_ble_eq_true rfl⟩) hm (by decide) rfl rfl rfl (Nat.le_of_ble_eq_true rfl) dX7_selectTold_70 ⟨Nat.zero_le _, Nat.zero_le _⟩) hS (fun I_199 R_200 J_201 AI_202 AJ_203 AR_204 H locs hp_205 hH hS => ?_)
              dsimp only at hp_205
              obtain ⟨rfl, rfl, rfl, rfl, rfl, hv, pfq, q_206⟩ := hp_205
              have pf := qF_t pf pfq
              have u_207_2 : (I_199 mo 2).toInt = (I mo 2).toInt := by rw [pf 2 (by decide) (by decide) (by decide) (by decide) (by decide)]
              have u_207_5 : (I_199 mo 5).toInt = (I mo 5).toInt := by rw [pf 5 (by decide) (by decide) (by decide) (by decide) (by decide)]
              have u_207_14 : (I_199 mo 14).toInt = (I mo 14).toInt := by rw [pf 14 (by decide) (by decide) (by decide) (by decide) (by decide)]
              have u_207_16 : (I_199 mo 16).toInt = (I mo 16).toInt := by rw [pf 16 (by decide) (by decide) (by decide) (by decide) (by decide)]
              have u_207_18 : (I_199 mo 18).toInt = (I mo 18).toInt := by rw [pf 18 (by decide) (by decide) (by decide) (by decide) (by decide)]
              exact cut_73_48 I_199 H locs ls hv pf (by omega) hH hS (lv_sub hl [0, 1, 2, 3] rfl)
            refine lv_aload_n F.1 F.2.1 dX7_selectTold_33 rfl (lv_at hl 3 rfl) ?_
            refine g_getI (ci := 7) (k := 21) F hH rfl (by decide) iX7 hm (by decide) rfl k94 dX7_selectTold_34 ?_
            refine z_iconst F dX7_selectTold_37 ?_
            refine z_icmp_ne (tgt := 57) F dX7_selectTold_38 (by decide) (zr_t _) ⟨by decide, by decide⟩ (fun c_208 => ?_) (fun c_208 => ?_)
            · refine lv_aload_n F.1 F.2.1 dX7_selectTold_57 rfl (lv_at hl 3 rfl) ?_
              refine g_getI (ci := 7) (k := 21) F hH rfl (by decide) iX7 hm (by decide) rfl k94 dX7_selectTold_58 ?_
              refine z_iconst F dX7_selectTold_61 ?_
              refine z_icmp_ne (tgt := 69) F dX7_selectTold_62 (by decide) (zr_t _) ⟨by decide, by decide⟩ (fun c_209 => ?_) (fun c_209 => ?_)
              · refine z_iconst F dX7_selectTold_69 ?_
                exact cut_70_197 1 H locs ls ⟨by decide, by decide⟩ (by omega) hH hS (lv_sub hl [0, 1, 2, 3] rfl)
              · exact absurd trivial (by omega)
            · refine lv_aload_n F.1 F.2.1 dX7_selectTold_41 rfl (lv_at hl 3 rfl) ?_
              refine g_getI (ci := 7) (k := 23) F hH rfl (by decide) iX7 hm (by decide) rfl k97 dX7_selectTold_42 ?_
              refine lv_aload_n F.1 F.2.1 dX7_selectTold_45 rfl (lv_at hl 3 rfl) ?_
              refine lv_iload_n F.1 F.2.1 dX7_selectTold_46 rfl (lv_at hl 2 rfl) ?_
              refine g_calli (g_runV (As := [.int (iI v_8)]) (rest := [.int (iI ((I_23 mo 23).toInt)), .ref mo]) (ci := 7) F hl.1 hH hS hz (c_X7_columns l g gh T I_23 R J_24 AI_25 AJ AR mo v_8 zv_8 hv hm hT (by omega)) (cwV 1 F.2.2.2.2.1 (good_up gT_X7_columns) rfl rfl rfl hdX7_columns ⟨Nat.le_of_ble_eq_true rfl, Nat.le_of_ble_eq_true rfl⟩) hm (by decide) rfl rfl rfl (Nat.le_of_ble_eq_true rfl) dX7_selectTold_47 ⟨Nat.zero_le _, Nat.zero_le _⟩) hS (fun v_216 I_210 R_211 J_212 AI_213 AJ_214 AR_215 H locs zv_216 hp_217 hH hS => ?_)
              dsimp only at hp_217
              obtain ⟨rfl, rfl, rfl, rfl, rfl, rfl, q_218⟩ := hp_217
              refine z_icmp_lt (tgt := 57) F dX7_selectTold_50 (by decide) (zr_t _) zv_216 (fun c_219 => ?_) (fun c_219 => ?_)
              · refine lv_aload_n F.1 F.2.1 dX7_selectTold_57 rfl (lv_at hl 3 rfl) ?_
                refine g_getI (ci := 7) (k := 21) F hH rfl (by decide) iX7 hm (by decide) rfl k94 dX7_selectTold_58 ?_
                refine z_iconst F dX7_selectTold_61 ?_
                refine z_icmp_ne (tgt := 69) F dX7_selectTold_62 (by decide) (zr_t _) ⟨by decide, by decide⟩ (fun c_220 => ?_) (fun c_220 => ?_)
                · exact absurd trivial (by omega)
                · refine z_iconst F dX7_selectTold_65 ?_
                  refine z_goto (tgt := 70) F dX7_selectTold_66 (by decide) ?_
                  exact cut_70_197 4 H locs ls ⟨by decide, by decide⟩ (by omega) hH hS (lv_sub hl [0, 1, 2, 3] rfl)
              · refine z_iconst F dX7_selectTold_53 ?_
                refine z_goto (tgt := 70) F dX7_selectTold_54 (by decide) ?_
                exact cut_70_197 2 H locs ls ⟨by decide, by decide⟩ (by omega) hH hS (lv_sub hl [0, 1, 2, 3] rfl)
  exact cut_15_25 (((10 - 0) + 1 : Int).toNat) 0 1 I_14 J_16 AI H locs ls ⟨by decide, by decide⟩ ⟨by decide, by decide⟩ hv hT pf (by omega) (by first | exact (fun _ => ⟨by omega, fun k a b => absurd b (by omega)⟩) | exact (fun hf => ⟨by omega, selP_step (by omega) (hp (by omega)).2 (hsp (by omega)) (by omega) (by omega)⟩)) (by omega) hH hS (lv_sub hl [0, 1, 2, 3] rfl)

def rmX7_projectTold : Room := { frames := 8, cells := 0, slots := 0, locals := 170 }
theorem hdX7_projectTold : yX7_projectTold.cls = RX7 ∧ yX7_projectTold.cls ≠ "java/lang/invoke/MethodHandle" ∧ yX7_projectTold.cls ≠ "java/lang/invoke/VarHandle" ∧ (parseMethodDescriptor yX7_projectTold.desc).map (fun d => d.parameters.length) = some 0 := by decide +kernel
set_option maxHeartbeats 4000000 in
set_option maxRecDepth 100000 in
/-- a projection told -/
theorem c_X7_projectTold (l : Launch) (g : gG) (gh : gGh) (T : Nat → Int32) (M : Int) (I : gI) (R : gR) (J : gJ) (AI : gI) (AJ : gJ) (AR : gR) (mo : Nat) (hv : mInv g gh R I AI) (hm : gO g mo 7) (hT : AI (gh 50 0) = T) (hE : (I mo 20).toInt ≤ 936) (hM : (I mo 24).toInt = 0 → (I mo 5).toInt ≤ 15) (hMM : (I mo 5).toInt = M) : gMet l g yX7_projectTold tsX7_projectTold rmX7_projectTold [.ref mo] (I, R, J, AI, AJ, AR) (gQv g (fun w : gS => R = w.2.1 ∧ AJ = w.2.2.2.2.1 ∧ AR = w.2.2.2.2.2 ∧ (mInv g gh R (w.1) (w.2.2.2.1)) ∧ ((w.2.2.2.1) (gh 50 0) = T) ∧ (qF mo I (w.1)) ∧ (((w.1) mo 20).toInt ≤ 936 ∧ (I mo 24).toInt ≤ ((w.1) mo 24).toInt) ∧ (((w.1) mo 24).toInt = 0 → ((w.1) mo 21).toInt = 4 → ((w.1) mo 23).toInt = 59 → rowOK ((w.2.2.2.1) (gh 53 0)) M) ∧ (((w.1) mo 24).toInt = 0 → tI ((w.2.2.2.1) (gh 53 0)) (40 * M) = 2))) := by
  refine gStart (cc := cX7_projectTold) (maxL := 3) (ret := none) (by decide) rfl (Nat.le_of_ble_eq_true rfl) ?_
  intro p e s m below meth c ls F hr hlk hH hz hS hl
  have hl : lv_has ls 3 [(0, .ref mo)] := hl
  have hS : va_S (gA g) s.heap s.heap [] := hS
  obtain ⟨H, hHe⟩ : ∃ H : Heap, H = s.heap := ⟨_, rfl⟩
  obtain ⟨locs, hlo⟩ : ∃ k : List Loc, k = [] := ⟨_, rfl⟩
  have hH : gH g I R J AI AJ AR H := by rw [hHe]; exact hH
  have hS : va_S (gA g) s.heap H locs := by rw [hHe, hlo]; exact hS
  suffices hw : W p l e rmX7_projectTold s m ([.ref mo] : List Value).toArray below meth c H locs 0 0 (MQ below (gQv g (fun w : gS => R = w.2.1 ∧ AJ = w.2.2.2.2.1 ∧ AR = w.2.2.2.2.2 ∧ (mInv g gh R (w.1) (w.2.2.2.1)) ∧ ((w.2.2.2.1) (gh 50 0) = T) ∧ (qF mo I (w.1)) ∧ (((w.1) mo 20).toInt ≤ 936 ∧ (I mo 24).toInt ≤ ((w.1) mo 24).toInt) ∧ (((w.1) mo 24).toInt = 0 → ((w.1) mo 21).toInt = 4 → ((w.1) mo 23).toInt = 59 → rowOK ((w.2.2.2.1) (gh 53 0)) M) ∧ (((w.1) mo 24).toInt = 0 → tI ((w.2.2.2.1) (gh 53 0)) (40 * M) = 2))) ([.ref mo] : List Value).toArray s 0 0 (gA g)) (F0 m 0 ls []) by
    rw [hHe, hlo] at hw; exact hw
  clear hHe hlo
  have pf : qF mo I I := qF_r
  have hb0 := mJ hv hm
  unfold mNum1 at hb0
  refine lv_aload_n F.1 F.2.1 dX7_projectTold_0 rfl (lv_at hl 0 rfl) ?_
  have b_1 := mJ hv hm
  unfold mNum1 at b_1
  refine g_calli (g_runV (As := []) (rest := []) (ci := 7) F hl.1 hH hS hz (c_X7_relation l g gh T I R J AI AJ AR mo hv hm hT (by omega)) (cwV 0 F.2.2.2.2.1 (good_up gT_X7_relation) rfl rfl rfl hdX7_relation ⟨Nat.le_of_ble_eq_true rfl, Nat.le_of_ble_eq_true rfl⟩) hm (by decide) rfl rfl rfl (Nat.le_of_ble_eq_true rfl) dX7_projectTold_1 ⟨Nat.zero_le _, Nat.zero_le _⟩) hS (fun v_8 I_2 R_3 J_4 AI_5 AJ_6 AR_7 H locs zv_8 hp_9 hH hS => ?_)
  dsimp only at hp_9
  obtain ⟨rfl, rfl, rfl, rfl, hv, pfq, q_10, q_11⟩ := hp_9
  have pf := qF_t pf pfq
  have u_12_2 : (I_2 mo 2).toInt = (I mo 2).toInt := by rw [pf 2 (by decide) (by decide) (by decide) (by decide) (by decide)]
  have u_12_5 : (I_2 mo 5).toInt = (I mo 5).toInt := by rw [pf 5 (by decide) (by decide) (by decide) (by decide) (by decide)]
  have u_12_14 : (I_2 mo 14).toInt = (I mo 14).toInt := by rw [pf 14 (by decide) (by decide) (by decide) (by decide) (by decide)]
  have u_12_16 : (I_2 mo 16).toInt = (I mo 16).toInt := by rw [pf 16 (by decide) (by decide) (by decide) (by decide) (by decide)]
  have u_12_18 : (I_2 mo 18).toInt = (I mo 18).toInt := by rw [pf 18 (by decide) (by decide) (by decide) (by decide) (by decide)]
  obtain ⟨f0, ef0⟩ : ∃ q, q = (I_2 mo 24).toInt := ⟨_, rfl⟩
  have hr1 : f0 = 0 → v_8 < M := by omega
  refine lv_istore_n (lv' := [(1, .int (iI v_8)), (0, .ref mo)]) F.1 F.2.1 dX7_projectTold_4 rfl hl (by decide) rfl (fun ls hl => ?_)
  refine lv_aload_n F.1 F.2.1 dX7_projectTold_5 rfl (lv_at hl 1 rfl) ?_
  refine lv_aload_n F.1 F.2.1 dX7_projectTold_6 rfl (lv_at hl 1 rfl) ?_
  refine lv_iload_n F.1 F.2.1 dX7_projectTold_7 rfl (lv_at hl 0 rfl) ?_
  have b_13 := mJ hv hm
  unfold mNum1 at b_13
  refine g_calli (g_runV (As := [.int (iI v_8)]) (rest := [.ref mo]) (ci := 7) F hl.1 hH hS hz (c_X7_columns l g gh T I_2 R J_4 AI AJ AR mo v_8 zv_8 hv hm hT (by omega)) (cwV 1 F.2.2.2.2.1 (good_up gT_X7_columns) rfl rfl rfl hdX7_columns ⟨Nat.le_of_ble_eq_true rfl, Nat.le_of_ble_eq_true rfl⟩) hm (by decide) rfl rfl rfl (Nat.le_of_ble_eq_true rfl) dX7_projectTold_8 ⟨Nat.zero_le _, Nat.zero_le _⟩) hS (fun v_20 I_14 R_15 J_16 AI_17 AJ_18 AR_19 H locs zv_20 hp_21 hH hS => ?_)
  dsimp only at hp_21
  obtain ⟨rfl, rfl, rfl, rfl, rfl, rfl, q_22⟩ := hp_21
  refine z_iconst F dX7_projectTold_11 ?_
  refine g_calli (g_runV (As := [.int (iI v_20), .int (iI 0)]) (rest := []) (ci := 7) F hl.1 hH hS hz (c_X7_termsTold l g gh T M I_2 R J_4 AI AJ AR mo v_20 0 zv_20 ⟨by decide, by decide⟩ hv hm hT (by omega) (by omega) (by omega) (by omega)) (cwV 2 F.2.2.2.2.1 (good_up gT_X7_termsTold) rfl rfl rfl hdX7_termsTold ⟨Nat.le_of_ble_eq_true rfl, Nat.le_of_ble_eq_true rfl⟩) hm (by decide) rfl rfl rfl (Nat.le_of_ble_eq_true rfl) dX7_projectTold_12 ⟨Nat.zero_le _, Nat.zero_le _⟩) hS (fun v_29 I_23 R_24 J_25 AI_26 AJ_27 AR_28 H locs zv_29 hp_30 hH hS => ?_)
  dsimp only at hp_30
  obtain ⟨rfl, rfl, rfl, hv, hT, pfq, q_31, q_32, htt⟩ := hp_30
  have pf := qF_t pf pfq
  have u_33_2 : (I_23 mo 2).toInt = (I mo 2).toInt := by rw [pf 2 (by decide) (by decide) (by decide) (by decide) (by decide)]
  have u_33_5 : (I_23 mo 5).toInt = (I mo 5).toInt := by rw [pf 5 (by decide) (by decide) (by decide) (by decide) (by decide)]
  have u_33_14 : (I_23 mo 14).toInt = (I mo 14).toInt := by rw [pf 14 (by decide) (by decide) (by decide) (by decide) (by decide)]
  have u_33_16 : (I_23 mo 16).toInt = (I mo 16).toInt := by rw [pf 16 (by decide) (by decide) (by decide) (by decide) (by decide)]
  have u_33_18 : (I_23 mo 18).toInt = (I mo 18).toInt := by rw [pf 18 (by decide) (by decide) (by decide) (by decide) (by decide)]
  refine lv_istore_n (lv' := [(2, .int (iI v_29)), (1, .int (iI v_8)), (0, .ref mo)]) F.1 F.2.1 dX7_projectTold_15 rfl hl (by decide) rfl (fun ls hl => ?_)
  refine lv_aload_n F.1 F.2.1 dX7_projectTold_16 rfl (lv_at hl 2 rfl) ?_
  refine z_iconst F dX7_projectTold_17 ?_
  refine lv_iload_n F.1 F.2.1 dX7_projectTold_18 rfl (lv_at hl 0 rfl) ?_
  refine lv_iload_n F.1 F.2.1 dX7_projectTold_19 rfl (lv_at hl 1 rfl) ?_
  refine z_iconst F dX7_projectTold_20 ?_
  refine lv_iload_n F.1 F.2.1 dX7_projectTold_21 rfl (lv_at hl 0 rfl) ?_
  have b_34 := mJ hv hm
  unfold mNum1 at b_34
  refine g_callv (g_runV (As := [.int (iI 2), .int (iI v_29), .int (iI v_8), .int (iI ((-1))), .int (iI v_29)]) (rest := []) (ci := 7) F hl.1 hH hS hz (c_X7_header l g gh T M I_23 R J_25 AI_26 AJ AR mo 2 v_29 v_8 (-1) v_29 ⟨by decide, by decide⟩ zv_29 zv_8 ⟨by decide, by decide⟩ zv_29 hv hm hT (by omega) (by omega)) (cwV 5 F.2.2.2.2.1 (good_up gT_X7_header) rfl rfl rfl hdX7_header ⟨Nat.le_of_ble_eq_true rfl, Nat.le_of_ble_eq_true rfl⟩) hm (by decide) rfl rfl rfl (Nat.le_of_ble_eq_true rfl) dX7_projectTold_22 ⟨Nat.zero_le _, Nat.zero_le _⟩) hS (fun I_35 R_36 J_37 AI_38 AJ_39 AR_40 H locs hp_41 hH hS => ?_)
  dsimp only at hp_41
  obtain ⟨rfl, rfl, rfl, rfl, rfl, hv, hT, hhd⟩ := hp_41
  exact g_vret F hr hlk hH hS hz ⟨rfl, rfl, rfl, hv, hT, pf, by first | omega | rfl | (dsimp only; omega), by (try dsimp only); intro hf ht hn; have q9 := htt (by omega); exact row_mk (by omega) (hhd (by omega)) (by omega) (by omega) (by omega) (by omega) (fun h => absurd h (by omega)) (fun h => absurd h (by omega)) (fun _ => ⟨by omega, q9.2.2.1⟩) (fun h => absurd h (by omega)) (fun h => absurd h (by omega)) (fun h => absurd h (by omega)) (fun h => absurd h (by omega)), by (try dsimp only); intro hf; exact (hhd (by omega)).2.1⟩ dX7_projectTold_25
