def rmX7_joinToldf : Room := { frames := 8, cells := 0, slots := 0, locals := 170 }
set_option maxHeartbeats 4000000 in
set_option maxRecDepth 100000 in
/-- a join told -/
theorem c_X7_joinToldf (l : Launch) (g : gG) (gh : gGh) (T : Nat → Int32) (M : Int) (b : tTx) (nn nr : Nat) (nt : Nat → Nat) (cc : Nat → Int) (f : Int) (h : Nat) (I : gI) (R : gR) (J : gJ) (AI : gI) (AJ : gJ) (AR : gR) (mo : Nat) (hv : mInv g gh R I AI) (hm : gO g mo 7) (hT : AI (gh 50 0) = T) (hE : (I mo 20).toInt ≤ 936) (hM : (I mo 24).toInt = 0 → (I mo 5).toInt ≤ 15) (hMM : (I mo 5).toInt = M) (h65 : gh 9 (gh 65 0) ≠ 5) (hbM : ∀ k : Nat, k < nn → ((gM g).2 (gh 65 0) k).toInt = b k % 256) (hr7 : ∀ k : Nat, -128 ≤ b k ∧ b k ≤ 127) (hsz : (I mo 18).toInt = (nn : Int)) (hn9 : nn ≤ 900) (hm5 : (I mo 5).toInt = (nr : Int)) (hQ : mQ gh I J AI AJ mo b nn nr nt cc f h) : gMet l g yX7_joinTold tsX7_joinTold rmX7_joinToldf [.ref mo] (I, R, J, AI, AJ, AR) (gQv g (fun w : gS => R = w.2.1 ∧ AJ = w.2.2.2.2.1 ∧ AR = w.2.2.2.2.2 ∧ (mInv g gh R (w.1) (w.2.2.2.1)) ∧ ((w.2.2.2.1) (gh 50 0) = T) ∧ (qF mo I (w.1)) ∧ (((w.1) mo 20).toInt ≤ 936 ∧ (I mo 24).toInt ≤ ((w.1) mo 24).toInt) ∧ (((w.1) mo 24).toInt = 0 → ((w.1) mo 21).toInt = 4 → ((w.1) mo 23).toInt = 59 → rowOK ((w.2.2.2.1) (gh 53 0)) M) ∧ (((w.1) mo 24).toInt = 0 → tI ((w.2.2.2.1) (gh 53 0)) (40 * M) = 3) ∧ (mQ gh (w.1) (w.2.2.1) (w.2.2.2.1) AJ mo b nn nr nt cc (thn (f, h, 0) (fun t _ => sJoiM b nn nr nt cc t)).1 (thn (f, h, 0) (fun t _ => sJoiM b nn nr nt cc t)).2.1) ∧ (pIc (thn (f, h, 0) (fun t _ => sJoiM b nn nr nt cc t)).1 (pK b nn (thn (f, h, 0) (fun t _ => sJoiM b nn nr nt cc t)).2.1) (tI ((w.2.2.2.1) (gh 53 0)) (40 * (nr : Int) + 1)) (thn (f, h, 0) (fun t _ => sJoiM b nn nr nt cc t)).2.2))) := by
  refine gStart (cc := cX7_joinTold) (maxL := 8) (ret := none) (by decide) rfl (Nat.le_of_ble_eq_true rfl) ?_
  intro p e s m below meth c ls F hr hlk hH hz hS hl
  have hl : lv_has ls 8 [(0, .ref mo)] := hl
  have hS : va_S (gA g) s.heap s.heap [] := hS
  obtain ⟨H, hHe⟩ : ∃ H : Heap, H = s.heap := ⟨_, rfl⟩
  obtain ⟨locs, hlo⟩ : ∃ k : List Loc, k = [] := ⟨_, rfl⟩
  have hH : gH g I R J AI AJ AR H := by rw [hHe]; exact hH
  have hS : va_S (gA g) s.heap H locs := by rw [hHe, hlo]; exact hS
  suffices hw : W p l e rmX7_joinToldf s m ([.ref mo] : List Value).toArray below meth c H locs 0 0 (MQ below (gQv g (fun w : gS => R = w.2.1 ∧ AJ = w.2.2.2.2.1 ∧ AR = w.2.2.2.2.2 ∧ (mInv g gh R (w.1) (w.2.2.2.1)) ∧ ((w.2.2.2.1) (gh 50 0) = T) ∧ (qF mo I (w.1)) ∧ (((w.1) mo 20).toInt ≤ 936 ∧ (I mo 24).toInt ≤ ((w.1) mo 24).toInt) ∧ (((w.1) mo 24).toInt = 0 → ((w.1) mo 21).toInt = 4 → ((w.1) mo 23).toInt = 59 → rowOK ((w.2.2.2.1) (gh 53 0)) M) ∧ (((w.1) mo 24).toInt = 0 → tI ((w.2.2.2.1) (gh 53 0)) (40 * M) = 3) ∧ (mQ gh (w.1) (w.2.2.1) (w.2.2.2.1) AJ mo b nn nr nt cc (thn (f, h, 0) (fun t _ => sJoiM b nn nr nt cc t)).1 (thn (f, h, 0) (fun t _ => sJoiM b nn nr nt cc t)).2.1) ∧ (pIc (thn (f, h, 0) (fun t _ => sJoiM b nn nr nt cc t)).1 (pK b nn (thn (f, h, 0) (fun t _ => sJoiM b nn nr nt cc t)).2.1) (tI ((w.2.2.2.1) (gh 53 0)) (40 * (nr : Int) + 1)) (thn (f, h, 0) (fun t _ => sJoiM b nn nr nt cc t)).2.2))) ([.ref mo] : List Value).toArray s 0 0 (gA g)) (F0 m 0 ls []) by
    rw [hHe, hlo] at hw; exact hw
  clear hHe hlo
  have pf : qF mo I I := qF_r
  have hb0 := mJ hv hm
  unfold mNum1 at hb0
  have iX7 : ∀ w ∈ u_ws RX7 TX7 32, w ∈ tsX7_joinTold := fun w h => List.mem_cons_of_mem _ (inTB7 w h)
  have k81 : Cond.fieldLink RX7 81 (TX7 24).1 (TX7 24).2.1 (TX7 24).2.2.1 ∈ tsX7_joinTold := List.mem_cons_of_mem _ fl_81
  have k94 : Cond.fieldLink RX7 94 (TX7 21).1 (TX7 21).2.1 (TX7 21).2.2.1 ∈ tsX7_joinTold := List.mem_cons_of_mem _ fl_94
  have k97 : Cond.fieldLink RX7 97 (TX7 23).1 (TX7 23).2.1 (TX7 23).2.2.1 ∈ tsX7_joinTold := List.mem_cons_of_mem _ fl_97
  have hf0 := mQ_p hQ
  by_cases q0 : f = 0
  · have hQ := mQ_ok hQ q0
    have hz0 := mQ_0 hQ rfl
    have cut_160_3 : ∀ (l1 l2 l3 l4 : Int) (I_1 : gI) (J_2 : gJ) (AI_3 : gI) (H : Heap) (locs : List Loc) (ls : Array Slot), zr l1 → zr l2 → zr l3 → zr l4 → (mInv g gh R I_1 AI_3) → (AI_3 (gh 50 0) = T) → (qF mo I I_1) → (∃ (f9 : Int) (h9 : Nat), f9 ≠ 0 ∧ mQ gh I_1 J_2 AI_3 AJ mo b nn nr nt cc f9 h9 ∧ thn (f, h, 0) (fun t _ => sJoiM b nn nr nt cc t) = (f9, h9, 0)) → ((I_1 mo 20).toInt ≤ 936 ∧ (I mo 24).toInt ≤ (I_1 mo 24).toInt) → (0 ≤ l1 ∧ l1 ≤ 15 ∧ 0 ≤ l2 ∧ l2 ≤ 15) → gH g I_1 R J_2 AI_3 AJ AR H → va_S (gA g) s.heap H locs → lv_has ls 8 [(0, .ref mo), (1, .int (iI l1)), (2, .int (iI l2)), (3, .int (iI l3)), (4, .int (iI l4))] → W p l e rmX7_joinToldf s m ([.ref mo] : List Value).toArray below meth c H locs 0 0 (MQ below (gQv g (fun w : gS => R = w.2.1 ∧ AJ = w.2.2.2.2.1 ∧ AR = w.2.2.2.2.2 ∧ (mInv g gh R (w.1) (w.2.2.2.1)) ∧ ((w.2.2.2.1) (gh 50 0) = T) ∧ (qF mo I (w.1)) ∧ (((w.1) mo 20).toInt ≤ 936 ∧ (I mo 24).toInt ≤ ((w.1) mo 24).toInt) ∧ (((w.1) mo 24).toInt = 0 → ((w.1) mo 21).toInt = 4 → ((w.1) mo 23).toInt = 59 → rowOK ((w.2.2.2.1) (gh 53 0)) M) ∧ (((w.1) mo 24).toInt = 0 → tI ((w.2.2.2.1) (gh 53 0)) (40 * M) = 3) ∧ (mQ gh (w.1) (w.2.2.1) (w.2.2.2.1) AJ mo b nn nr nt cc (thn (f, h, 0) (fun t _ => sJoiM b nn nr nt cc t)).1 (thn (f, h, 0) (fun t _ => sJoiM b nn nr nt cc t)).2.1) ∧ (pIc (thn (f, h, 0) (fun t _ => sJoiM b nn nr nt cc t)).1 (pK b nn (thn (f, h, 0) (fun t _ => sJoiM b nn nr nt cc t)).2.1) (tI ((w.2.2.2.1) (gh 53 0)) (40 * (nr : Int) + 1)) (thn (f, h, 0) (fun t _ => sJoiM b nn nr nt cc t)).2.2))) ([.ref mo] : List Value).toArray s 0 0 (gA g)) (F0 m 160 ls []) := by
      intro l1 l2 l3 l4 I_1 J_2 AI_3 H locs ls zl1 zl2 zl3 zl4 hv hT pf hBad hx9 hl12 hH hS hl
      have uc_2 : (I_1 mo 2).toInt = (I mo 2).toInt := by rw [pf 2 (by decide) (by decide) (by decide) (by decide) (by decide)]
      have uc_5 : (I_1 mo 5).toInt = (I mo 5).toInt := by rw [pf 5 (by decide) (by decide) (by decide) (by decide) (by decide)]
      have uc_14 : (I_1 mo 14).toInt = (I mo 14).toInt := by rw [pf 14 (by decide) (by decide) (by decide) (by decide) (by decide)]
      have uc_16 : (I_1 mo 16).toInt = (I mo 16).toInt := by rw [pf 16 (by decide) (by decide) (by decide) (by decide) (by decide)]
      have uc_18 : (I_1 mo 18).toInt = (I mo 18).toInt := by rw [pf 18 (by decide) (by decide) (by decide) (by decide) (by decide)]
      obtain ⟨fb9, hb9, q9, hQ, hfin⟩ := hBad
      have q9f := mQ_f hQ q9
      have q9p := mQ_p hQ
      refine lv_aload_n F.1 F.2.1 dX7_joinTold_160 rfl (lv_at hl 0 rfl) ?_
      refine lv_iload_n F.1 F.2.1 dX7_joinTold_161 rfl (lv_at hl 1 rfl) ?_
      have b_6 := mJ hv hm
      unfold mNum1 at b_6
      refine g_calli (g_runV (As := [.int (iI l1)]) (rest := []) (ci := 7) F hl.1 hH hS hz (c_X7_columns l g gh T I_1 R J_2 AI_3 AJ AR mo l1 zl1 hv hm hT (by omega)) (cwV 1 F.2.2.2.2.1 (good_up gT_X7_columns) rfl rfl rfl hdX7_columns ⟨Nat.le_of_ble_eq_true rfl, Nat.le_of_ble_eq_true rfl⟩) hm (by decide) rfl rfl rfl (Nat.le_of_ble_eq_true rfl) dX7_joinTold_162 ⟨Nat.zero_le _, Nat.zero_le _⟩) hS (fun v_13 I_7 R_8 J_9 AI_10 AJ_11 AR_12 H locs zv_13 hp_14 hH hS => ?_)
      dsimp only at hp_14
      obtain ⟨rfl, rfl, rfl, rfl, rfl, rfl, q_5⟩ := hp_14
      have hca : Hid ((I_1 mo 24).toInt = 0 → 1 ≤ tI (AI_3 (gh 53 0)) (40 * l1 + 1) ∧ tI (AI_3 (gh 53 0)) (40 * l1 + 1) ≤ 4) := fun h => mCol hv hm (z := l1) (by omega) (by omega)
      have hcb : Hid ((I_1 mo 24).toInt = 0 → 1 ≤ tI (AI_3 (gh 53 0)) (40 * l2 + 1) ∧ tI (AI_3 (gh 53 0)) (40 * l2 + 1) ≤ 4) := fun h => mCol hv hm (z := l2) (by omega) (by omega)
      refine lv_istore (lv' := [(6, .int (iI v_13)), (0, .ref mo), (1, .int (iI l1)), (2, .int (iI l2)), (3, .int (iI l3)), (4, .int (iI l4))]) F.1 F.2.1 dX7_joinTold_165 hl (by decide) rfl (fun ls hl => ?_)
      refine z_iconst F dX7_joinTold_167 ?_
      refine lv_istore (lv' := [(7, .int (iI 0)), (6, .int (iI v_13)), (0, .ref mo), (1, .int (iI l1)), (2, .int (iI l2)), (3, .int (iI l3)), (4, .int (iI l4))]) F.1 F.2.1 dX7_joinTold_168 hl (by decide) rfl (fun ls hl => ?_)
      have cut_170_14 : ∀ (NN : Nat) (cl d : Int) (H : Heap) (locs : List Loc) (ls : Array Slot), zr cl → zr d → (0 ≤ d ∧ ((I_1 mo 24).toInt = 0 → d ≤ 4 ∧ d ≤ tI (AI_3 (gh 53 0)) (40 * l2 + 1) ∧ cl = tI (AI_3 (gh 53 0)) (40 * l1 + 1) + mCnt l4 d.toNat)) → ((tI (AI_3 (gh 53 0)) (40 * l2 + 1) - d).toNat : Int) < ((NN : Nat) : Int) → gH g I_1 R J_2 AI_3 AJ AR H → va_S (gA g) s.heap H locs → lv_has ls 8 [(7, .int (iI d)), (6, .int (iI cl)), (0, .ref mo), (1, .int (iI l1)), (2, .int (iI l2)), (3, .int (iI l3)), (4, .int (iI l4))] → W p l e rmX7_joinToldf s m ([.ref mo] : List Value).toArray below meth c H locs 0 0 (MQ below (gQv g (fun w : gS => R = w.2.1 ∧ AJ = w.2.2.2.2.1 ∧ AR = w.2.2.2.2.2 ∧ (mInv g gh R (w.1) (w.2.2.2.1)) ∧ ((w.2.2.2.1) (gh 50 0) = T) ∧ (qF mo I (w.1)) ∧ (((w.1) mo 20).toInt ≤ 936 ∧ (I mo 24).toInt ≤ ((w.1) mo 24).toInt) ∧ (((w.1) mo 24).toInt = 0 → ((w.1) mo 21).toInt = 4 → ((w.1) mo 23).toInt = 59 → rowOK ((w.2.2.2.1) (gh 53 0)) M) ∧ (((w.1) mo 24).toInt = 0 → tI ((w.2.2.2.1) (gh 53 0)) (40 * M) = 3) ∧ (mQ gh (w.1) (w.2.2.1) (w.2.2.2.1) AJ mo b nn nr nt cc (thn (f, h, 0) (fun t _ => sJoiM b nn nr nt cc t)).1 (thn (f, h, 0) (fun t _ => sJoiM b nn nr nt cc t)).2.1) ∧ (pIc (thn (f, h, 0) (fun t _ => sJoiM b nn nr nt cc t)).1 (pK b nn (thn (f, h, 0) (fun t _ => sJoiM b nn nr nt cc t)).2.1) (tI ((w.2.2.2.1) (gh 53 0)) (40 * (nr : Int) + 1)) (thn (f, h, 0) (fun t _ => sJoiM b nn nr nt cc t)).2.2))) ([.ref mo] : List Value).toArray s 0 0 (gA g)) (F0 m 170 ls []) := by
        intro NN170
        induction NN170 with
        | zero =>
          intro cl d H locs ls zcl zd hcl hm170 hH hS hl
          exact absurd hm170 (by omega)
        | succ NN170 ih170 =>
          intro cl d H locs ls zcl zd hcl hm170 hH hS hl
          have hmd := mCnt_0 (x := l4) (a := d.toNat)
          have hmu := mCnt_u (x := l4) (a := d.toNat)
          refine lv_iload F.1 F.2.1 dX7_joinTold_170 (lv_at hl 0 rfl) ?_
          refine lv_aload_n F.1 F.2.1 dX7_joinTold_172 rfl (lv_at hl 2 rfl) ?_
          refine lv_iload_n F.1 F.2.1 dX7_joinTold_173 rfl (lv_at hl 4 rfl) ?_
          refine g_calli (g_runV (As := [.int (iI l2)]) (rest := [.int (iI d)]) (ci := 7) F hl.1 hH hS hz (c_X7_columns l g gh T I_1 R J_2 AI_3 AJ AR mo l2 zl2 hv hm hT (by omega)) (cwV 1 F.2.2.2.2.1 (good_up gT_X7_columns) rfl rfl rfl hdX7_columns ⟨Nat.le_of_ble_eq_true rfl, Nat.le_of_ble_eq_true rfl⟩) hm (by decide) rfl rfl rfl (Nat.le_of_ble_eq_true rfl) dX7_joinTold_174 ⟨Nat.zero_le _, Nat.zero_le _⟩) hS (fun v_23 I_17 R_18 J_19 AI_20 AJ_21 AR_22 H locs zv_23 hp_24 hH hS => ?_)
          dsimp only at hp_24
          obtain ⟨rfl, rfl, rfl, rfl, rfl, rfl, q_16⟩ := hp_24
          refine z_icmp_ge (tgt := 199) F dX7_joinTold_177 (by decide) zd zv_23 (fun c_25 => ?_) (fun c_25 => ?_)
          · have hcx : Hid ((I_1 mo 24).toInt = 0 → cl = tI (AI_3 (gh 53 0)) (40 * l1 + 1) + mCnt l4 (tI (AI_3 (gh 53 0)) (40 * l2 + 1)).toNat) := fun hf => by rw [← (show d = tI (AI_3 (gh 53 0)) (40 * l2 + 1) by have q := hcl.2 hf; omega)]; exact (hcl.2 hf).2.2
            obtain ⟨f9, ef9⟩ : ∃ q, q = (I_1 mo 24).toInt := ⟨_, rfl⟩
            have hm0 := mCnt_0 (x := l4) (a := (tI (AI_3 (gh 53 0)) (40 * l2 + 1)).toNat)
            refine lv_aload_n F.1 F.2.1 dX7_joinTold_199 rfl (lv_at hl 2 rfl) ?_
            refine z_bipush F dX7_joinTold_200 (by decide) ?_
            refine g_calli (g_runV (As := [.int (iI 59)]) (rest := []) (ci := 7) F hl.1 hH hS hz (c_X7_isSignf l g gh T b nn nr nt cc fb9 hb9 I_1 R J_2 AI_3 AJ AR mo 59 ⟨by decide, by decide⟩ hv hm hT h65 hbM hr7 (by omega) hn9 (by omega) (by omega) hQ) (cwV 1 F.2.2.2.2.1 (good_up gT_X7_isSign) rfl rfl rfl hdX7_isSign ⟨Nat.le_of_ble_eq_true rfl, Nat.le_of_ble_eq_true rfl⟩) hm (by decide) rfl rfl rfl (Nat.le_of_ble_eq_true rfl) dX7_joinTold_202 ⟨Nat.zero_le _, Nat.zero_le _⟩) hS (fun v_32 I_26 R_27 J_28 AI_29 AJ_30 AR_31 H locs zv_32 hp_33 hH hS => ?_)
            dsimp only at hp_33
            obtain ⟨rfl, rfl, rfl, rfl, rfl, rfl, q_34, q_35⟩ := hp_33
            replace q_34 := q_34.1
            refine z_if_eq (tgt := 219) F dX7_joinTold_205 (by decide) zv_32 (fun c_36 => ?_) (fun c_36 => ?_)
            · have t_37 := tIz_0 q_35 (by omega)
              refine lv_aload_n F.1 F.2.1 dX7_joinTold_219 rfl (lv_at hl 2 rfl) ?_
              refine z_iconst F dX7_joinTold_220 ?_
              refine lv_iload F.1 F.2.1 dX7_joinTold_221 (lv_at hl 1 rfl) ?_
              refine lv_iload_n F.1 F.2.1 dX7_joinTold_223 rfl (lv_at hl 3 rfl) ?_
              refine lv_iload_n F.1 F.2.1 dX7_joinTold_224 rfl (lv_at hl 4 rfl) ?_
              refine lv_iload_n F.1 F.2.1 dX7_joinTold_225 rfl (lv_at hl 5 rfl) ?_
              refine g_callv (g_runV (As := [.int (iI 3), .int (iI cl), .int (iI l1), .int (iI l2), .int (iI l3)]) (rest := []) (ci := 7) F hl.1 hH hS hz (c_X7_header l g gh T M I_1 R J_2 AI_3 AJ AR mo 3 cl l1 l2 l3 ⟨by decide, by decide⟩ zcl zl1 zl2 zl3 hv hm hT (by omega) (by omega)) (cwV 5 F.2.2.2.2.1 (good_up gT_X7_header) rfl rfl rfl hdX7_header ⟨Nat.le_of_ble_eq_true rfl, Nat.le_of_ble_eq_true rfl⟩) hm (by decide) rfl rfl rfl (Nat.le_of_ble_eq_true rfl) dX7_joinTold_226 ⟨Nat.zero_le _, Nat.zero_le _⟩) hS (fun I_38 R_39 J_40 AI_41 AJ_42 AR_43 H locs hp_44 hH hS => ?_)
              dsimp only at hp_44
              obtain ⟨rfl, rfl, rfl, rfl, rfl, hv, hT, hhd⟩ := hp_44
              replace hhd := hid hhd
              have hQ : mQ gh I_1 J_2 AI_41 AJ mo b nn nr nt cc fb9 hb9 := mQ_bad hQ (by omega) rfl
              refine lv_aload_n F.1 F.2.1 dX7_joinTold_229 rfl (lv_at hl 2 rfl) ?_
              refine z_iconst F dX7_joinTold_230 ?_
              refine lv_iload F.1 F.2.1 dX7_joinTold_231 (lv_at hl 6 rfl) ?_
              refine g_callv (g_runV (As := [.int (iI 5), .int (iI l4)]) (rest := []) (ci := 7) F hl.1 hH hS hz (c_X7_sets l g gh T M I_1 R J_2 AI_41 AJ AR mo 5 l4 ⟨by decide, by decide⟩ zl4 hv hm hT (by omega) (by omega) (by omega)) (cwV 2 F.2.2.2.2.1 (good_up gT_X7_sets) rfl rfl rfl hdX7_sets ⟨Nat.le_of_ble_eq_true rfl, Nat.le_of_ble_eq_true rfl⟩) hm (by decide) rfl rfl rfl (Nat.le_of_ble_eq_true rfl) dX7_joinTold_233 ⟨Nat.zero_le _, Nat.zero_le _⟩) hS (fun I_45 R_46 J_47 AI_48 AJ_49 AR_50 H locs hp_51 hH hS => ?_)
              dsimp only at hp_51
              obtain ⟨rfl, rfl, rfl, rfl, rfl, hv, hT, hs1⟩ := hp_51
              replace hs1 := hid hs1
              have hQ : mQ gh I_1 J_2 AI_48 AJ mo b nn nr nt cc fb9 hb9 := mQ_bad hQ (by omega) rfl
              exact g_vret F hr hlk hH hS hz ⟨rfl, rfl, rfl, hv, hT, pf, by first | (dsimp only; omega) | omega | rfl, by (try dsimp only); exact (fun hf => absurd hf (by omega)), by (try dsimp only); exact (fun hf => absurd hf (by omega)), by (try dsimp only); rw [hfin]; exact hQ, by (try dsimp only); rw [hfin]; exact pIc_n (by omega)⟩ dX7_joinTold_236
            · exact absurd (tIz_1 q_35 (by omega)).1 (by omega)
          · refine lv_iload F.1 F.2.1 dX7_joinTold_180 (lv_at hl 6 rfl) ?_
            refine lv_iload F.1 F.2.1 dX7_joinTold_182 (lv_at hl 0 rfl) ?_
            refine lv_ishr F.1 F.2.1 dX7_joinTold_184 ?_
            refine z_top (fun v_52 zv_52 ev_52 => ?_)
            refine z_iconst F dX7_joinTold_185 ?_
            refine lv_iand F.1 F.2.1 dX7_joinTold_186 ?_
            refine z_top (fun v_53 zv_53 ev_53 => ?_)
            have hb : v_53 = mBit l4 d := by rw [ev_53, ev_52]; rfl
            have hb01 := mBit01 l4 d
            refine z_if_ne (tgt := 193) F dX7_joinTold_187 (by decide) zv_53 (fun c_54 => ?_) (fun c_54 => ?_)
            · refine z_iinc (lv' := [(7, .int (iI (d + 1))), (6, .int (iI cl)), (0, .ref mo), (1, .int (iI l1)), (2, .int (iI l2)), (3, .int (iI l3)), (4, .int (iI l4))]) F dX7_joinTold_193 hl (k := 0) rfl (by decide) rfl (fun ls hl => ?_)
              refine z_goto (tgt := 170) F dX7_joinTold_196 (by decide) ?_
              exact ih170 cl (d + 1) H locs ls zcl ⟨by omega, by omega⟩ (⟨by omega, fun hf => ⟨by have q := hcb hf; omega, by omega, by have q := hcl.2 hf; rw [mCnt_z (by omega) (by omega)]; omega⟩⟩) (by omega) hH hS (lv_sub hl [0, 1, 2, 3, 4, 5, 6] rfl)
            · refine z_iinc (lv' := [(6, .int (iI (cl + 1))), (7, .int (iI d)), (0, .ref mo), (1, .int (iI l1)), (2, .int (iI l2)), (3, .int (iI l3)), (4, .int (iI l4))]) F dX7_joinTold_190 hl (k := 1) rfl (by decide) rfl (fun ls hl => ?_)
              obtain ⟨c9, zc9, ec9, fc9⟩ := z_wrap (cl + 1)
              rw [ec9] at hl
              refine z_iinc (lv' := [(7, .int (iI (d + 1))), (6, .int (iI c9)), (0, .ref mo), (1, .int (iI l1)), (2, .int (iI l2)), (3, .int (iI l3)), (4, .int (iI l4))]) F dX7_joinTold_193 hl (k := 1) rfl (by decide) rfl (fun ls hl => ?_)
              refine z_goto (tgt := 170) F dX7_joinTold_196 (by decide) ?_
              exact ih170 c9 (d + 1) H locs ls zc9 ⟨by omega, by omega⟩ (⟨by omega, fun hf => ⟨by have q := hcb hf; omega, by omega, by have q := hcl.2 hf; have q1 := hca hf; have q2 := fc9 (by omega); rw [mCnt_s (by omega) (by omega)]; omega⟩⟩) (by omega) hH hS (lv_sub hl [0, 1, 2, 3, 4, 5, 6] rfl)
      exact cut_170_14 ((((tI (AI_3 (gh 53 0)) (40 * l2 + 1) - 0).toNat : Int) + 1 : Int).toNat) v_13 0 H locs ls zv_13 ⟨by decide, by decide⟩ (⟨by omega, fun hf => ⟨by omega, by have q := hcb hf; omega, by show _ = _ + (0 : Int); omega⟩⟩) (by omega) hH hS (lv_sub hl [0, 1, 2, 3, 4, 5, 6] rfl)
    refine lv_aload_n F.1 F.2.1 dX7_joinTold_0 rfl (lv_at hl 0 rfl) ?_
    have b_55 := mJ hv hm
    unfold mNum1 at b_55
    refine g_calli (g_runV (As := []) (rest := []) (ci := 7) F hl.1 hH hS hz (c_X7_relationf l g gh T b nn nr nt cc 0 h I R J AI AJ AR mo hv hm hT (by omega) h65 hbM hr7 (by omega) hn9 (by omega) hQ) (cwV 0 F.2.2.2.2.1 (good_up gT_X7_relation) rfl rfl rfl hdX7_relation ⟨Nat.le_of_ble_eq_true rfl, Nat.le_of_ble_eq_true rfl⟩) hm (by decide) rfl rfl rfl (Nat.le_of_ble_eq_true rfl) dX7_joinTold_1 ⟨Nat.zero_le _, Nat.zero_le _⟩) hS (fun v_62 I_56 R_57 J_58 AI_59 AJ_60 AR_61 H locs zv_62 hp_63 hH hS => ?_)
    dsimp only at hp_63
    obtain ⟨r_64, er_64⟩ : ∃ qQ : pR, qQ = thn (0, h, 0) (fun t _ => sRl b nn nr nt cc t) := ⟨_, rfl⟩
    rw [← er_64] at hp_63
    obtain ⟨rfl, rfl, rfl, rfl, hv, pfq, q_65, q_66, hQ, q_67⟩ := hp_63
    have pf := qF_t pf pfq
    have u_68_2 : (I_56 mo 2).toInt = (I mo 2).toInt := by rw [pf 2 (by decide) (by decide) (by decide) (by decide) (by decide)]
    have u_68_5 : (I_56 mo 5).toInt = (I mo 5).toInt := by rw [pf 5 (by decide) (by decide) (by decide) (by decide) (by decide)]
    have u_68_14 : (I_56 mo 14).toInt = (I mo 14).toInt := by rw [pf 14 (by decide) (by decide) (by decide) (by decide) (by decide)]
    have u_68_16 : (I_56 mo 16).toInt = (I mo 16).toInt := by rw [pf 16 (by decide) (by decide) (by decide) (by decide) (by decide)]
    have u_68_18 : (I_56 mo 18).toInt = (I mo 18).toInt := by rw [pf 18 (by decide) (by decide) (by decide) (by decide) (by decide)]
    have er_64 : r_64 = sRl b nn nr nt cc h := er_64
    have sr_64 := er_64
    rcases sRl_c er_64 with ⟨er_64, pr_64⟩ | ⟨er_64, pr_64⟩
    · have hQ : mQ gh I_56 J_58 AI AJ mo b nn nr nt cc 0 (h + 1) := by rw [er_64] at hQ; exact hQ
      have sr_64 : sRl b nn nr nt cc h = (0, h + 1, cF b nn nr nt cc h) := sr_64.symm.trans er_64
      have vlr_64 := q_67 (by rw [er_64])
      try rw [er_64] at vlr_64
      try dsimp only at vlr_64
      replace q_66 := (⟨q_66.1, q_66.2.1, q_66.2.2 (mQ_0 hQ rfl)⟩ : _ ∧ _ ∧ _)
      obtain ⟨fa0, efa0⟩ : ∃ q, q = (I_56 mo 24).toInt := ⟨_, rfl⟩
      have hra : Hid (fa0 = 0 → v_62 < M) := fun h9 => by omega
      refine lv_istore_n (lv' := [(1, .int (iI v_62)), (0, .ref mo)]) F.1 F.2.1 dX7_joinTold_4 rfl hl (by decide) rfl (fun ls hl => ?_)
      refine lv_aload_n F.1 F.2.1 dX7_joinTold_5 rfl (lv_at hl 1 rfl) ?_
      have b_69 := mJ hv hm
      unfold mNum1 at b_69
      refine g_calli (g_runV (As := []) (rest := []) (ci := 7) F hl.1 hH hS hz (c_X7_relationf l g gh T b nn nr nt cc 0 (h + 1) I_56 R J_58 AI AJ AR mo hv hm hT (by omega) h65 hbM hr7 (by omega) hn9 (by omega) hQ) (cwV 0 F.2.2.2.2.1 (good_up gT_X7_relation) rfl rfl rfl hdX7_relation ⟨Nat.le_of_ble_eq_true rfl, Nat.le_of_ble_eq_true rfl⟩) hm (by decide) rfl rfl rfl (Nat.le_of_ble_eq_true rfl) dX7_joinTold_6 ⟨Nat.zero_le _, Nat.zero_le _⟩) hS (fun v_76 I_70 R_71 J_72 AI_73 AJ_74 AR_75 H locs zv_76 hp_77 hH hS => ?_)
      dsimp only at hp_77
      obtain ⟨r_78, er_78⟩ : ∃ qQ : pR, qQ = thn (0, (h + 1), 0) (fun t _ => sRl b nn nr nt cc t) := ⟨_, rfl⟩
      rw [← er_78] at hp_77
      obtain ⟨rfl, rfl, rfl, rfl, hv, pfq, q_79, q_80, hQ, q_81⟩ := hp_77
      have pf := qF_t pf pfq
      have u_82_2 : (I_70 mo 2).toInt = (I mo 2).toInt := by rw [pf 2 (by decide) (by decide) (by decide) (by decide) (by decide)]
      have u_82_5 : (I_70 mo 5).toInt = (I mo 5).toInt := by rw [pf 5 (by decide) (by decide) (by decide) (by decide) (by decide)]
      have u_82_14 : (I_70 mo 14).toInt = (I mo 14).toInt := by rw [pf 14 (by decide) (by decide) (by decide) (by decide) (by decide)]
      have u_82_16 : (I_70 mo 16).toInt = (I mo 16).toInt := by rw [pf 16 (by decide) (by decide) (by decide) (by decide) (by decide)]
      have u_82_18 : (I_70 mo 18).toInt = (I mo 18).toInt := by rw [pf 18 (by decide) (by decide) (by decide) (by decide) (by decide)]
      have er_78 : r_78 = sRl b nn nr nt cc (h + 1) := er_78
      have sr_78 := er_78
      rcases sRl_c er_78 with ⟨er_78, pr_78⟩ | ⟨er_78, pr_78⟩
      · have hQ : mQ gh I_70 J_72 AI AJ mo b nn nr nt cc 0 (h + 2) := by rw [er_78] at hQ; exact hQ
        have sr_78 : sRl b nn nr nt cc (h + 1) = (0, h + 2, cF b nn nr nt cc (h + 1)) := sr_78.symm.trans er_78
        have vlr_78 := q_81 (by rw [er_78])
        try rw [er_78] at vlr_78
        try dsimp only at vlr_78
        replace q_80 := (⟨q_80.1, q_80.2.1, q_80.2.2 (mQ_0 hQ rfl)⟩ : _ ∧ _ ∧ _)
        obtain ⟨f0, ef0⟩ : ∃ q, q = (I_70 mo 24).toInt := ⟨_, rfl⟩
        have hr2 : Hid (f0 = 0 → v_76 < M ∧ fa0 = 0) := fun h9 => by omega
        refine lv_istore_n (lv' := [(2, .int (iI v_76)), (1, .int (iI v_62)), (0, .ref mo)]) F.1 F.2.1 dX7_joinTold_9 rfl hl (by decide) rfl (fun ls hl => ?_)
        refine lv_aload_n F.1 F.2.1 dX7_joinTold_10 rfl (lv_at hl 2 rfl) ?_
        refine va_ldcS F.1 F.2.1 F.2.2.2.1 (F.2.2.2.2.2.2.1 14 _ rfl).1 dX7_joinTold_11 ?_
        have b_83 := mJ hv hm
        unfold mNum1 at b_83
        refine g_callv (g_runV (As := [.ref (gSK g 14)]) (rest := []) (ci := 7) F hl.1 hH hS hz (c_X7_mustWordf l g gh T 14 _ 12 b nn nr nt cc 0 (h + 2) I_70 R J_72 AI AJ AR mo hv hm hT (by omega) (rfl : sTab[14]? = some _) h65 hbM hr7 (by omega) hn9 (by omega) (by decide) (by decide +kernel) hQ) (cwV 1 F.2.2.2.2.1 (good_up gT_X7_mustWord) rfl rfl rfl hdX7_mustWord ⟨Nat.le_of_ble_eq_true rfl, Nat.le_of_ble_eq_true rfl⟩) hm (by decide) rfl rfl rfl (Nat.le_of_ble_eq_true rfl) dX7_joinTold_13 ⟨Nat.zero_le _, Nat.zero_le _⟩) hS (fun I_84 R_85 J_86 AI_87 AJ_88 AR_89 H locs hp_90 hH hS => ?_)
        dsimp only at hp_90
        obtain ⟨r_91, er_91⟩ : ∃ qQ : pR, qQ = thn (0, (h + 2), 0) (fun t _ => sTw b nn ((12 : Nat) : Int) t) := ⟨_, rfl⟩
        rw [← er_91] at hp_90
        obtain ⟨rfl, rfl, rfl, rfl, hv, pfq, q_92, hQ⟩ := hp_90
        have pf := qF_t pf pfq
        have u_93_2 : (I_84 mo 2).toInt = (I mo 2).toInt := by rw [pf 2 (by decide) (by decide) (by decide) (by decide) (by decide)]
        have u_93_5 : (I_84 mo 5).toInt = (I mo 5).toInt := by rw [pf 5 (by decide) (by decide) (by decide) (by decide) (by decide)]
        have u_93_14 : (I_84 mo 14).toInt = (I mo 14).toInt := by rw [pf 14 (by decide) (by decide) (by decide) (by decide) (by decide)]
        have u_93_16 : (I_84 mo 16).toInt = (I mo 16).toInt := by rw [pf 16 (by decide) (by decide) (by decide) (by decide) (by decide)]
        have u_93_18 : (I_84 mo 18).toInt = (I mo 18).toInt := by rw [pf 18 (by decide) (by decide) (by decide) (by decide) (by decide)]
        have er_91 : r_91 = sTw b nn 12 (h + 2) := er_91
        have sr_91 := er_91
        rcases sTw_c er_91 with ⟨er_91, pr_91⟩ | ⟨er_91, pr_91⟩
        · have hQ : mQ gh I_84 J_86 AI AJ mo b nn nr nt cc 0 (h + 3) := by rw [er_91] at hQ; exact hQ
          have sr_91 : sTw b nn 12 (h + 2) = (0, h + 3, 0) := sr_91.symm.trans er_91
          refine z_iconst F dX7_joinTold_16 ?_
          refine lv_istore_n (lv' := [(3, .int (iI 0)), (2, .int (iI v_76)), (1, .int (iI v_62)), (0, .ref mo)]) F.1 F.2.1 dX7_joinTold_17 rfl hl (by decide) rfl (fun ls hl => ?_)
          refine z_iconst F dX7_joinTold_18 ?_
          refine lv_istore (lv' := [(4, .int (iI 0)), (3, .int (iI 0)), (2, .int (iI v_76)), (1, .int (iI v_62)), (0, .ref mo)]) F.1 F.2.1 dX7_joinTold_19 hl (by decide) rfl (fun ls hl => ?_)
          refine z_iconst F dX7_joinTold_21 ?_
          refine lv_istore (lv' := [(5, .int (iI 1)), (4, .int (iI 0)), (3, .int (iI 0)), (2, .int (iI v_76)), (1, .int (iI v_62)), (0, .ref mo)]) F.1 F.2.1 dX7_joinTold_22 hl (by decide) rfl (fun ls hl => ?_)
          have cut_24_96 : ∀ (NN : Nat) (n gn mr : Int) (I_94 : gI) (J_95 : gJ) (AI_96 : gI) (H : Heap) (locs : List Loc) (ls : Array Slot), zr n → zr gn → zr mr → (mInv g gh R I_94 AI_96) → (AI_96 (gh 50 0) = T) → (qF mo I I_94) → ((I_94 mo 20).toInt ≤ 936 ∧ f0 ≤ (I_94 mo 24).toInt ∧ 0 ≤ n ∧ n ≤ 5) → (Hid ((I_94 mo 24).toInt = 0 → n ≤ 4 ∧ joinP (AI_96 (gh 53 0)) M n)) → (∃ (hc : Nat) (L : List Int), mQ gh I_94 J_95 AI_96 AJ mo b nn nr nt cc 0 hc ∧ sJoi b nn nr nt cc h = sPairs b nn (cF b nn nr nt cc h) (cF b nn nr nt cc (h + 1)) (5 - n).toNat n L hc ∧ mGn gn L) → (mr = 1) → (6 - n) < ((NN : Nat) : Int) → gH g I_94 R J_95 AI_96 AJ AR H → va_S (gA g) s.heap H locs → lv_has ls 8 [(5, .int (iI mr)), (4, .int (iI gn)), (3, .int (iI n)), (2, .int (iI v_76)), (1, .int (iI v_62)), (0, .ref mo)] → W p l e rmX7_joinToldf s m ([.ref mo] : List Value).toArray below meth c H locs 0 0 (MQ below (gQv g (fun w : gS => R = w.2.1 ∧ AJ = w.2.2.2.2.1 ∧ AR = w.2.2.2.2.2 ∧ (mInv g gh R (w.1) (w.2.2.2.1)) ∧ ((w.2.2.2.1) (gh 50 0) = T) ∧ (qF mo I (w.1)) ∧ (((w.1) mo 20).toInt ≤ 936 ∧ (I mo 24).toInt ≤ ((w.1) mo 24).toInt) ∧ (((w.1) mo 24).toInt = 0 → ((w.1) mo 21).toInt = 4 → ((w.1) mo 23).toInt = 59 → rowOK ((w.2.2.2.1) (gh 53 0)) M) ∧ (((w.1) mo 24).toInt = 0 → tI ((w.2.2.2.1) (gh 53 0)) (40 * M) = 3) ∧ (mQ gh (w.1) (w.2.2.1) (w.2.2.2.1) AJ mo b nn nr nt cc (thn (f, h, 0) (fun t _ => sJoiM b nn nr nt cc t)).1 (thn (f, h, 0) (fun t _ => sJoiM b nn nr nt cc t)).2.1) ∧ (pIc (thn (f, h, 0) (fun t _ => sJoiM b nn nr nt cc t)).1 (pK b nn (thn (f, h, 0) (fun t _ => sJoiM b nn nr nt cc t)).2.1) (tI ((w.2.2.2.1) (gh 53 0)) (40 * (nr : Int) + 1)) (thn (f, h, 0) (fun t _ => sJoiM b nn nr nt cc t)).2.2))) ([.ref mo] : List Value).toArray s 0 0 (gA g)) (F0 m 24 ls []) := by
            intro NN24
            induction NN24 with
            | zero =>
              intro n gn mr I_94 J_95 AI_96 H locs ls zn zgn zmr hv hT pf hx hp hLs hmr hm24 hH hS hl
              exact absurd hm24 (by omega)
            | succ NN24 ih24 =>
              intro n gn mr I_94 J_95 AI_96 H locs ls zn zgn zmr hv hT pf hx hp hLs hmr hm24 hH hS hl
              (try clear u_93_18); (try clear u_93_16); (try clear u_93_14); (try clear u_93_5); (try clear u_93_2); (try clear b_83); (try clear u_82_18); (try clear u_82_16); (try clear u_82_14); (try clear u_82_5); (try clear u_82_2); (try clear b_69); (try clear u_68_18); (try clear u_68_16); (try clear u_68_14); (try clear u_68_5); (try clear u_68_2); (try clear b_55)
              have uc_2 : (I_94 mo 2).toInt = (I mo 2).toInt := by rw [pf 2 (by decide) (by decide) (by decide) (by decide) (by decide)]
              have uc_5 : (I_94 mo 5).toInt = (I mo 5).toInt := by rw [pf 5 (by decide) (by decide) (by decide) (by decide) (by decide)]
              have uc_14 : (I_94 mo 14).toInt = (I mo 14).toInt := by rw [pf 14 (by decide) (by decide) (by decide) (by decide) (by decide)]
              have uc_16 : (I_94 mo 16).toInt = (I mo 16).toInt := by rw [pf 16 (by decide) (by decide) (by decide) (by decide) (by decide)]
              have uc_18 : (I_94 mo 18).toInt = (I mo 18).toInt := by rw [pf 18 (by decide) (by decide) (by decide) (by decide) (by decide)]
              obtain ⟨hc, L, hQ, hsq, hcn⟩ := hLs
              have hp_k := hp (mQ_0 hQ rfl)
              refine lv_iload F.1 F.2.1 dX7_joinTold_24 (lv_at hl 0 rfl) ?_
              refine z_if_eq (tgt := 160) F dX7_joinTold_26 (by decide) zmr (fun c_98 => ?_) (fun c_98 => ?_)
              · exact absurd hmr (by omega)
              · refine lv_aload_n F.1 F.2.1 dX7_joinTold_29 rfl (lv_at hl 5 rfl) ?_
                refine g_getI (ci := 7) (k := 24) F hH rfl (by decide) iX7 hm (by decide) rfl k81 dX7_joinTold_30 ?_
                have b_99 := mJ hv hm
                unfold mNum1 at b_99
                refine z_if_ne (tgt := 160) F dX7_joinTold_33 (by decide) (zr_t _) (fun c_100 => ?_) (fun c_100 => ?_)
                · exact absurd (mQ_0 hQ rfl) (by omega)
                · refine lv_iload_n F.1 F.2.1 dX7_joinTold_36 rfl (lv_at hl 2 rfl) ?_
                  refine z_iconst F dX7_joinTold_37 ?_
                  refine z_icmp_ne (tgt := 82) F dX7_joinTold_38 (by decide) zn ⟨by decide, by decide⟩ (fun c_101 => ?_) (fun c_101 => ?_)
                  · refine lv_aload_n F.1 F.2.1 dX7_joinTold_82 rfl (lv_at hl 5 rfl) ?_
                    refine lv_aload_n F.1 F.2.1 dX7_joinTold_83 rfl (lv_at hl 5 rfl) ?_
                    refine lv_iload_n F.1 F.2.1 dX7_joinTold_84 rfl (lv_at hl 4 rfl) ?_
                    refine g_calli (g_runV (As := [.int (iI v_62)]) (rest := [.ref mo]) (ci := 7) F hl.1 hH hS hz (c_X7_columns l g gh T I_94 R J_95 AI_96 AJ AR mo v_62 zv_62 hv hm hT (by omega)) (cwV 1 F.2.2.2.2.1 (good_up gT_X7_columns) rfl rfl rfl hdX7_columns ⟨Nat.le_of_ble_eq_true rfl, Nat.le_of_ble_eq_true rfl⟩) hm (by decide) rfl rfl rfl (Nat.le_of_ble_eq_true rfl) dX7_joinTold_85 ⟨Nat.zero_le _, Nat.zero_le _⟩) hS (fun v_109 I_103 R_104 J_105 AI_106 AJ_107 AR_108 H locs zv_109 hp_110 hH hS => ?_)
                    dsimp only at hp_110
                    obtain ⟨rfl, rfl, rfl, rfl, rfl, rfl, q_102⟩ := hp_110
                    have cvv_109 : v_109 = cF b nn nr nt cc h := q_102.trans ((mQ_c hQ rfl vlr_64.1 vlr_64.2.1).trans vlr_64.2.2)
                    refine g_calli (g_runV (As := [.int (iI v_109)]) (rest := []) (ci := 7) F hl.1 hH hS hz (c_X7_columnf l g gh T b nn nr nt cc 0 hc I_94 R J_95 AI_96 AJ AR mo v_109 zv_109 hv hm hT (by omega) h65 hbM hr7 (by omega) hn9 (by omega) hQ) (cwV 1 F.2.2.2.2.1 (good_up gT_X7_column) rfl rfl rfl hdX7_column ⟨Nat.le_of_ble_eq_true rfl, Nat.le_of_ble_eq_true rfl⟩) hm (by decide) rfl rfl rfl (Nat.le_of_ble_eq_true rfl) dX7_joinTold_88 ⟨Nat.zero_le _, Nat.zero_le _⟩) hS (fun v_117 I_111 R_112 J_113 AI_114 AJ_115 AR_116 H locs zv_117 hp_118 hH hS => ?_)
                    dsimp only at hp_118
                    rw [show v_109 = cF b nn nr nt cc h by omega] at hp_118
                    obtain ⟨r_119, er_119⟩ : ∃ qQ : pR, qQ = thn (0, hc, 0) (fun t _ => sCol b nn (cF b nn nr nt cc h) t) := ⟨_, rfl⟩
                    rw [← er_119] at hp_118
                    obtain ⟨rfl, rfl, rfl, rfl, hv, pfq, q_120, q_121, hQ, q_122⟩ := hp_118
                    have pf := qF_t pf pfq
                    have u_123_2 : (I_111 mo 2).toInt = (I mo 2).toInt := by rw [pf 2 (by decide) (by decide) (by decide) (by decide) (by decide)]
                    have u_123_5 : (I_111 mo 5).toInt = (I mo 5).toInt := by rw [pf 5 (by decide) (by decide) (by decide) (by decide) (by decide)]
                    have u_123_14 : (I_111 mo 14).toInt = (I mo 14).toInt := by rw [pf 14 (by decide) (by decide) (by decide) (by decide) (by decide)]
                    have u_123_16 : (I_111 mo 16).toInt = (I mo 16).toInt := by rw [pf 16 (by decide) (by decide) (by decide) (by decide) (by decide)]
                    have u_123_18 : (I_111 mo 18).toInt = (I mo 18).toInt := by rw [pf 18 (by decide) (by decide) (by decide) (by decide) (by decide)]
                    have er_119 : r_119 = sCol b nn (cF b nn nr nt cc h) hc := er_119
                    have sr_119 := er_119
                    rcases sCol_c er_119 with ⟨er_119, pr_119⟩ | ⟨er_119, pr_119⟩
                    · have hQ : mQ gh I_111 J_113 AI_96 AJ mo b nn nr nt cc 0 (hc + 1) := by rw [er_119] at hQ; exact hQ
                      have sr_119 : sCol b nn (cF b nn nr nt cc h) hc = (0, hc + 1, pV b nn hc) := sr_119.symm.trans er_119
                      have vlr_119 := q_122 (by rw [er_119])
                      try rw [er_119] at vlr_119
                      try dsimp only at vlr_119
                      have kq_121 := q_121 (mQ_0 hQ rfl)
                      replace q_121 := hid q_121
                      obtain ⟨f1, ef1⟩ : ∃ q, q = (I_111 mo 24).toInt := ⟨_, rfl⟩
                      have hc1 : Hid (f1 = 0 → 0 ≤ v_117 ∧ v_117 ≤ 3) := fun h9 => by omega
                      refine lv_istore (lv' := [(6, .int (iI v_117)), (5, .int (iI mr)), (4, .int (iI gn)), (3, .int (iI n)), (2, .int (iI v_76)), (1, .int (iI v_62)), (0, .ref mo)]) F.1 F.2.1 dX7_joinTold_91 hl (by decide) rfl (fun ls hl => ?_)
                      refine lv_aload_n F.1 F.2.1 dX7_joinTold_93 rfl (lv_at hl 6 rfl) ?_
                      refine z_bipush F dX7_joinTold_94 (by decide) ?_
                      have b_124 := mJ hv hm
                      unfold mNum1 at b_124
                      refine g_callv (g_runV (As := [.int (iI 61)]) (rest := []) (ci := 7) F hl.1 hH hS hz (c_X7_mustSignf l g gh T b nn nr nt cc 0 (hc + 1) I_111 R J_113 AI_96 AJ AR mo 61 ⟨by decide, by decide⟩ hv hm hT (by omega) h65 hbM hr7 (by omega) hn9 (by omega) (by omega) hQ) (cwV 1 F.2.2.2.2.1 (good_up gT_X7_mustSign) rfl rfl rfl hdX7_mustSign ⟨Nat.le_of_ble_eq_true rfl, Nat.le_of_ble_eq_true rfl⟩) hm (by decide) rfl rfl rfl (Nat.le_of_ble_eq_true rfl) dX7_joinTold_96 ⟨Nat.zero_le _, Nat.zero_le _⟩) hS (fun I_125 R_126 J_127 AI_128 AJ_129 AR_130 H locs hp_131 hH hS => ?_)
                      dsimp only at hp_131
                      obtain ⟨r_132, er_132⟩ : ∃ qQ : pR, qQ = thn (0, (hc + 1), 0) (fun t _ => sTk b nn 61 t) := ⟨_, rfl⟩
                      rw [← er_132] at hp_131
                      obtain ⟨rfl, rfl, rfl, rfl, hv, pfq, q_133, q_134, hQ⟩ := hp_131
                      have pf := qF_t pf pfq
                      have u_135_2 : (I_125 mo 2).toInt = (I mo 2).toInt := by rw [pf 2 (by decide) (by decide) (by decide) (by decide) (by decide)]
                      have u_135_5 : (I_125 mo 5).toInt = (I mo 5).toInt := by rw [pf 5 (by decide) (by decide) (by decide) (by decide) (by decide)]
                      have u_135_14 : (I_125 mo 14).toInt = (I mo 14).toInt := by rw [pf 14 (by decide) (by decide) (by decide) (by decide) (by decide)]
                      have u_135_16 : (I_125 mo 16).toInt = (I mo 16).toInt := by rw [pf 16 (by decide) (by decide) (by decide) (by decide) (by decide)]
                      have u_135_18 : (I_125 mo 18).toInt = (I mo 18).toInt := by rw [pf 18 (by decide) (by decide) (by decide) (by decide) (by decide)]
                      have er_132 : r_132 = sTk b nn 61 (hc + 1) := er_132
                      have sr_132 := er_132
                      rcases sTk_c er_132 with ⟨er_132, pr_132⟩ | ⟨er_132, pr_132⟩
                      · have hQ : mQ gh I_125 J_127 AI_96 AJ mo b nn nr nt cc 0 (hc + 2) := by rw [er_132] at hQ; exact hQ
                        have sr_132 : sTk b nn 61 (hc + 1) = (0, hc + 2, 0) := sr_132.symm.trans er_132
                        replace q_134 := hid q_134
                        refine lv_aload_n F.1 F.2.1 dX7_joinTold_99 rfl (lv_at hl 6 rfl) ?_
                        refine lv_aload_n F.1 F.2.1 dX7_joinTold_100 rfl (lv_at hl 6 rfl) ?_
                        refine lv_iload_n F.1 F.2.1 dX7_joinTold_101 rfl (lv_at hl 4 rfl) ?_
                        have b_137 := mJ hv hm
                        unfold mNum1 at b_137
                        refine g_calli (g_runV (As := [.int (iI v_76)]) (rest := [.ref mo]) (ci := 7) F hl.1 hH hS hz (c_X7_columns l g gh T I_125 R J_127 AI_96 AJ AR mo v_76 zv_76 hv hm hT (by omega)) (cwV 1 F.2.2.2.2.1 (good_up gT_X7_columns) rfl rfl rfl hdX7_columns ⟨Nat.le_of_ble_eq_true rfl, Nat.le_of_ble_eq_true rfl⟩) hm (by decide) rfl rfl rfl (Nat.le_of_ble_eq_true rfl) dX7_joinTold_102 ⟨Nat.zero_le _, Nat.zero_le _⟩) hS (fun v_144 I_138 R_139 J_140 AI_141 AJ_142 AR_143 H locs zv_144 hp_145 hH hS => ?_)
                        dsimp only at hp_145
                        obtain ⟨rfl, rfl, rfl, rfl, rfl, rfl, q_136⟩ := hp_145
                        have cvv_144 : v_144 = cF b nn nr nt cc (h + 1) := q_136.trans ((mQ_c hQ rfl vlr_78.1 vlr_78.2.1).trans vlr_78.2.2)
                        refine g_calli (g_runV (As := [.int (iI v_144)]) (rest := []) (ci := 7) F hl.1 hH hS hz (c_X7_columnf l g gh T b nn nr nt cc 0 (hc + 2) I_125 R J_127 AI_96 AJ AR mo v_144 zv_144 hv hm hT (by omega) h65 hbM hr7 (by omega) hn9 (by omega) hQ) (cwV 1 F.2.2.2.2.1 (good_up gT_X7_column) rfl rfl rfl hdX7_column ⟨Nat.le_of_ble_eq_true rfl, Nat.le_of_ble_eq_true rfl⟩) hm (by decide) rfl rfl rfl (Nat.le_of_ble_eq_true rfl) dX7_joinTold_105 ⟨Nat.zero_le _, Nat.zero_le _⟩) hS (fun v_152 I_146 R_147 J_148 AI_149 AJ_150 AR_151 H locs zv_152 hp_153 hH hS => ?_)
                        dsimp only at hp_153
                        rw [show v_144 = cF b nn nr nt cc (h + 1) by omega] at hp_153
                        obtain ⟨r_154, er_154⟩ : ∃ qQ : pR, qQ = thn (0, (hc + 2), 0) (fun t _ => sCol b nn (cF b nn nr nt cc (h + 1)) t) := ⟨_, rfl⟩
                        rw [← er_154] at hp_153
                        obtain ⟨rfl, rfl, rfl, rfl, hv, pfq, q_155, q_156, hQ, q_157⟩ := hp_153
                        have pf := qF_t pf pfq
                        have u_158_2 : (I_146 mo 2).toInt = (I mo 2).toInt := by rw [pf 2 (by decide) (by decide) (by decide) (by decide) (by decide)]
                        have u_158_5 : (I_146 mo 5).toInt = (I mo 5).toInt := by rw [pf 5 (by decide) (by decide) (by decide) (by decide) (by decide)]
                        have u_158_14 : (I_146 mo 14).toInt = (I mo 14).toInt := by rw [pf 14 (by decide) (by decide) (by decide) (by decide) (by decide)]
                        have u_158_16 : (I_146 mo 16).toInt = (I mo 16).toInt := by rw [pf 16 (by decide) (by decide) (by decide) (by decide) (by decide)]
                        have u_158_18 : (I_146 mo 18).toInt = (I mo 18).toInt := by rw [pf 18 (by decide) (by decide) (by decide) (by decide) (by decide)]
                        have er_154 : r_154 = sCol b nn (cF b nn nr nt cc (h + 1)) (hc + 2) := er_154
                        have sr_154 := er_154
                        rcases sCol_c er_154 with ⟨er_154, pr_154⟩ | ⟨er_154, pr_154⟩
                        · have hQ : mQ gh I_146 J_148 AI_96 AJ mo b nn nr nt cc 0 (hc + 3) := by rw [er_154] at hQ; exact hQ
                          have sr_154 : sCol b nn (cF b nn nr nt cc (h + 1)) (hc + 2) = (0, hc + 3, pV b nn (hc + 2)) := sr_154.symm.trans er_154
                          have vlr_154 := q_157 (by rw [er_154])
                          try rw [er_154] at vlr_154
                          try dsimp only at vlr_154
                          have kq_156 := q_156 (mQ_0 hQ rfl)
                          replace q_156 := hid q_156
                          obtain ⟨f2, ef2⟩ : ∃ q, q = (I_146 mo 24).toInt := ⟨_, rfl⟩
                          have hd1 : Hid (f2 = 0 → 0 ≤ v_152 ∧ v_152 ≤ 3) := fun h9 => by omega
                          refine lv_istore (lv' := [(7, .int (iI v_152)), (6, .int (iI v_117)), (5, .int (iI mr)), (4, .int (iI gn)), (3, .int (iI n)), (2, .int (iI v_76)), (1, .int (iI v_62)), (0, .ref mo)]) F.1 F.2.1 dX7_joinTold_108 hl (by decide) rfl (fun ls hl => ?_)
                          refine lv_aload_n F.1 F.2.1 dX7_joinTold_110 rfl (lv_at hl 7 rfl) ?_
                          refine lv_iload_n F.1 F.2.1 dX7_joinTold_111 rfl (lv_at hl 4 rfl) ?_
                          refine lv_iload F.1 F.2.1 dX7_joinTold_112 (lv_at hl 1 rfl) ?_
                          refine lv_iload F.1 F.2.1 dX7_joinTold_114 (lv_at hl 0 rfl) ?_
                          refine z_iconst F dX7_joinTold_116 ?_
                          refine z_iconst F dX7_joinTold_117 ?_
                          have b_159 := mJ hv hm
                          unfold mNum1 at b_159
                          refine g_callv (g_runV (As := [.int (iI n), .int (iI v_117), .int (iI v_152), .int (iI 0), .int (iI 0)]) (rest := []) (ci := 7) F hl.1 hH hS hz (c_X7_setsPart l g gh T M I_146 R J_148 AI_96 AJ AR mo n v_117 v_152 0 0 zn zv_117 zv_152 ⟨by decide, by decide⟩ ⟨by decide, by decide⟩ hv hm hT (by omega) (by omega) (by omega)) (cwV 5 F.2.2.2.2.1 (good_up gT_X7_setsPart) rfl rfl rfl hdX7_setsPart ⟨Nat.le_of_ble_eq_true rfl, Nat.le_of_ble_eq_true rfl⟩) hm (by decide) rfl rfl rfl (Nat.le_of_ble_eq_true rfl) dX7_joinTold_118 ⟨Nat.zero_le _, Nat.zero_le _⟩) hS (fun I_160 R_161 J_162 AI_163 AJ_164 AR_165 H locs hp_166 hH hS => ?_)
                          dsimp only at hp_166
                          obtain ⟨rfl, rfl, rfl, rfl, rfl, hv, hT, hsp⟩ := hp_166
                          replace hsp := hid hsp
                          have hQ : mQ gh I_146 J_148 AI_163 AJ mo b nn nr nt cc 0 (hc + 3) := mQ_a hQ (fun hf9 z9 h09 h19 => (hsp hf9).1 z9 h09 (Or.inl (by omega)))
                          refine lv_aload_n F.1 F.2.1 dX7_joinTold_121 rfl (lv_at hl 7 rfl) ?_
                          refine g_getI (ci := 7) (k := 24) F hH rfl (by decide) iX7 hm (by decide) rfl k81 dX7_joinTold_122 ?_
                          refine z_if_ne (tgt := 137) F dX7_joinTold_125 (by decide) (zr_t _) (fun c_167 => ?_) (fun c_167 => ?_)
                          · exact absurd (mQ_0 hQ rfl) (by omega)
                          · refine lv_iload F.1 F.2.1 dX7_joinTold_128 (lv_at hl 3 rfl) ?_
                            refine z_iconst F dX7_joinTold_130 ?_
                            refine lv_iload F.1 F.2.1 dX7_joinTold_131 (lv_at hl 0 rfl) ?_
                            refine lv_ishl F.1 F.2.1 dX7_joinTold_133 ?_
                            refine z_top (fun v_168 zv_168 ev_168 => ?_)
                            refine lv_ior F.1 F.2.1 dX7_joinTold_134 ?_
                            refine z_top (fun v_169 zv_169 ev_169 => ?_)
                            have hcn : mGn v_169 (v_152 :: L) := mGn_s hcn (by omega) ev_168 ev_169
                            rw [show v_152 = pV b nn (hc + 2) by omega] at hcn
                            refine lv_istore (lv' := [(4, .int (iI v_169)), (7, .int (iI v_152)), (6, .int (iI v_117)), (5, .int (iI mr)), (3, .int (iI n)), (2, .int (iI v_76)), (1, .int (iI v_62)), (0, .ref mo)]) F.1 F.2.1 dX7_joinTold_135 hl (by decide) rfl (fun ls hl => ?_)
                            refine z_iinc (lv' := [(3, .int (iI (n + 1))), (4, .int (iI v_169)), (7, .int (iI v_152)), (6, .int (iI v_117)), (5, .int (iI mr)), (2, .int (iI v_76)), (1, .int (iI v_62)), (0, .ref mo)]) F dX7_joinTold_137 hl (k := 4) rfl (by decide) rfl (fun ls hl => ?_)
                            refine lv_aload_n F.1 F.2.1 dX7_joinTold_140 rfl (lv_at hl 7 rfl) ?_
                            refine z_bipush F dX7_joinTold_141 (by decide) ?_
                            refine g_calli (g_runV (As := [.int (iI 44)]) (rest := []) (ci := 7) F hl.1 hH hS hz (c_X7_isSignf l g gh T b nn nr nt cc 0 (hc + 3) I_146 R J_148 AI_163 AJ AR mo 44 ⟨by decide, by decide⟩ hv hm hT h65 hbM hr7 (by omega) hn9 (by omega) (by omega) hQ) (cwV 1 F.2.2.2.2.1 (good_up gT_X7_isSign) rfl rfl rfl hdX7_isSign ⟨Nat.le_of_ble_eq_true rfl, Nat.le_of_ble_eq_true rfl⟩) hm (by decide) rfl rfl rfl (Nat.le_of_ble_eq_true rfl) dX7_joinTold_143 ⟨Nat.zero_le _, Nat.zero_le _⟩) hS (fun v_176 I_170 R_171 J_172 AI_173 AJ_174 AR_175 H locs zv_176 hp_177 hH hS => ?_)
                            dsimp only at hp_177
                            obtain ⟨rfl, rfl, rfl, rfl, rfl, rfl, q_178, q_179⟩ := hp_177
                            replace q_178 := q_178.1
                            refine lv_istore (lv' := [(5, .int (iI v_176)), (3, .int (iI (n + 1))), (4, .int (iI v_169)), (7, .int (iI v_152)), (6, .int (iI v_117)), (2, .int (iI v_76)), (1, .int (iI v_62)), (0, .ref mo)]) F.1 F.2.1 dX7_joinTold_146 hl (by decide) rfl (fun ls hl => ?_)
                            refine lv_iload F.1 F.2.1 dX7_joinTold_148 (lv_at hl 0 rfl) ?_
                            refine z_if_eq (tgt := 157) F dX7_joinTold_150 (by decide) zv_176 (fun c_180 => ?_) (fun c_180 => ?_)
                            · have t_181 := tIz_n q_179 (by omega)
                              have hTs : sPair b nn (cF b nn nr nt cc h) (cF b nn nr nt cc (h + 1)) n 4 hc = (0, hc + 3, pV b nn (hc + 2)) := sPair_ok (by omega) (by omega) (by omega) (by omega)
                              have hp : Hid ((I_146 mo 24).toInt = 0 → (n + 1) ≤ 4 ∧ joinP (AI_163 (gh 53 0)) M (n + 1)) := ((fun hf => ⟨by omega, joinP_step (by omega) (hp (by omega)).2 (hsp (by omega)) (by omega) (by omega)⟩))
                              have hS9 : sJoi b nn nr nt cc h = (0, hc + 3, (cF b nn nr nt cc h) + jC (pV b nn (hc + 2) :: L) (cF b nn nr nt cc (h + 1)).toNat) := sPairs_st hsq (f := (4 - n).toNat) (by omega) hTs.symm rfl (by omega)
                              refine z_goto (tgt := 24) F dX7_joinTold_157 (by decide) ?_
                              refine lv_iload F.1 F.2.1 dX7_joinTold_24 (lv_at hl 0 rfl) ?_
                              refine z_if_eq (tgt := 160) F dX7_joinTold_26 (by decide) zv_176 (fun c_182 => ?_) (fun c_182 => ?_)
                              · have t_183 := tIz_n q_179 (by omega)
                                refine lv_aload_n F.1 F.2.1 dX7_joinTold_160 rfl (lv_at hl 7 rfl) ?_
                                refine lv_iload_n F.1 F.2.1 dX7_joinTold_161 rfl (lv_at hl 6 rfl) ?_
                                refine g_calli (g_runV (As := [.int (iI v_62)]) (rest := []) (ci := 7) F hl.1 hH hS hz (c_X7_columns l g gh T I_146 R J_148 AI_163 AJ AR mo v_62 zv_62 hv hm hT (by omega)) (cwV 1 F.2.2.2.2.1 (good_up gT_X7_columns) rfl rfl rfl hdX7_columns ⟨Nat.le_of_ble_eq_true rfl, Nat.le_of_ble_eq_true rfl⟩) hm (by decide) rfl rfl rfl (Nat.le_of_ble_eq_true rfl) dX7_joinTold_162 ⟨Nat.zero_le _, Nat.zero_le _⟩) hS (fun v_191 I_185 R_186 J_187 AI_188 AJ_189 AR_190 H locs zv_191 hp_192 hH hS => ?_)
                                dsimp only at hp_192
                                obtain ⟨rfl, rfl, rfl, rfl, rfl, rfl, q_184⟩ := hp_192
                                have cvv_191 : v_191 = cF b nn nr nt cc h := q_184.trans ((mQ_c hQ rfl vlr_64.1 vlr_64.2.1).trans vlr_64.2.2)
                                have hca : Hid ((I_146 mo 24).toInt = 0 → 1 ≤ tI (AI_163 (gh 53 0)) (40 * v_62 + 1) ∧ tI (AI_163 (gh 53 0)) (40 * v_62 + 1) ≤ 4) := fun h => mCol hv hm (z := v_62) (by omega) (by omega)
                                have hcb : Hid ((I_146 mo 24).toInt = 0 → 1 ≤ tI (AI_163 (gh 53 0)) (40 * v_76 + 1) ∧ tI (AI_163 (gh 53 0)) (40 * v_76 + 1) ≤ 4) := fun h => mCol hv hm (z := v_76) (by omega) (by omega)
                                refine lv_istore (lv' := [(6, .int (iI v_191)), (5, .int (iI v_176)), (3, .int (iI (n + 1))), (4, .int (iI v_169)), (7, .int (iI v_152)), (2, .int (iI v_76)), (1, .int (iI v_62)), (0, .ref mo)]) F.1 F.2.1 dX7_joinTold_165 hl (by decide) rfl (fun ls hl => ?_)
                                refine z_iconst F dX7_joinTold_167 ?_
                                refine lv_istore (lv' := [(7, .int (iI 0)), (6, .int (iI v_191)), (5, .int (iI v_176)), (3, .int (iI (n + 1))), (4, .int (iI v_169)), (2, .int (iI v_76)), (1, .int (iI v_62)), (0, .ref mo)]) F.1 F.2.1 dX7_joinTold_168 hl (by decide) rfl (fun ls hl => ?_)
                                have cut_170_192 : ∀ (NN : Nat) (cl d : Int) (H : Heap) (locs : List Loc) (ls : Array Slot), zr cl → zr d → (0 ≤ d ∧ ((I_146 mo 24).toInt = 0 → d ≤ 4 ∧ d ≤ tI (AI_163 (gh 53 0)) (40 * v_76 + 1) ∧ cl = tI (AI_163 (gh 53 0)) (40 * v_62 + 1) + mCnt v_169 d.toNat)) → ((tI (AI_163 (gh 53 0)) (40 * v_76 + 1) - d).toNat : Int) < ((NN : Nat) : Int) → gH g I_146 R J_148 AI_163 AJ AR H → va_S (gA g) s.heap H locs → lv_has ls 8 [(7, .int (iI d)), (6, .int (iI cl)), (5, .int (iI v_176)), (3, .int (iI (n + 1))), (4, .int (iI v_169)), (2, .int (iI v_76)), (1, .int (iI v_62)), (0, .ref mo)] → W p l e rmX7_joinToldf s m ([.ref mo] : List Value).toArray below meth c H locs 0 0 (MQ below (gQv g (fun w : gS => R = w.2.1 ∧ AJ = w.2.2.2.2.1 ∧ AR = w.2.2.2.2.2 ∧ (mInv g gh R (w.1) (w.2.2.2.1)) ∧ ((w.2.2.2.1) (gh 50 0) = T) ∧ (qF mo I (w.1)) ∧ (((w.1) mo 20).toInt ≤ 936 ∧ (I mo 24).toInt ≤ ((w.1) mo 24).toInt) ∧ (((w.1) mo 24).toInt = 0 → ((w.1) mo 21).toInt = 4 → ((w.1) mo 23).toInt = 59 → rowOK ((w.2.2.2.1) (gh 53 0)) M) ∧ (((w.1) mo 24).toInt = 0 → tI ((w.2.2.2.1) (gh 53 0)) (40 * M) = 3) ∧ (mQ gh (w.1) (w.2.2.1) (w.2.2.2.1) AJ mo b nn nr nt cc (thn (f, h, 0) (fun t _ => sJoiM b nn nr nt cc t)).1 (thn (f, h, 0) (fun t _ => sJoiM b nn nr nt cc t)).2.1) ∧ (pIc (thn (f, h, 0) (fun t _ => sJoiM b nn nr nt cc t)).1 (pK b nn (thn (f, h, 0) (fun t _ => sJoiM b nn nr nt cc t)).2.1) (tI ((w.2.2.2.1) (gh 53 0)) (40 * (nr : Int) + 1)) (thn (f, h, 0) (fun t _ => sJoiM b nn nr nt cc t)).2.2))) ([.ref mo] : List Value).toArray s 0 0 (gA g)) (F0 m 170 ls []) := by
                                  intro NN170
                                  induction NN170 with
                                  | zero =>
                                    intro cl d H locs ls zcl zd hcl hm170 hH hS hl
                                    exact absurd hm170 (by omega)
                                  | succ NN170 ih170 =>
                                    intro cl d H locs ls zcl zd hcl hm170 hH hS hl
                                    have hmd := mCnt_0 (x := v_169) (a := d.toNat)
                                    have hmu := mCnt_u (x := v_169) (a := d.toNat)
                                    refine lv_iload F.1 F.2.1 dX7_joinTold_170 (lv_at hl 0 rfl) ?_
                                    refine lv_aload_n F.1 F.2.1 dX7_joinTold_172 rfl (lv_at hl 7 rfl) ?_
                                    refine lv_iload_n F.1 F.2.1 dX7_joinTold_173 rfl (lv_at hl 5 rfl) ?_
                                    refine g_calli (g_runV (As := [.int (iI v_76)]) (rest := [.int (iI d)]) (ci := 7) F hl.1 hH hS hz (c_X7_columns l g gh T I_146 R J_148 AI_163 AJ AR mo v_76 zv_76 hv hm hT (by omega)) (cwV 1 F.2.2.2.2.1 (good_up gT_X7_columns) rfl rfl rfl hdX7_columns ⟨Nat.le_of_ble_eq_true rfl, Nat.le_of_ble_eq_true rfl⟩) hm (by decide) rfl rfl rfl (Nat.le_of_ble_eq_true rfl) dX7_joinTold_174 ⟨Nat.zero_le _, Nat.zero_le _⟩) hS (fun v_201 I_195 R_196 J_197 AI_198 AJ_199 AR_200 H locs zv_201 hp_202 hH hS => ?_)
                                    dsimp only at hp_202
                                    obtain ⟨rfl, rfl, rfl, rfl, rfl, rfl, q_194⟩ := hp_202
                                    have cvv_201 : v_201 = cF b nn nr nt cc (h + 1) := q_194.trans ((mQ_c hQ rfl vlr_78.1 vlr_78.2.1).trans vlr_78.2.2)
                                    refine z_icmp_ge (tgt := 199) F dX7_joinTold_177 (by decide) zd zv_201 (fun c_203 => ?_) (fun c_203 => ?_)
                                    · have hcx : Hid ((I_146 mo 24).toInt = 0 → cl = tI (AI_163 (gh 53 0)) (40 * v_62 + 1) + mCnt v_169 (tI (AI_163 (gh 53 0)) (40 * v_76 + 1)).toNat) := fun hf => by rw [← (show d = tI (AI_163 (gh 53 0)) (40 * v_76 + 1) by have q := hcl.2 hf; omega)]; exact (hcl.2 hf).2.2
                                      obtain ⟨f9, ef9⟩ : ∃ q, q = (I_146 mo 24).toInt := ⟨_, rfl⟩
                                      have hm0 := mCnt_0 (x := v_169) (a := (tI (AI_163 (gh 53 0)) (40 * v_76 + 1)).toNat)
                                      have cA : tI (AI_163 (gh 53 0)) (40 * v_62 + 1) = cF b nn nr nt cc h := (mQ_c hQ rfl vlr_64.1 vlr_64.2.1).trans vlr_64.2.2
                                      have cB : tI (AI_163 (gh 53 0)) (40 * v_76 + 1) = cF b nn nr nt cc (h + 1) := (mQ_c hQ rfl vlr_78.1 vlr_78.2.1).trans vlr_78.2.2
                                      have bB := mQ_cb hQ rfl vlr_78.1 vlr_78.2.1
                                      rw [vlr_78.2.2] at bB
                                      have hcz : cl = (cF b nn nr nt cc h) + jC (pV b nn (hc + 2) :: L) (cF b nn nr nt cc (h + 1)).toNat := by rw [hcx (mQ_0 hQ rfl), cA, cB, mGn_c hcn _ (by omega)]
                                      refine lv_aload_n F.1 F.2.1 dX7_joinTold_199 rfl (lv_at hl 7 rfl) ?_
                                      refine z_bipush F dX7_joinTold_200 (by decide) ?_
                                      refine g_calli (g_runV (As := [.int (iI 59)]) (rest := []) (ci := 7) F hl.1 hH hS hz (c_X7_isSignf l g gh T b nn nr nt cc 0 (hc + 3) I_146 R J_148 AI_163 AJ AR mo 59 ⟨by decide, by decide⟩ hv hm hT h65 hbM hr7 (by omega) hn9 (by omega) (by omega) hQ) (cwV 1 F.2.2.2.2.1 (good_up gT_X7_isSign) rfl rfl rfl hdX7_isSign ⟨Nat.le_of_ble_eq_true rfl, Nat.le_of_ble_eq_true rfl⟩) hm (by decide) rfl rfl rfl (Nat.le_of_ble_eq_true rfl) dX7_joinTold_202 ⟨Nat.zero_le _, Nat.zero_le _⟩) hS (fun v_210 I_204 R_205 J_206 AI_207 AJ_208 AR_209 H locs zv_210 hp_211 hH hS => ?_)
                                      dsimp only at hp_211
                                      obtain ⟨rfl, rfl, rfl, rfl, rfl, rfl, q_212, q_213⟩ := hp_211
                                      replace q_212 := q_212.1
                                      refine z_if_eq (tgt := 219) F dX7_joinTold_205 (by decide) zv_210 (fun c_214 => ?_) (fun c_214 => ?_)
                                      · have t_215 := tIz_n q_213 (by omega)
                                        refine lv_aload_n F.1 F.2.1 dX7_joinTold_219 rfl (lv_at hl 7 rfl) ?_
                                        refine z_iconst F dX7_joinTold_220 ?_
                                        refine lv_iload F.1 F.2.1 dX7_joinTold_221 (lv_at hl 1 rfl) ?_
                                        refine lv_iload_n F.1 F.2.1 dX7_joinTold_223 rfl (lv_at hl 6 rfl) ?_
                                        refine lv_iload_n F.1 F.2.1 dX7_joinTold_224 rfl (lv_at hl 5 rfl) ?_
                                        refine lv_iload_n F.1 F.2.1 dX7_joinTold_225 rfl (lv_at hl 3 rfl) ?_
                                        refine g_callv (g_runV (As := [.int (iI 3), .int (iI cl), .int (iI v_62), .int (iI v_76), .int (iI (n + 1))]) (rest := []) (ci := 7) F hl.1 hH hS hz (c_X7_header l g gh T M I_146 R J_148 AI_163 AJ AR mo 3 cl v_62 v_76 (n + 1) ⟨by decide, by decide⟩ zcl zv_62 zv_76 ⟨by omega, by omega⟩ hv hm hT (by omega) (by omega)) (cwV 5 F.2.2.2.2.1 (good_up gT_X7_header) rfl rfl rfl hdX7_header ⟨Nat.le_of_ble_eq_true rfl, Nat.le_of_ble_eq_true rfl⟩) hm (by decide) rfl rfl rfl (Nat.le_of_ble_eq_true rfl) dX7_joinTold_226 ⟨Nat.zero_le _, Nat.zero_le _⟩) hS (fun I_216 R_217 J_218 AI_219 AJ_220 AR_221 H locs hp_222 hH hS => ?_)
                                        dsimp only at hp_222
                                        obtain ⟨rfl, rfl, rfl, rfl, rfl, hv, hT, hhd⟩ := hp_222
                                        replace hhd := hid hhd
                                        have hQ : mQ gh I_146 J_148 AI_219 AJ mo b nn nr nt cc 0 (hc + 3) := mQ_a hQ (fun hf9 z9 h09 h19 => (hhd hf9).1 z9 h09 (Or.inl (by omega)))
                                        refine lv_aload_n F.1 F.2.1 dX7_joinTold_229 rfl (lv_at hl 7 rfl) ?_
                                        refine z_iconst F dX7_joinTold_230 ?_
                                        refine lv_iload F.1 F.2.1 dX7_joinTold_231 (lv_at hl 4 rfl) ?_
                                        refine g_callv (g_runV (As := [.int (iI 5), .int (iI v_169)]) (rest := []) (ci := 7) F hl.1 hH hS hz (c_X7_sets l g gh T M I_146 R J_148 AI_219 AJ AR mo 5 v_169 ⟨by decide, by decide⟩ zv_169 hv hm hT (by omega) (by omega) (by omega)) (cwV 2 F.2.2.2.2.1 (good_up gT_X7_sets) rfl rfl rfl hdX7_sets ⟨Nat.le_of_ble_eq_true rfl, Nat.le_of_ble_eq_true rfl⟩) hm (by decide) rfl rfl rfl (Nat.le_of_ble_eq_true rfl) dX7_joinTold_233 ⟨Nat.zero_le _, Nat.zero_le _⟩) hS (fun I_223 R_224 J_225 AI_226 AJ_227 AR_228 H locs hp_229 hH hS => ?_)
                                        dsimp only at hp_229
                                        obtain ⟨rfl, rfl, rfl, rfl, rfl, hv, hT, hs1⟩ := hp_229
                                        replace hs1 := hid hs1
                                        have hQ : mQ gh I_146 J_148 AI_226 AJ mo b nn nr nt cc 0 (hc + 3) := mQ_a hQ (fun hf9 z9 h09 h19 => (hs1 hf9).1 z9 h09 (by omega))
                                        have hfin : thn (f, h, 0) (fun t _ => sJoiM b nn nr nt cc t) = (0, hc + 3, (cF b nn nr nt cc h) + jC (pV b nn (hc + 2) :: L) (cF b nn nr nt cc (h + 1)).toNat) := (thn_k q0).trans (by show sJoiM b nn nr nt cc h = _; unfold sJoiM; exact thn_t hS9 rfl (show sEnd b nn ((cF b nn nr nt cc h) + jC (pV b nn (hc + 2) :: L) (cF b nn nr nt cc (h + 1)).toNat) (hc + 3) = _ from ite_n (by omega) rfl))
                                        exact g_vret F hr hlk hH hS hz ⟨rfl, rfl, rfl, hv, hT, pf, by first | (dsimp only; omega) | omega | rfl, by (try dsimp only); intro hf ht hn; have e59 := (mQ_s hQ rfl (c := 59) (by decide)).mp ⟨ht, hn⟩; have qa := hca (by omega); have qb := hcb (by omega); have qc := hcx (by omega); have q5 := hP_s5 (by omega) (hhd (by omega)) (hs1 (by omega)); exact row_mk (by omega) q5.1 (by omega) (by omega) (by omega) (by omega) (fun h => absurd h (by omega)) (fun h => absurd h (by omega)) (fun h => absurd h (by omega)) (fun _ => ⟨by omega, by omega, (hp (by omega)).2, by rw [q5.2]; omega⟩) (fun h => absurd h (by omega)) (fun h => absurd h (by omega)) (fun h => absurd h (by omega)), by (try dsimp only); intro hf; exact (hP_s5 (by omega) (hhd (by omega)) (hs1 (by omega))).1.2.1, by (try dsimp only); rw [hfin]; exact hQ, by (try dsimp only); rw [hfin]; have q9 := (hhd (mQ_0 hQ rfl)).2.2.1; have q8 := (hs1 (mQ_0 hQ rfl)).1 (40 * M + 1) (by omega) (by omega); rw [show M = (nr : Int) by omega] at q9 q8; (try dsimp only); exact pIc_y (by omega)⟩ dX7_joinTold_236
                                      · have t_230 := tIz_y q_213 (by omega)
                                        refine lv_iload F.1 F.2.1 dX7_joinTold_208 (lv_at hl 1 rfl) ?_
                                        refine z_iconst F dX7_joinTold_210 ?_
                                        refine z_icmp_le (tgt := 219) F dX7_joinTold_211 (by decide) zcl ⟨by decide, by decide⟩ (fun c_231 => ?_) (fun c_231 => ?_)
                                        · refine lv_aload_n F.1 F.2.1 dX7_joinTold_219 rfl (lv_at hl 7 rfl) ?_
                                          refine z_iconst F dX7_joinTold_220 ?_
                                          refine lv_iload F.1 F.2.1 dX7_joinTold_221 (lv_at hl 1 rfl) ?_
                                          refine lv_iload_n F.1 F.2.1 dX7_joinTold_223 rfl (lv_at hl 6 rfl) ?_
                                          refine lv_iload_n F.1 F.2.1 dX7_joinTold_224 rfl (lv_at hl 5 rfl) ?_
                                          refine lv_iload_n F.1 F.2.1 dX7_joinTold_225 rfl (lv_at hl 3 rfl) ?_
                                          refine g_callv (g_runV (As := [.int (iI 3), .int (iI cl), .int (iI v_62), .int (iI v_76), .int (iI (n + 1))]) (rest := []) (ci := 7) F hl.1 hH hS hz (c_X7_header l g gh T M I_146 R J_148 AI_163 AJ AR mo 3 cl v_62 v_76 (n + 1) ⟨by decide, by decide⟩ zcl zv_62 zv_76 ⟨by omega, by omega⟩ hv hm hT (by omega) (by omega)) (cwV 5 F.2.2.2.2.1 (good_up gT_X7_header) rfl rfl rfl hdX7_header ⟨Nat.le_of_ble_eq_true rfl, Nat.le_of_ble_eq_true rfl⟩) hm (by decide) rfl rfl rfl (Nat.le_of_ble_eq_true rfl) dX7_joinTold_226 ⟨Nat.zero_le _, Nat.zero_le _⟩) hS (fun I_232 R_233 J_234 AI_235 AJ_236 AR_237 H locs hp_238 hH hS => ?_)
                                          dsimp only at hp_238
                                          obtain ⟨rfl, rfl, rfl, rfl, rfl, hv, hT, hhd⟩ := hp_238
                                          replace hhd := hid hhd
                                          have hQ : mQ gh I_146 J_148 AI_235 AJ mo b nn nr nt cc 0 (hc + 3) := mQ_a hQ (fun hf9 z9 h09 h19 => (hhd hf9).1 z9 h09 (Or.inl (by omega)))
                                          refine lv_aload_n F.1 F.2.1 dX7_joinTold_229 rfl (lv_at hl 7 rfl) ?_
                                          refine z_iconst F dX7_joinTold_230 ?_
                                          refine lv_iload F.1 F.2.1 dX7_joinTold_231 (lv_at hl 4 rfl) ?_
                                          refine g_callv (g_runV (As := [.int (iI 5), .int (iI v_169)]) (rest := []) (ci := 7) F hl.1 hH hS hz (c_X7_sets l g gh T M I_146 R J_148 AI_235 AJ AR mo 5 v_169 ⟨by decide, by decide⟩ zv_169 hv hm hT (by omega) (by omega) (by omega)) (cwV 2 F.2.2.2.2.1 (good_up gT_X7_sets) rfl rfl rfl hdX7_sets ⟨Nat.le_of_ble_eq_true rfl, Nat.le_of_ble_eq_true rfl⟩) hm (by decide) rfl rfl rfl (Nat.le_of_ble_eq_true rfl) dX7_joinTold_233 ⟨Nat.zero_le _, Nat.zero_le _⟩) hS (fun I_239 R_240 J_241 AI_242 AJ_243 AR_244 H locs hp_245 hH hS => ?_)
                                          dsimp only at hp_245
                                          obtain ⟨rfl, rfl, rfl, rfl, rfl, hv, hT, hs1⟩ := hp_245
                                          replace hs1 := hid hs1
                                          have hQ : mQ gh I_146 J_148 AI_242 AJ mo b nn nr nt cc 0 (hc + 3) := mQ_a hQ (fun hf9 z9 h09 h19 => (hs1 hf9).1 z9 h09 (by omega))
                                          have hfin : thn (f, h, 0) (fun t _ => sJoiM b nn nr nt cc t) = (0, hc + 3, (cF b nn nr nt cc h) + jC (pV b nn (hc + 2) :: L) (cF b nn nr nt cc (h + 1)).toNat) := (thn_k q0).trans (by show sJoiM b nn nr nt cc h = _; unfold sJoiM; exact thn_t hS9 rfl (show sEnd b nn ((cF b nn nr nt cc h) + jC (pV b nn (hc + 2) :: L) (cF b nn nr nt cc (h + 1)).toNat) (hc + 3) = _ from ite_n (by omega) rfl))
                                          exact g_vret F hr hlk hH hS hz ⟨rfl, rfl, rfl, hv, hT, pf, by first | (dsimp only; omega) | omega | rfl, by (try dsimp only); intro hf ht hn; have e59 := (mQ_s hQ rfl (c := 59) (by decide)).mp ⟨ht, hn⟩; have qa := hca (by omega); have qb := hcb (by omega); have qc := hcx (by omega); have q5 := hP_s5 (by omega) (hhd (by omega)) (hs1 (by omega)); exact row_mk (by omega) q5.1 (by omega) (by omega) (by omega) (by omega) (fun h => absurd h (by omega)) (fun h => absurd h (by omega)) (fun h => absurd h (by omega)) (fun _ => ⟨by omega, by omega, (hp (by omega)).2, by rw [q5.2]; omega⟩) (fun h => absurd h (by omega)) (fun h => absurd h (by omega)) (fun h => absurd h (by omega)), by (try dsimp only); intro hf; exact (hP_s5 (by omega) (hhd (by omega)) (hs1 (by omega))).1.2.1, by (try dsimp only); rw [hfin]; exact hQ, by (try dsimp only); rw [hfin]; have q9 := (hhd (mQ_0 hQ rfl)).2.2.1; have q8 := (hs1 (mQ_0 hQ rfl)).1 (40 * M + 1) (by omega) (by omega); rw [show M = (nr : Int) by omega] at q9 q8; (try dsimp only); exact pIc_y (by omega)⟩ dX7_joinTold_236
                                        · refine lv_aload_n F.1 F.2.1 dX7_joinTold_214 rfl (lv_at hl 7 rfl) ?_
                                          refine z_iconst F dX7_joinTold_215 ?_
                                          refine g_callv (g_runV (As := [.int (iI 5)]) (rest := []) (ci := 7) F hl.1 hH hS hz (c_X7_wrongf l g gh T b nn nr nt cc 0 (hc + 3) I_146 R J_148 AI_163 AJ AR mo 5 ⟨by decide, by decide⟩ hv hm hT (by omega) h65 hbM hr7 (by omega) hn9 (by omega) hQ) (cwV 1 F.2.2.2.2.1 (good_up gT_X7_wrong) rfl rfl rfl hdX7_wrong ⟨Nat.le_of_ble_eq_true rfl, Nat.le_of_ble_eq_true rfl⟩) hm (by decide) rfl rfl rfl (Nat.le_of_ble_eq_true rfl) dX7_joinTold_216 ⟨Nat.zero_le _, Nat.zero_le _⟩) hS (fun I_246 R_247 J_248 AI_249 AJ_250 AR_251 H locs hp_252 hH hS => ?_)
                                          dsimp only at hp_252
                                          obtain ⟨r_253, er_253⟩ : ∃ qQ : pR, qQ = thn (0, (hc + 3), 0) (fun t _ => (5, t, 0)) := ⟨_, rfl⟩
                                          rw [← er_253] at hp_252
                                          obtain ⟨rfl, rfl, rfl, rfl, rfl, hv, pfq, q_254, hQ⟩ := hp_252
                                          have pf := qF_t pf pfq
                                          have u_255_2 : (I_246 mo 2).toInt = (I mo 2).toInt := by rw [pf 2 (by decide) (by decide) (by decide) (by decide) (by decide)]
                                          have u_255_5 : (I_246 mo 5).toInt = (I mo 5).toInt := by rw [pf 5 (by decide) (by decide) (by decide) (by decide) (by decide)]
                                          have u_255_14 : (I_246 mo 14).toInt = (I mo 14).toInt := by rw [pf 14 (by decide) (by decide) (by decide) (by decide) (by decide)]
                                          have u_255_16 : (I_246 mo 16).toInt = (I mo 16).toInt := by rw [pf 16 (by decide) (by decide) (by decide) (by decide) (by decide)]
                                          have u_255_18 : (I_246 mo 18).toInt = (I mo 18).toInt := by rw [pf 18 (by decide) (by decide) (by decide) (by decide) (by decide)]
                                          have er_253 : r_253 = (5, (hc + 3), 0) := er_253
                                          have hQ : mQ gh I_246 J_148 AI_163 AJ mo b nn nr nt cc 5 (hc + 3) := by rw [er_253] at hQ; exact hQ
                                          have q9_r_253 : (5 : Int) ≠ 0 := by omega
                                          have g9_r_253 := mQ_f hQ q9_r_253
                                          refine lv_aload_n F.1 F.2.1 dX7_joinTold_219 rfl (lv_at hl 7 rfl) ?_
                                          refine z_iconst F dX7_joinTold_220 ?_
                                          refine lv_iload F.1 F.2.1 dX7_joinTold_221 (lv_at hl 1 rfl) ?_
                                          refine lv_iload_n F.1 F.2.1 dX7_joinTold_223 rfl (lv_at hl 6 rfl) ?_
                                          refine lv_iload_n F.1 F.2.1 dX7_joinTold_224 rfl (lv_at hl 5 rfl) ?_
                                          refine lv_iload_n F.1 F.2.1 dX7_joinTold_225 rfl (lv_at hl 3 rfl) ?_
                                          have b_256 := mJ hv hm
                                          unfold mNum1 at b_256
                                          refine g_callv (g_runV (As := [.int (iI 3), .int (iI cl), .int (iI v_62), .int (iI v_76), .int (iI (n + 1))]) (rest := []) (ci := 7) F hl.1 hH hS hz (c_X7_header l g gh T M I_246 R J_148 AI_163 AJ AR mo 3 cl v_62 v_76 (n + 1) ⟨by decide, by decide⟩ zcl zv_62 zv_76 ⟨by omega, by omega⟩ hv hm hT (by omega) (by omega)) (cwV 5 F.2.2.2.2.1 (good_up gT_X7_header) rfl rfl rfl hdX7_header ⟨Nat.le_of_ble_eq_true rfl, Nat.le_of_ble_eq_true rfl⟩) hm (by decide) rfl rfl rfl (Nat.le_of_ble_eq_true rfl) dX7_joinTold_226 ⟨Nat.zero_le _, Nat.zero_le _⟩) hS (fun I_257 R_258 J_259 AI_260 AJ_261 AR_262 H locs hp_263 hH hS => ?_)
                                          dsimp only at hp_263
                                          obtain ⟨rfl, rfl, rfl, rfl, rfl, hv, hT, hhd⟩ := hp_263
                                          replace hhd := hid hhd
                                          have hQ : mQ gh I_246 J_148 AI_260 AJ mo b nn nr nt cc 5 (hc + 3) := mQ_bad hQ (by omega) rfl
                                          refine lv_aload_n F.1 F.2.1 dX7_joinTold_229 rfl (lv_at hl 7 rfl) ?_
                                          refine z_iconst F dX7_joinTold_230 ?_
                                          refine lv_iload F.1 F.2.1 dX7_joinTold_231 (lv_at hl 4 rfl) ?_
                                          refine g_callv (g_runV (As := [.int (iI 5), .int (iI v_169)]) (rest := []) (ci := 7) F hl.1 hH hS hz (c_X7_sets l g gh T M I_246 R J_148 AI_260 AJ AR mo 5 v_169 ⟨by decide, by decide⟩ zv_169 hv hm hT (by omega) (by omega) (by omega)) (cwV 2 F.2.2.2.2.1 (good_up gT_X7_sets) rfl rfl rfl hdX7_sets ⟨Nat.le_of_ble_eq_true rfl, Nat.le_of_ble_eq_true rfl⟩) hm (by decide) rfl rfl rfl (Nat.le_of_ble_eq_true rfl) dX7_joinTold_233 ⟨Nat.zero_le _, Nat.zero_le _⟩) hS (fun I_264 R_265 J_266 AI_267 AJ_268 AR_269 H locs hp_270 hH hS => ?_)
                                          dsimp only at hp_270
                                          obtain ⟨rfl, rfl, rfl, rfl, rfl, hv, hT, hs1⟩ := hp_270
                                          replace hs1 := hid hs1
                                          have hQ : mQ gh I_246 J_148 AI_267 AJ mo b nn nr nt cc 5 (hc + 3) := mQ_bad hQ (by omega) rfl
                                          have hfin : thn (f, h, 0) (fun t _ => sJoiM b nn nr nt cc t) = (5, hc + 3, 0) := (thn_k q0).trans (by show sJoiM b nn nr nt cc h = _; unfold sJoiM; exact thn_t hS9 rfl (show sEnd b nn ((cF b nn nr nt cc h) + jC (pV b nn (hc + 2) :: L) (cF b nn nr nt cc (h + 1)).toNat) (hc + 3) = _ from ite_y (by omega) rfl))
                                          exact g_vret F hr hlk hH hS hz ⟨rfl, rfl, rfl, hv, hT, pf, by first | (dsimp only; omega) | omega | rfl, by (try dsimp only); exact (fun hf => absurd hf (by omega)), by (try dsimp only); exact (fun hf => absurd hf (by omega)), by (try dsimp only); rw [hfin]; exact hQ, by (try dsimp only); rw [hfin]; exact pIc_n (by omega)⟩ dX7_joinTold_236
                                    · refine lv_iload F.1 F.2.1 dX7_joinTold_180 (lv_at hl 4 rfl) ?_
                                      refine lv_iload F.1 F.2.1 dX7_joinTold_182 (lv_at hl 0 rfl) ?_
                                      refine lv_ishr F.1 F.2.1 dX7_joinTold_184 ?_
                                      refine z_top (fun v_271 zv_271 ev_271 => ?_)
                                      refine z_iconst F dX7_joinTold_185 ?_
                                      refine lv_iand F.1 F.2.1 dX7_joinTold_186 ?_
                                      refine z_top (fun v_272 zv_272 ev_272 => ?_)
                                      have hb : v_272 = mBit v_169 d := by rw [ev_272, ev_271]; rfl
                                      have hb01 := mBit01 v_169 d
                                      refine z_if_ne (tgt := 193) F dX7_joinTold_187 (by decide) zv_272 (fun c_273 => ?_) (fun c_273 => ?_)
                                      · refine z_iinc (lv' := [(7, .int (iI (d + 1))), (6, .int (iI cl)), (5, .int (iI v_176)), (3, .int (iI (n + 1))), (4, .int (iI v_169)), (2, .int (iI v_76)), (1, .int (iI v_62)), (0, .ref mo)]) F dX7_joinTold_193 hl (k := 0) rfl (by decide) rfl (fun ls hl => ?_)
                                        refine z_goto (tgt := 170) F dX7_joinTold_196 (by decide) ?_
                                        exact ih170 cl (d + 1) H locs ls zcl ⟨by omega, by omega⟩ (⟨by omega, fun hf => ⟨by have q := hcb hf; omega, by omega, by have q := hcl.2 hf; rw [mCnt_z (by omega) (by omega)]; omega⟩⟩) (by omega) hH hS (lv_sub hl [0, 1, 2, 3, 4, 5, 6, 7] rfl)
                                      · refine z_iinc (lv' := [(6, .int (iI (cl + 1))), (7, .int (iI d)), (5, .int (iI v_176)), (3, .int (iI (n + 1))), (4, .int (iI v_169)), (2, .int (iI v_76)), (1, .int (iI v_62)), (0, .ref mo)]) F dX7_joinTold_190 hl (k := 1) rfl (by decide) rfl (fun ls hl => ?_)
                                        obtain ⟨c9, zc9, ec9, fc9⟩ := z_wrap (cl + 1)
                                        rw [ec9] at hl
                                        refine z_iinc (lv' := [(7, .int (iI (d + 1))), (6, .int (iI c9)), (5, .int (iI v_176)), (3, .int (iI (n + 1))), (4, .int (iI v_169)), (2, .int (iI v_76)), (1, .int (iI v_62)), (0, .ref mo)]) F dX7_joinTold_193 hl (k := 1) rfl (by decide) rfl (fun ls hl => ?_)
                                        refine z_goto (tgt := 170) F dX7_joinTold_196 (by decide) ?_
                                        exact ih170 c9 (d + 1) H locs ls zc9 ⟨by omega, by omega⟩ (⟨by omega, fun hf => ⟨by have q := hcb hf; omega, by omega, by have q := hcl.2 hf; have q1 := hca hf; have q2 := fc9 (by omega); rw [mCnt_s (by omega) (by omega)]; omega⟩⟩) (by omega) hH hS (lv_sub hl [0, 1, 2, 3, 4, 5, 6, 7] rfl)
                                exact cut_170_192 ((((tI (AI_163 (gh 53 0)) (40 * v_76 + 1) - 0).toNat : Int) + 1 : Int).toNat) v_191 0 H locs ls zv_191 ⟨by decide, by decide⟩ (⟨by omega, fun hf => ⟨by omega, by have q := hcb hf; omega, by show _ = _ + (0 : Int); omega⟩⟩) (by omega) hH hS (lv_sub hl [0, 1, 2, 3, 4, 5, 6, 7] rfl)
                              · exact absurd trivial (by omega)
                            · have t_274 := tIz_y q_179 (by omega)
                              refine lv_aload_n F.1 F.2.1 dX7_joinTold_153 rfl (lv_at hl 7 rfl) ?_
                              refine g_callv (g_runV (As := []) (rest := []) (ci := 7) F hl.1 hH hS hz (c_X7_nextf l g gh T b nn (tNd b nn (tPs b nn (hc + 3))) I_146 R J_148 AI_163 AJ AR mo hv hm hT (by omega) (mTp hv h65 hbM) hr7 (by omega) (by omega) (mQ_e0 hQ) tNd_le.1) (cwV 0 F.2.2.2.2.1 (good_up gT_X7_next) rfl rfl rfl hdX7_next ⟨Nat.le_of_ble_eq_true rfl, Nat.le_of_ble_eq_true rfl⟩) hm (by decide) rfl rfl rfl (Nat.le_of_ble_eq_true rfl) dX7_joinTold_154 ⟨Nat.zero_le _, Nat.zero_le _⟩) hS (fun I_275 R_276 J_277 AI_278 AJ_279 AR_280 H locs hp_281 hH hS => ?_)
                              dsimp only at hp_281
                              obtain ⟨rfl, rfl, rfl, rfl, hv, pfq, q_282, nx4, nxa, nxb⟩ := hp_281
                              have pf := qF_t pf pfq
                              have u_283_2 : (I_275 mo 2).toInt = (I mo 2).toInt := by rw [pf 2 (by decide) (by decide) (by decide) (by decide) (by decide)]
                              have u_283_5 : (I_275 mo 5).toInt = (I mo 5).toInt := by rw [pf 5 (by decide) (by decide) (by decide) (by decide) (by decide)]
                              have u_283_14 : (I_275 mo 14).toInt = (I mo 14).toInt := by rw [pf 14 (by decide) (by decide) (by decide) (by decide) (by decide)]
                              have u_283_16 : (I_275 mo 16).toInt = (I mo 16).toInt := by rw [pf 16 (by decide) (by decide) (by decide) (by decide) (by decide)]
                              have u_283_18 : (I_275 mo 18).toInt = (I mo 18).toInt := by rw [pf 18 (by decide) (by decide) (by decide) (by decide) (by decide)]
                              have hQ : mQ gh I_275 J_277 AI_163 AJ mo b nn nr nt cc 0 (hc + 4) := mQ_nx hQ nx4 nxa
                              clear nxa nxb
                              have hTs : sPair b nn (cF b nn nr nt cc h) (cF b nn nr nt cc (h + 1)) n 4 hc = (0, hc + 3, pV b nn (hc + 2)) := sPair_ok (by omega) (by omega) (by omega) (by omega)
                              have hsq := sPairs_go hsq (f := (4 - n).toNat) (by omega) hTs.symm rfl (by omega)
                              refine z_goto (tgt := 24) F dX7_joinTold_157 (by decide) ?_
                              exact ih24 (n + 1) v_169 v_176 I_275 J_277 AI_163 H locs ls ⟨by omega, by omega⟩ zv_169 zv_176 hv hT pf (by omega) ((fun hf => ⟨by omega, joinP_step (by omega) (hp (by omega)).2 (hsp (by omega)) (by omega) (by omega)⟩)) ⟨_, _, hQ, by rw [show (5 - (n + 1)).toNat = (4 - n).toNat by omega]; exact hsq, hcn⟩ (by omega) (by omega) hH hS (lv_sub hl [0, 2, 1, 5, 6, 7] rfl)
                        · have hQ : mQ gh I_146 J_148 AI_96 AJ mo b nn nr nt cc (pCf b nn (cF b nn nr nt cc (h + 1)) (hc + 2)) (hc + 2) := by rw [er_154] at hQ; exact hQ
                          have sr_154 := sr_154.symm.trans er_154
                          have g9r_154 := mQ_f hQ (by omega)
                          replace q_156 := hid q_156
                          obtain ⟨f2, ef2⟩ : ∃ q, q = (I_146 mo 24).toInt := ⟨_, rfl⟩
                          have hd1 : Hid (f2 = 0 → 0 ≤ v_152 ∧ v_152 ≤ 3) := fun h9 => by omega
                          refine lv_istore (lv' := [(7, .int (iI v_152)), (6, .int (iI v_117)), (5, .int (iI mr)), (4, .int (iI gn)), (3, .int (iI n)), (2, .int (iI v_76)), (1, .int (iI v_62)), (0, .ref mo)]) F.1 F.2.1 dX7_joinTold_108 hl (by decide) rfl (fun ls hl => ?_)
                          refine lv_aload_n F.1 F.2.1 dX7_joinTold_110 rfl (lv_at hl 7 rfl) ?_
                          refine lv_iload_n F.1 F.2.1 dX7_joinTold_111 rfl (lv_at hl 4 rfl) ?_
                          refine lv_iload F.1 F.2.1 dX7_joinTold_112 (lv_at hl 1 rfl) ?_
                          refine lv_iload F.1 F.2.1 dX7_joinTold_114 (lv_at hl 0 rfl) ?_
                          refine z_iconst F dX7_joinTold_116 ?_
                          refine z_iconst F dX7_joinTold_117 ?_
                          have b_284 := mJ hv hm
                          unfold mNum1 at b_284
                          refine g_callv (g_runV (As := [.int (iI n), .int (iI v_117), .int (iI v_152), .int (iI 0), .int (iI 0)]) (rest := []) (ci := 7) F hl.1 hH hS hz (c_X7_setsPart l g gh T M I_146 R J_148 AI_96 AJ AR mo n v_117 v_152 0 0 zn zv_117 zv_152 ⟨by decide, by decide⟩ ⟨by decide, by decide⟩ hv hm hT (by omega) (by omega) (by omega)) (cwV 5 F.2.2.2.2.1 (good_up gT_X7_setsPart) rfl rfl rfl hdX7_setsPart ⟨Nat.le_of_ble_eq_true rfl, Nat.le_of_ble_eq_true rfl⟩) hm (by decide) rfl rfl rfl (Nat.le_of_ble_eq_true rfl) dX7_joinTold_118 ⟨Nat.zero_le _, Nat.zero_le _⟩) hS (fun I_285 R_286 J_287 AI_288 AJ_289 AR_290 H locs hp_291 hH hS => ?_)
                          dsimp only at hp_291
                          obtain ⟨rfl, rfl, rfl, rfl, rfl, hv, hT, hsp⟩ := hp_291
                          replace hsp := hid hsp
                          have hQ : mQ gh I_146 J_148 AI_288 AJ mo b nn nr nt cc (pCf b nn (cF b nn nr nt cc (h + 1)) (hc + 2)) (hc + 2) := mQ_bad hQ (by omega) rfl
                          refine lv_aload_n F.1 F.2.1 dX7_joinTold_121 rfl (lv_at hl 7 rfl) ?_
                          refine g_getI (ci := 7) (k := 24) F hH rfl (by decide) iX7 hm (by decide) rfl k81 dX7_joinTold_122 ?_
                          refine z_if_ne (tgt := 137) F dX7_joinTold_125 (by decide) (zr_t _) (fun c_292 => ?_) (fun c_292 => ?_)
                          · refine z_iinc (lv' := [(3, .int (iI (n + 1))), (7, .int (iI v_152)), (6, .int (iI v_117)), (5, .int (iI mr)), (4, .int (iI gn)), (2, .int (iI v_76)), (1, .int (iI v_62)), (0, .ref mo)]) F dX7_joinTold_137 hl (k := 4) rfl (by decide) rfl (fun ls hl => ?_)
                            refine lv_aload_n F.1 F.2.1 dX7_joinTold_140 rfl (lv_at hl 7 rfl) ?_
                            refine z_bipush F dX7_joinTold_141 (by decide) ?_
                            refine g_calli (g_runV (As := [.int (iI 44)]) (rest := []) (ci := 7) F hl.1 hH hS hz (c_X7_isSignf l g gh T b nn nr nt cc (pCf b nn (cF b nn nr nt cc (h + 1)) (hc + 2)) (hc + 2) I_146 R J_148 AI_288 AJ AR mo 44 ⟨by decide, by decide⟩ hv hm hT h65 hbM hr7 (by omega) hn9 (by omega) (by omega) hQ) (cwV 1 F.2.2.2.2.1 (good_up gT_X7_isSign) rfl rfl rfl hdX7_isSign ⟨Nat.le_of_ble_eq_true rfl, Nat.le_of_ble_eq_true rfl⟩) hm (by decide) rfl rfl rfl (Nat.le_of_ble_eq_true rfl) dX7_joinTold_143 ⟨Nat.zero_le _, Nat.zero_le _⟩) hS (fun v_299 I_293 R_294 J_295 AI_296 AJ_297 AR_298 H locs zv_299 hp_300 hH hS => ?_)
                            dsimp only at hp_300
                            obtain ⟨rfl, rfl, rfl, rfl, rfl, rfl, q_301, q_302⟩ := hp_300
                            replace q_301 := q_301.1
                            refine lv_istore (lv' := [(5, .int (iI v_299)), (3, .int (iI (n + 1))), (7, .int (iI v_152)), (6, .int (iI v_117)), (4, .int (iI gn)), (2, .int (iI v_76)), (1, .int (iI v_62)), (0, .ref mo)]) F.1 F.2.1 dX7_joinTold_146 hl (by decide) rfl (fun ls hl => ?_)
                            refine lv_iload F.1 F.2.1 dX7_joinTold_148 (lv_at hl 0 rfl) ?_
                            refine z_if_eq (tgt := 157) F dX7_joinTold_150 (by decide) zv_299 (fun c_303 => ?_) (fun c_303 => ?_)
                            · have t_304 := tIz_0 q_302 (by omega)
                              refine z_goto (tgt := 24) F dX7_joinTold_157 (by decide) ?_
                              refine lv_iload F.1 F.2.1 dX7_joinTold_24 (lv_at hl 0 rfl) ?_
                              refine z_if_eq (tgt := 160) F dX7_joinTold_26 (by decide) zv_299 (fun c_305 => ?_) (fun c_305 => ?_)
                              · have t_306 := tIz_0 q_302 (by omega)
                                have hTs : sPair b nn (cF b nn nr nt cc h) (cF b nn nr nt cc (h + 1)) n 4 hc = (pCf b nn (cF b nn nr nt cc (h + 1)) (hc + 2), hc + 2, 0) := sPair_v (by omega) (by omega) (by omega) (by omega)
                                have hS9 : sJoi b nn nr nt cc h = (pCf b nn (cF b nn nr nt cc (h + 1)) (hc + 2), hc + 2, 0) := sPairs_no hsq (f := (4 - n).toNat) (by omega) hTs.symm (by omega)
                                have hfin : thn (f, h, 0) (fun t _ => sJoiM b nn nr nt cc t) = (pCf b nn (cF b nn nr nt cc (h + 1)) (hc + 2), hc + 2, 0) := (thn_k q0).trans (by show sJoiM b nn nr nt cc h = _; unfold sJoiM; exact thn_x hS9.symm (by omega))
                                exact cut_160_3 v_62 v_76 (n + 1) gn I_146 J_148 AI_288 H locs ls zv_62 zv_76 ⟨by omega, by omega⟩ zgn hv hT pf ⟨_, _, by omega, hQ, hfin⟩ (by omega) (by omega) hH hS (lv_sub hl [7, 6, 5, 1, 4] rfl)
                              · exact absurd trivial (by omega)
                            · exact absurd (tIz_1 q_302 (by omega)).1 (by omega)
                          · exact absurd (mQ_z hQ (by omega)) (by omega)
                      · have hQ : mQ gh I_125 J_127 AI_96 AJ mo b nn nr nt cc 1 (hc + 1) := by rw [er_132] at hQ; exact hQ
                        have sr_132 := sr_132.symm.trans er_132
                        have g9r_132 := mQ_f hQ (by omega)
                        replace q_134 := hid q_134
                        refine lv_aload_n F.1 F.2.1 dX7_joinTold_99 rfl (lv_at hl 6 rfl) ?_
                        refine lv_aload_n F.1 F.2.1 dX7_joinTold_100 rfl (lv_at hl 6 rfl) ?_
                        refine lv_iload_n F.1 F.2.1 dX7_joinTold_101 rfl (lv_at hl 4 rfl) ?_
                        have b_308 := mJ hv hm
                        unfold mNum1 at b_308
                        refine g_calli (g_runV (As := [.int (iI v_76)]) (rest := [.ref mo]) (ci := 7) F hl.1 hH hS hz (c_X7_columns l g gh T I_125 R J_127 AI_96 AJ AR mo v_76 zv_76 hv hm hT (by omega)) (cwV 1 F.2.2.2.2.1 (good_up gT_X7_columns) rfl rfl rfl hdX7_columns ⟨Nat.le_of_ble_eq_true rfl, Nat.le_of_ble_eq_true rfl⟩) hm (by decide) rfl rfl rfl (Nat.le_of_ble_eq_true rfl) dX7_joinTold_102 ⟨Nat.zero_le _, Nat.zero_le _⟩) hS (fun v_315 I_309 R_310 J_311 AI_312 AJ_313 AR_314 H locs zv_315 hp_316 hH hS => ?_)
                        dsimp only at hp_316
                        obtain ⟨rfl, rfl, rfl, rfl, rfl, rfl, q_307⟩ := hp_316
                        refine g_calli (g_runV (As := [.int (iI v_315)]) (rest := []) (ci := 7) F hl.1 hH hS hz (c_X7_columnf l g gh T b nn nr nt cc 1 (hc + 1) I_125 R J_127 AI_96 AJ AR mo v_315 zv_315 hv hm hT (by omega) h65 hbM hr7 (by omega) hn9 (by omega) hQ) (cwV 1 F.2.2.2.2.1 (good_up gT_X7_column) rfl rfl rfl hdX7_column ⟨Nat.le_of_ble_eq_true rfl, Nat.le_of_ble_eq_true rfl⟩) hm (by decide) rfl rfl rfl (Nat.le_of_ble_eq_true rfl) dX7_joinTold_105 ⟨Nat.zero_le _, Nat.zero_le _⟩) hS (fun v_323 I_317 R_318 J_319 AI_320 AJ_321 AR_322 H locs zv_323 hp_324 hH hS => ?_)
                        dsimp only at hp_324
                        obtain ⟨r_325, er_325⟩ : ∃ qQ : pR, qQ = thn (1, (hc + 1), 0) (fun t _ => sCol b nn v_315 t) := ⟨_, rfl⟩
                        rw [← er_325] at hp_324
                        obtain ⟨rfl, rfl, rfl, rfl, hv, pfq, q_326, q_327, hQ, q_328⟩ := hp_324
                        have pf := qF_t pf pfq
                        have u_329_2 : (I_317 mo 2).toInt = (I mo 2).toInt := by rw [pf 2 (by decide) (by decide) (by decide) (by decide) (by decide)]
                        have u_329_5 : (I_317 mo 5).toInt = (I mo 5).toInt := by rw [pf 5 (by decide) (by decide) (by decide) (by decide) (by decide)]
                        have u_329_14 : (I_317 mo 14).toInt = (I mo 14).toInt := by rw [pf 14 (by decide) (by decide) (by decide) (by decide) (by decide)]
                        have u_329_16 : (I_317 mo 16).toInt = (I mo 16).toInt := by rw [pf 16 (by decide) (by decide) (by decide) (by decide) (by decide)]
                        have u_329_18 : (I_317 mo 18).toInt = (I mo 18).toInt := by rw [pf 18 (by decide) (by decide) (by decide) (by decide) (by decide)]
                        rw [thn_b (by omega)] at er_325
                        have hQ : mQ gh I_317 J_319 AI_96 AJ mo b nn nr nt cc 1 (hc + 1) := by rw [er_325] at hQ; exact hQ
                        replace q_327 := hid q_327
                        obtain ⟨f2, ef2⟩ : ∃ q, q = (I_317 mo 24).toInt := ⟨_, rfl⟩
                        have hd1 : Hid (f2 = 0 → 0 ≤ v_323 ∧ v_323 ≤ 3) := fun h9 => by omega
                        refine lv_istore (lv' := [(7, .int (iI v_323)), (6, .int (iI v_117)), (5, .int (iI mr)), (4, .int (iI gn)), (3, .int (iI n)), (2, .int (iI v_76)), (1, .int (iI v_62)), (0, .ref mo)]) F.1 F.2.1 dX7_joinTold_108 hl (by decide) rfl (fun ls hl => ?_)
                        refine lv_aload_n F.1 F.2.1 dX7_joinTold_110 rfl (lv_at hl 7 rfl) ?_
                        refine lv_iload_n F.1 F.2.1 dX7_joinTold_111 rfl (lv_at hl 4 rfl) ?_
                        refine lv_iload F.1 F.2.1 dX7_joinTold_112 (lv_at hl 1 rfl) ?_
                        refine lv_iload F.1 F.2.1 dX7_joinTold_114 (lv_at hl 0 rfl) ?_
                        refine z_iconst F dX7_joinTold_116 ?_
                        refine z_iconst F dX7_joinTold_117 ?_
                        have b_330 := mJ hv hm
                        unfold mNum1 at b_330
                        refine g_callv (g_runV (As := [.int (iI n), .int (iI v_117), .int (iI v_323), .int (iI 0), .int (iI 0)]) (rest := []) (ci := 7) F hl.1 hH hS hz (c_X7_setsPart l g gh T M I_317 R J_319 AI_96 AJ AR mo n v_117 v_323 0 0 zn zv_117 zv_323 ⟨by decide, by decide⟩ ⟨by decide, by decide⟩ hv hm hT (by omega) (by omega) (by omega)) (cwV 5 F.2.2.2.2.1 (good_up gT_X7_setsPart) rfl rfl rfl hdX7_setsPart ⟨Nat.le_of_ble_eq_true rfl, Nat.le_of_ble_eq_true rfl⟩) hm (by decide) rfl rfl rfl (Nat.le_of_ble_eq_true rfl) dX7_joinTold_118 ⟨Nat.zero_le _, Nat.zero_le _⟩) hS (fun I_331 R_332 J_333 AI_334 AJ_335 AR_336 H locs hp_337 hH hS => ?_)
                        dsimp only at hp_337
                        obtain ⟨rfl, rfl, rfl, rfl, rfl, hv, hT, hsp⟩ := hp_337
                        replace hsp := hid hsp
                        have hQ : mQ gh I_317 J_319 AI_334 AJ mo b nn nr nt cc 1 (hc + 1) := mQ_bad hQ (by omega) rfl
                        refine lv_aload_n F.1 F.2.1 dX7_joinTold_121 rfl (lv_at hl 7 rfl) ?_
                        refine g_getI (ci := 7) (k := 24) F hH rfl (by decide) iX7 hm (by decide) rfl k81 dX7_joinTold_122 ?_
                        refine z_if_ne (tgt := 137) F dX7_joinTold_125 (by decide) (zr_t _) (fun c_338 => ?_) (fun c_338 => ?_)
                        · refine z_iinc (lv' := [(3, .int (iI (n + 1))), (7, .int (iI v_323)), (6, .int (iI v_117)), (5, .int (iI mr)), (4, .int (iI gn)), (2, .int (iI v_76)), (1, .int (iI v_62)), (0, .ref mo)]) F dX7_joinTold_137 hl (k := 4) rfl (by decide) rfl (fun ls hl => ?_)
                          refine lv_aload_n F.1 F.2.1 dX7_joinTold_140 rfl (lv_at hl 7 rfl) ?_
                          refine z_bipush F dX7_joinTold_141 (by decide) ?_
                          refine g_calli (g_runV (As := [.int (iI 44)]) (rest := []) (ci := 7) F hl.1 hH hS hz (c_X7_isSignf l g gh T b nn nr nt cc 1 (hc + 1) I_317 R J_319 AI_334 AJ AR mo 44 ⟨by decide, by decide⟩ hv hm hT h65 hbM hr7 (by omega) hn9 (by omega) (by omega) hQ) (cwV 1 F.2.2.2.2.1 (good_up gT_X7_isSign) rfl rfl rfl hdX7_isSign ⟨Nat.le_of_ble_eq_true rfl, Nat.le_of_ble_eq_true rfl⟩) hm (by decide) rfl rfl rfl (Nat.le_of_ble_eq_true rfl) dX7_joinTold_143 ⟨Nat.zero_le _, Nat.zero_le _⟩) hS (fun v_345 I_339 R_340 J_341 AI_342 AJ_343 AR_344 H locs zv_345 hp_346 hH hS => ?_)
                          dsimp only at hp_346
                          obtain ⟨rfl, rfl, rfl, rfl, rfl, rfl, q_347, q_348⟩ := hp_346
                          replace q_347 := q_347.1
                          refine lv_istore (lv' := [(5, .int (iI v_345)), (3, .int (iI (n + 1))), (7, .int (iI v_323)), (6, .int (iI v_117)), (4, .int (iI gn)), (2, .int (iI v_76)), (1, .int (iI v_62)), (0, .ref mo)]) F.1 F.2.1 dX7_joinTold_146 hl (by decide) rfl (fun ls hl => ?_)
                          refine lv_iload F.1 F.2.1 dX7_joinTold_148 (lv_at hl 0 rfl) ?_
                          refine z_if_eq (tgt := 157) F dX7_joinTold_150 (by decide) zv_345 (fun c_349 => ?_) (fun c_349 => ?_)
                          · have t_350 := tIz_0 q_348 (by omega)
                            refine z_goto (tgt := 24) F dX7_joinTold_157 (by decide) ?_
                            refine lv_iload F.1 F.2.1 dX7_joinTold_24 (lv_at hl 0 rfl) ?_
                            refine z_if_eq (tgt := 160) F dX7_joinTold_26 (by decide) zv_345 (fun c_351 => ?_) (fun c_351 => ?_)
                            · have t_352 := tIz_0 q_348 (by omega)
                              have hTs : sPair b nn (cF b nn nr nt cc h) (cF b nn nr nt cc (h + 1)) n 4 hc = (1, hc + 1, 0) := sPair_1 (by omega) (by omega) (by omega)
                              have hS9 : sJoi b nn nr nt cc h = (1, hc + 1, 0) := sPairs_no hsq (f := (4 - n).toNat) (by omega) hTs.symm (by omega)
                              have hfin : thn (f, h, 0) (fun t _ => sJoiM b nn nr nt cc t) = (1, hc + 1, 0) := (thn_k q0).trans (by show sJoiM b nn nr nt cc h = _; unfold sJoiM; exact thn_x hS9.symm (by omega))
                              exact cut_160_3 v_62 v_76 (n + 1) gn I_317 J_319 AI_334 H locs ls zv_62 zv_76 ⟨by omega, by omega⟩ zgn hv hT pf ⟨_, _, by omega, hQ, hfin⟩ (by omega) (by omega) hH hS (lv_sub hl [7, 6, 5, 1, 4] rfl)
                            · exact absurd trivial (by omega)
                          · exact absurd (tIz_1 q_348 (by omega)).1 (by omega)
                        · exact absurd (mQ_z hQ (by omega)) (by omega)
                    · have hQ : mQ gh I_111 J_113 AI_96 AJ mo b nn nr nt cc (pCf b nn (cF b nn nr nt cc h) hc) hc := by rw [er_119] at hQ; exact hQ
                      have sr_119 := sr_119.symm.trans er_119
                      have g9r_119 := mQ_f hQ (by omega)
                      replace q_121 := hid q_121
                      obtain ⟨f1, ef1⟩ : ∃ q, q = (I_111 mo 24).toInt := ⟨_, rfl⟩
                      have hc1 : Hid (f1 = 0 → 0 ≤ v_117 ∧ v_117 ≤ 3) := fun h9 => by omega
                      refine lv_istore (lv' := [(6, .int (iI v_117)), (5, .int (iI mr)), (4, .int (iI gn)), (3, .int (iI n)), (2, .int (iI v_76)), (1, .int (iI v_62)), (0, .ref mo)]) F.1 F.2.1 dX7_joinTold_91 hl (by decide) rfl (fun ls hl => ?_)
                      refine lv_aload_n F.1 F.2.1 dX7_joinTold_93 rfl (lv_at hl 6 rfl) ?_
                      refine z_bipush F dX7_joinTold_94 (by decide) ?_
                      have b_353 := mJ hv hm
                      unfold mNum1 at b_353
                      refine g_callv (g_runV (As := [.int (iI 61)]) (rest := []) (ci := 7) F hl.1 hH hS hz (c_X7_mustSignf l g gh T b nn nr nt cc (pCf b nn (cF b nn nr nt cc h) hc) hc I_111 R J_113 AI_96 AJ AR mo 61 ⟨by decide, by decide⟩ hv hm hT (by omega) h65 hbM hr7 (by omega) hn9 (by omega) (by omega) hQ) (cwV 1 F.2.2.2.2.1 (good_up gT_X7_mustSign) rfl rfl rfl hdX7_mustSign ⟨Nat.le_of_ble_eq_true rfl, Nat.le_of_ble_eq_true rfl⟩) hm (by decide) rfl rfl rfl (Nat.le_of_ble_eq_true rfl) dX7_joinTold_96 ⟨Nat.zero_le _, Nat.zero_le _⟩) hS (fun I_354 R_355 J_356 AI_357 AJ_358 AR_359 H locs hp_360 hH hS => ?_)
                      dsimp only at hp_360
                      obtain ⟨r_361, er_361⟩ : ∃ qQ : pR, qQ = thn ((pCf b nn (cF b nn nr nt cc h) hc), hc, 0) (fun t _ => sTk b nn 61 t) := ⟨_, rfl⟩
                      rw [← er_361] at hp_360
                      obtain ⟨rfl, rfl, rfl, rfl, hv, pfq, q_362, q_363, hQ⟩ := hp_360
                      have pf := qF_t pf pfq
                      have u_364_2 : (I_354 mo 2).toInt = (I mo 2).toInt := by rw [pf 2 (by decide) (by decide) (by decide) (by decide) (by decide)]
                      have u_364_5 : (I_354 mo 5).toInt = (I mo 5).toInt := by rw [pf 5 (by decide) (by decide) (by decide) (by decide) (by decide)]
                      have u_364_14 : (I_354 mo 14).toInt = (I mo 14).toInt := by rw [pf 14 (by decide) (by decide) (by decide) (by decide) (by decide)]
                      have u_364_16 : (I_354 mo 16).toInt = (I mo 16).toInt := by rw [pf 16 (by decide) (by decide) (by decide) (by decide) (by decide)]
                      have u_364_18 : (I_354 mo 18).toInt = (I mo 18).toInt := by rw [pf 18 (by decide) (by decide) (by decide) (by decide) (by decide)]
                      rw [thn_b (by omega)] at er_361
                      have hQ : mQ gh I_354 J_356 AI_96 AJ mo b nn nr nt cc (pCf b nn (cF b nn nr nt cc h) hc) hc := by rw [er_361] at hQ; exact hQ
                      replace q_363 := hid q_363
                      refine lv_aload_n F.1 F.2.1 dX7_joinTold_99 rfl (lv_at hl 6 rfl) ?_
                      refine lv_aload_n F.1 F.2.1 dX7_joinTold_100 rfl (lv_at hl 6 rfl) ?_
                      refine lv_iload_n F.1 F.2.1 dX7_joinTold_101 rfl (lv_at hl 4 rfl) ?_
                      have b_366 := mJ hv hm
                      unfold mNum1 at b_366
                      refine g_calli (g_runV (As := [.int (iI v_76)]) (rest := [.ref mo]) (ci := 7) F hl.1 hH hS hz (c_X7_columns l g gh T I_354 R J_356 AI_96 AJ AR mo v_76 zv_76 hv hm hT (by omega)) (cwV 1 F.2.2.2.2.1 (good_up gT_X7_columns) rfl rfl rfl hdX7_columns ⟨Nat.le_of_ble_eq_true rfl, Nat.le_of_ble_eq_true rfl⟩) hm (by decide) rfl rfl rfl (Nat.le_of_ble_eq_true rfl) dX7_joinTold_102 ⟨Nat.zero_le _, Nat.zero_le _⟩) hS (fun v_373 I_367 R_368 J_369 AI_370 AJ_371 AR_372 H locs zv_373 hp_374 hH hS => ?_)
                      dsimp only at hp_374
                      obtain ⟨rfl, rfl, rfl, rfl, rfl, rfl, q_365⟩ := hp_374
                      refine g_calli (g_runV (As := [.int (iI v_373)]) (rest := []) (ci := 7) F hl.1 hH hS hz (c_X7_columnf l g gh T b nn nr nt cc (pCf b nn (cF b nn nr nt cc h) hc) hc I_354 R J_356 AI_96 AJ AR mo v_373 zv_373 hv hm hT (by omega) h65 hbM hr7 (by omega) hn9 (by omega) hQ) (cwV 1 F.2.2.2.2.1 (good_up gT_X7_column) rfl rfl rfl hdX7_column ⟨Nat.le_of_ble_eq_true rfl, Nat.le_of_ble_eq_true rfl⟩) hm (by decide) rfl rfl rfl (Nat.le_of_ble_eq_true rfl) dX7_joinTold_105 ⟨Nat.zero_le _, Nat.zero_le _⟩) hS (fun v_381 I_375 R_376 J_377 AI_378 AJ_379 AR_380 H locs zv_381 hp_382 hH hS => ?_)
                      dsimp only at hp_382
                      obtain ⟨r_383, er_383⟩ : ∃ qQ : pR, qQ = thn ((pCf b nn (cF b nn nr nt cc h) hc), hc, 0) (fun t _ => sCol b nn v_373 t) := ⟨_, rfl⟩
                      rw [← er_383] at hp_382
                      obtain ⟨rfl, rfl, rfl, rfl, hv, pfq, q_384, q_385, hQ, q_386⟩ := hp_382
                      have pf := qF_t pf pfq
                      have u_387_2 : (I_375 mo 2).toInt = (I mo 2).toInt := by rw [pf 2 (by decide) (by decide) (by decide) (by decide) (by decide)]
                      have u_387_5 : (I_375 mo 5).toInt = (I mo 5).toInt := by rw [pf 5 (by decide) (by decide) (by decide) (by decide) (by decide)]
                      have u_387_14 : (I_375 mo 14).toInt = (I mo 14).toInt := by rw [pf 14 (by decide) (by decide) (by decide) (by decide) (by decide)]
                      have u_387_16 : (I_375 mo 16).toInt = (I mo 16).toInt := by rw [pf 16 (by decide) (by decide) (by decide) (by decide) (by decide)]
                      have u_387_18 : (I_375 mo 18).toInt = (I mo 18).toInt := by rw [pf 18 (by decide) (by decide) (by decide) (by decide) (by decide)]
                      rw [thn_b (by omega)] at er_383
                      have hQ : mQ gh I_375 J_377 AI_96 AJ mo b nn nr nt cc (pCf b nn (cF b nn nr nt cc h) hc) hc := by rw [er_383] at hQ; exact hQ
                      replace q_385 := hid q_385
                      obtain ⟨f2, ef2⟩ : ∃ q, q = (I_375 mo 24).toInt := ⟨_, rfl⟩
                      have hd1 : Hid (f2 = 0 → 0 ≤ v_381 ∧ v_381 ≤ 3) := fun h9 => by omega
                      refine lv_istore (lv' := [(7, .int (iI v_381)), (6, .int (iI v_117)), (5, .int (iI mr)), (4, .int (iI gn)), (3, .int (iI n)), (2, .int (iI v_76)), (1, .int (iI v_62)), (0, .ref mo)]) F.1 F.2.1 dX7_joinTold_108 hl (by decide) rfl (fun ls hl => ?_)
                      refine lv_aload_n F.1 F.2.1 dX7_joinTold_110 rfl (lv_at hl 7 rfl) ?_
                      refine lv_iload_n F.1 F.2.1 dX7_joinTold_111 rfl (lv_at hl 4 rfl) ?_
                      refine lv_iload F.1 F.2.1 dX7_joinTold_112 (lv_at hl 1 rfl) ?_
                      refine lv_iload F.1 F.2.1 dX7_joinTold_114 (lv_at hl 0 rfl) ?_
                      refine z_iconst F dX7_joinTold_116 ?_
                      refine z_iconst F dX7_joinTold_117 ?_
                      have b_388 := mJ hv hm
                      unfold mNum1 at b_388
                      refine g_callv (g_runV (As := [.int (iI n), .int (iI v_117), .int (iI v_381), .int (iI 0), .int (iI 0)]) (rest := []) (ci := 7) F hl.1 hH hS hz (c_X7_setsPart l g gh T M I_375 R J_377 AI_96 AJ AR mo n v_117 v_381 0 0 zn zv_117 zv_381 ⟨by decide, by decide⟩ ⟨by decide, by decide⟩ hv hm hT (by omega) (by omega) (by omega)) (cwV 5 F.2.2.2.2.1 (good_up gT_X7_setsPart) rfl rfl rfl hdX7_setsPart ⟨Nat.le_of_ble_eq_true rfl, Nat.le_of_ble_eq_true rfl⟩) hm (by decide) rfl rfl rfl (Nat.le_of_ble_eq_true rfl) dX7_joinTold_118 ⟨Nat.zero_le _, Nat.zero_le _⟩) hS (fun I_389 R_390 J_391 AI_392 AJ_393 AR_394 H locs hp_395 hH hS => ?_)
                      dsimp only at hp_395
                      obtain ⟨rfl, rfl, rfl, rfl, rfl, hv, hT, hsp⟩ := hp_395
                      replace hsp := hid hsp
                      have hQ : mQ gh I_375 J_377 AI_392 AJ mo b nn nr nt cc (pCf b nn (cF b nn nr nt cc h) hc) hc := mQ_bad hQ (by omega) rfl
                      refine lv_aload_n F.1 F.2.1 dX7_joinTold_121 rfl (lv_at hl 7 rfl) ?_
                      refine g_getI (ci := 7) (k := 24) F hH rfl (by decide) iX7 hm (by decide) rfl k81 dX7_joinTold_122 ?_
                      refine z_if_ne (tgt := 137) F dX7_joinTold_125 (by decide) (zr_t _) (fun c_396 => ?_) (fun c_396 => ?_)
                      · refine z_iinc (lv' := [(3, .int (iI (n + 1))), (7, .int (iI v_381)), (6, .int (iI v_117)), (5, .int (iI mr)), (4, .int (iI gn)), (2, .int (iI v_76)), (1, .int (iI v_62)), (0, .ref mo)]) F dX7_joinTold_137 hl (k := 4) rfl (by decide) rfl (fun ls hl => ?_)
                        refine lv_aload_n F.1 F.2.1 dX7_joinTold_140 rfl (lv_at hl 7 rfl) ?_
                        refine z_bipush F dX7_joinTold_141 (by decide) ?_
                        refine g_calli (g_runV (As := [.int (iI 44)]) (rest := []) (ci := 7) F hl.1 hH hS hz (c_X7_isSignf l g gh T b nn nr nt cc (pCf b nn (cF b nn nr nt cc h) hc) hc I_375 R J_377 AI_392 AJ AR mo 44 ⟨by decide, by decide⟩ hv hm hT h65 hbM hr7 (by omega) hn9 (by omega) (by omega) hQ) (cwV 1 F.2.2.2.2.1 (good_up gT_X7_isSign) rfl rfl rfl hdX7_isSign ⟨Nat.le_of_ble_eq_true rfl, Nat.le_of_ble_eq_true rfl⟩) hm (by decide) rfl rfl rfl (Nat.le_of_ble_eq_true rfl) dX7_joinTold_143 ⟨Nat.zero_le _, Nat.zero_le _⟩) hS (fun v_403 I_397 R_398 J_399 AI_400 AJ_401 AR_402 H locs zv_403 hp_404 hH hS => ?_)
                        dsimp only at hp_404
                        obtain ⟨rfl, rfl, rfl, rfl, rfl, rfl, q_405, q_406⟩ := hp_404
                        replace q_405 := q_405.1
                        refine lv_istore (lv' := [(5, .int (iI v_403)), (3, .int (iI (n + 1))), (7, .int (iI v_381)), (6, .int (iI v_117)), (4, .int (iI gn)), (2, .int (iI v_76)), (1, .int (iI v_62)), (0, .ref mo)]) F.1 F.2.1 dX7_joinTold_146 hl (by decide) rfl (fun ls hl => ?_)
                        refine lv_iload F.1 F.2.1 dX7_joinTold_148 (lv_at hl 0 rfl) ?_
                        refine z_if_eq (tgt := 157) F dX7_joinTold_150 (by decide) zv_403 (fun c_407 => ?_) (fun c_407 => ?_)
                        · have t_408 := tIz_0 q_406 (by omega)
                          refine z_goto (tgt := 24) F dX7_joinTold_157 (by decide) ?_
                          refine lv_iload F.1 F.2.1 dX7_joinTold_24 (lv_at hl 0 rfl) ?_
                          refine z_if_eq (tgt := 160) F dX7_joinTold_26 (by decide) zv_403 (fun c_409 => ?_) (fun c_409 => ?_)
                          · have t_410 := tIz_0 q_406 (by omega)
                            have hTs : sPair b nn (cF b nn nr nt cc h) (cF b nn nr nt cc (h + 1)) n 4 hc = (pCf b nn (cF b nn nr nt cc h) hc, hc, 0) := sPair_x (by omega)
                            have hS9 : sJoi b nn nr nt cc h = (pCf b nn (cF b nn nr nt cc h) hc, hc, 0) := sPairs_no hsq (f := (4 - n).toNat) (by omega) hTs.symm (by omega)
                            have hfin : thn (f, h, 0) (fun t _ => sJoiM b nn nr nt cc t) = (pCf b nn (cF b nn nr nt cc h) hc, hc, 0) := (thn_k q0).trans (by show sJoiM b nn nr nt cc h = _; unfold sJoiM; exact thn_x hS9.symm (by omega))
                            exact cut_160_3 v_62 v_76 (n + 1) gn I_375 J_377 AI_392 H locs ls zv_62 zv_76 ⟨by omega, by omega⟩ zgn hv hT pf ⟨_, _, by omega, hQ, hfin⟩ (by omega) (by omega) hH hS (lv_sub hl [7, 6, 5, 1, 4] rfl)
                          · exact absurd trivial (by omega)
                        · exact absurd (tIz_1 q_406 (by omega)).1 (by omega)
                      · exact absurd (mQ_z hQ (by omega)) (by omega)
                  · refine lv_aload_n F.1 F.2.1 dX7_joinTold_41 rfl (lv_at hl 5 rfl) ?_
                    refine lv_aload_n F.1 F.2.1 dX7_joinTold_42 rfl (lv_at hl 5 rfl) ?_
                    refine g_getI (ci := 7) (k := 21) F hH rfl (by decide) iX7 hm (by decide) rfl k94 dX7_joinTold_43 ?_
                    refine z_iconst F dX7_joinTold_46 ?_
                    refine z_icmp_ne (tgt := 66) F dX7_joinTold_47 (by decide) (zr_t _) ⟨by decide, by decide⟩ (fun c_411 => ?_) (fun c_411 => ?_)
                    · have t_412 : pK b nn hc ≠ 2 := mQ_kn hQ rfl (c := 1) rfl (by omega)
                      refine lv_aload_n F.1 F.2.1 dX7_joinTold_66 rfl (lv_at hl 5 rfl) ?_
                      refine g_getI (ci := 7) (k := 21) F hH rfl (by decide) iX7 hm (by decide) rfl k94 dX7_joinTold_67 ?_
                      refine z_iconst F dX7_joinTold_70 ?_
                      refine z_icmp_ne (tgt := 78) F dX7_joinTold_71 (by decide) (zr_t _) ⟨by decide, by decide⟩ (fun c_413 => ?_) (fun c_413 => ?_)
                      · have t_414 : pK b nn hc ≠ 2 := mQ_kn hQ rfl (c := 1) rfl (by omega)
                        refine z_iconst F dX7_joinTold_78 ?_
                        refine g_callv (g_runV (As := [.int (iI 1)]) (rest := []) (ci := 7) F hl.1 hH hS hz (c_X7_wrongf l g gh T b nn nr nt cc 0 hc I_94 R J_95 AI_96 AJ AR mo 1 ⟨by decide, by decide⟩ hv hm hT (by omega) h65 hbM hr7 (by omega) hn9 (by omega) hQ) (cwV 1 F.2.2.2.2.1 (good_up gT_X7_wrong) rfl rfl rfl hdX7_wrong ⟨Nat.le_of_ble_eq_true rfl, Nat.le_of_ble_eq_true rfl⟩) hm (by decide) rfl rfl rfl (Nat.le_of_ble_eq_true rfl) dX7_joinTold_79 ⟨Nat.zero_le _, Nat.zero_le _⟩) hS (fun I_415 R_416 J_417 AI_418 AJ_419 AR_420 H locs hp_421 hH hS => ?_)
                        dsimp only at hp_421
                        obtain ⟨r_422, er_422⟩ : ∃ qQ : pR, qQ = thn (0, hc, 0) (fun t _ => (1, t, 0)) := ⟨_, rfl⟩
                        rw [← er_422] at hp_421
                        obtain ⟨rfl, rfl, rfl, rfl, rfl, hv, pfq, q_423, hQ⟩ := hp_421
                        have pf := qF_t pf pfq
                        have u_424_2 : (I_415 mo 2).toInt = (I mo 2).toInt := by rw [pf 2 (by decide) (by decide) (by decide) (by decide) (by decide)]
                        have u_424_5 : (I_415 mo 5).toInt = (I mo 5).toInt := by rw [pf 5 (by decide) (by decide) (by decide) (by decide) (by decide)]
                        have u_424_14 : (I_415 mo 14).toInt = (I mo 14).toInt := by rw [pf 14 (by decide) (by decide) (by decide) (by decide) (by decide)]
                        have u_424_16 : (I_415 mo 16).toInt = (I mo 16).toInt := by rw [pf 16 (by decide) (by decide) (by decide) (by decide) (by decide)]
                        have u_424_18 : (I_415 mo 18).toInt = (I mo 18).toInt := by rw [pf 18 (by decide) (by decide) (by decide) (by decide) (by decide)]
                        have er_422 : r_422 = (1, hc, 0) := er_422
                        have hQ : mQ gh I_415 J_95 AI_96 AJ mo b nn nr nt cc 1 hc := by rw [er_422] at hQ; exact hQ
                        have q9_r_422 : (1 : Int) ≠ 0 := by omega
                        have g9_r_422 := mQ_f hQ q9_r_422
                        refine lv_aload_n F.1 F.2.1 dX7_joinTold_82 rfl (lv_at hl 5 rfl) ?_
                        refine lv_aload_n F.1 F.2.1 dX7_joinTold_83 rfl (lv_at hl 5 rfl) ?_
                        refine lv_iload_n F.1 F.2.1 dX7_joinTold_84 rfl (lv_at hl 4 rfl) ?_
                        have b_426 := mJ hv hm
                        unfold mNum1 at b_426
                        refine g_calli (g_runV (As := [.int (iI v_62)]) (rest := [.ref mo]) (ci := 7) F hl.1 hH hS hz (c_X7_columns l g gh T I_415 R J_95 AI_96 AJ AR mo v_62 zv_62 hv hm hT (by omega)) (cwV 1 F.2.2.2.2.1 (good_up gT_X7_columns) rfl rfl rfl hdX7_columns ⟨Nat.le_of_ble_eq_true rfl, Nat.le_of_ble_eq_true rfl⟩) hm (by decide) rfl rfl rfl (Nat.le_of_ble_eq_true rfl) dX7_joinTold_85 ⟨Nat.zero_le _, Nat.zero_le _⟩) hS (fun v_433 I_427 R_428 J_429 AI_430 AJ_431 AR_432 H locs zv_433 hp_434 hH hS => ?_)
                        dsimp only at hp_434
                        obtain ⟨rfl, rfl, rfl, rfl, rfl, rfl, q_425⟩ := hp_434
                        refine g_calli (g_runV (As := [.int (iI v_433)]) (rest := []) (ci := 7) F hl.1 hH hS hz (c_X7_columnf l g gh T b nn nr nt cc 1 hc I_415 R J_95 AI_96 AJ AR mo v_433 zv_433 hv hm hT (by omega) h65 hbM hr7 (by omega) hn9 (by omega) hQ) (cwV 1 F.2.2.2.2.1 (good_up gT_X7_column) rfl rfl rfl hdX7_column ⟨Nat.le_of_ble_eq_true rfl, Nat.le_of_ble_eq_true rfl⟩) hm (by decide) rfl rfl rfl (Nat.le_of_ble_eq_true rfl) dX7_joinTold_88 ⟨Nat.zero_le _, Nat.zero_le _⟩) hS (fun v_441 I_435 R_436 J_437 AI_438 AJ_439 AR_440 H locs zv_441 hp_442 hH hS => ?_)
                        dsimp only at hp_442
                        obtain ⟨r_443, er_443⟩ : ∃ qQ : pR, qQ = thn (1, hc, 0) (fun t _ => sCol b nn v_433 t) := ⟨_, rfl⟩
                        rw [← er_443] at hp_442
                        obtain ⟨rfl, rfl, rfl, rfl, hv, pfq, q_444, q_445, hQ, q_446⟩ := hp_442
                        have pf := qF_t pf pfq
                        have u_447_2 : (I_435 mo 2).toInt = (I mo 2).toInt := by rw [pf 2 (by decide) (by decide) (by decide) (by decide) (by decide)]
                        have u_447_5 : (I_435 mo 5).toInt = (I mo 5).toInt := by rw [pf 5 (by decide) (by decide) (by decide) (by decide) (by decide)]
                        have u_447_14 : (I_435 mo 14).toInt = (I mo 14).toInt := by rw [pf 14 (by decide) (by decide) (by decide) (by decide) (by decide)]
                        have u_447_16 : (I_435 mo 16).toInt = (I mo 16).toInt := by rw [pf 16 (by decide) (by decide) (by decide) (by decide) (by decide)]
                        have u_447_18 : (I_435 mo 18).toInt = (I mo 18).toInt := by rw [pf 18 (by decide) (by decide) (by decide) (by decide) (by decide)]
                        rw [thn_b (by omega)] at er_443
                        have hQ : mQ gh I_435 J_437 AI_96 AJ mo b nn nr nt cc 1 hc := by rw [er_443] at hQ; exact hQ
                        replace q_445 := hid q_445
                        obtain ⟨f1, ef1⟩ : ∃ q, q = (I_435 mo 24).toInt := ⟨_, rfl⟩
                        have hc1 : Hid (f1 = 0 → 0 ≤ v_441 ∧ v_441 ≤ 3) := fun h9 => by omega
                        refine lv_istore (lv' := [(6, .int (iI v_441)), (5, .int (iI mr)), (4, .int (iI gn)), (3, .int (iI n)), (2, .int (iI v_76)), (1, .int (iI v_62)), (0, .ref mo)]) F.1 F.2.1 dX7_joinTold_91 hl (by decide) rfl (fun ls hl => ?_)
                        refine lv_aload_n F.1 F.2.1 dX7_joinTold_93 rfl (lv_at hl 6 rfl) ?_
                        refine z_bipush F dX7_joinTold_94 (by decide) ?_
                        have b_448 := mJ hv hm
                        unfold mNum1 at b_448
                        refine g_callv (g_runV (As := [.int (iI 61)]) (rest := []) (ci := 7) F hl.1 hH hS hz (c_X7_mustSignf l g gh T b nn nr nt cc 1 hc I_435 R J_437 AI_96 AJ AR mo 61 ⟨by decide, by decide⟩ hv hm hT (by omega) h65 hbM hr7 (by omega) hn9 (by omega) (by omega) hQ) (cwV 1 F.2.2.2.2.1 (good_up gT_X7_mustSign) rfl rfl rfl hdX7_mustSign ⟨Nat.le_of_ble_eq_true rfl, Nat.le_of_ble_eq_true rfl⟩) hm (by decide) rfl rfl rfl (Nat.le_of_ble_eq_true rfl) dX7_joinTold_96 ⟨Nat.zero_le _, Nat.zero_le _⟩) hS (fun I_449 R_450 J_451 AI_452 AJ_453 AR_454 H locs hp_455 hH hS => ?_)
                        dsimp only at hp_455
                        obtain ⟨r_456, er_456⟩ : ∃ qQ : pR, qQ = thn (1, hc, 0) (fun t _ => sTk b nn 61 t) := ⟨_, rfl⟩
                        rw [← er_456] at hp_455
                        obtain ⟨rfl, rfl, rfl, rfl, hv, pfq, q_457, q_458, hQ⟩ := hp_455
                        have pf := qF_t pf pfq
                        have u_459_2 : (I_449 mo 2).toInt = (I mo 2).toInt := by rw [pf 2 (by decide) (by decide) (by decide) (by decide) (by decide)]
                        have u_459_5 : (I_449 mo 5).toInt = (I mo 5).toInt := by rw [pf 5 (by decide) (by decide) (by decide) (by decide) (by decide)]
                        have u_459_14 : (I_449 mo 14).toInt = (I mo 14).toInt := by rw [pf 14 (by decide) (by decide) (by decide) (by decide) (by decide)]
                        have u_459_16 : (I_449 mo 16).toInt = (I mo 16).toInt := by rw [pf 16 (by decide) (by decide) (by decide) (by decide) (by decide)]
                        have u_459_18 : (I_449 mo 18).toInt = (I mo 18).toInt := by rw [pf 18 (by decide) (by decide) (by decide) (by decide) (by decide)]
                        rw [thn_b (by omega)] at er_456
                        have hQ : mQ gh I_449 J_451 AI_96 AJ mo b nn nr nt cc 1 hc := by rw [er_456] at hQ; exact hQ
                        replace q_458 := hid q_458
                        refine lv_aload_n F.1 F.2.1 dX7_joinTold_99 rfl (lv_at hl 6 rfl) ?_
                        refine lv_aload_n F.1 F.2.1 dX7_joinTold_100 rfl (lv_at hl 6 rfl) ?_
                        refine lv_iload_n F.1 F.2.1 dX7_joinTold_101 rfl (lv_at hl 4 rfl) ?_
                        have b_461 := mJ hv hm
                        unfold mNum1 at b_461
                        refine g_calli (g_runV (As := [.int (iI v_76)]) (rest := [.ref mo]) (ci := 7) F hl.1 hH hS hz (c_X7_columns l g gh T I_449 R J_451 AI_96 AJ AR mo v_76 zv_76 hv hm hT (by omega)) (cwV 1 F.2.2.2.2.1 (good_up gT_X7_columns) rfl rfl rfl hdX7_columns ⟨Nat.le_of_ble_eq_true rfl, Nat.le_of_ble_eq_true rfl⟩) hm (by decide) rfl rfl rfl (Nat.le_of_ble_eq_true rfl) dX7_joinTold_102 ⟨Nat.zero_le _, Nat.zero_le _⟩) hS (fun v_468 I_462 R_463 J_464 AI_465 AJ_466 AR_467 H locs zv_468 hp_469 hH hS => ?_)
                        dsimp only at hp_469
                        obtain ⟨rfl, rfl, rfl, rfl, rfl, rfl, q_460⟩ := hp_469
                        refine g_calli (g_runV (As := [.int (iI v_468)]) (rest := []) (ci := 7) F hl.1 hH hS hz (c_X7_columnf l g gh T b nn nr nt cc 1 hc I_449 R J_451 AI_96 AJ AR mo v_468 zv_468 hv hm hT (by omega) h65 hbM hr7 (by omega) hn9 (by omega) hQ) (cwV 1 F.2.2.2.2.1 (good_up gT_X7_column) rfl rfl rfl hdX7_column ⟨Nat.le_of_ble_eq_true rfl, Nat.le_of_ble_eq_true rfl⟩) hm (by decide) rfl rfl rfl (Nat.le_of_ble_eq_true rfl) dX7_joinTold_105 ⟨Nat.zero_le _, Nat.zero_le _⟩) hS (fun v_476 I_470 R_471 J_472 AI_473 AJ_474 AR_475 H locs zv_476 hp_477 hH hS => ?_)
                        dsimp only at hp_477
                        obtain ⟨r_478, er_478⟩ : ∃ qQ : pR, qQ = thn (1, hc, 0) (fun t _ => sCol b nn v_468 t) := ⟨_, rfl⟩
                        rw [← er_478] at hp_477
                        obtain ⟨rfl, rfl, rfl, rfl, hv, pfq, q_479, q_480, hQ, q_481⟩ := hp_477
                        have pf := qF_t pf pfq
                        have u_482_2 : (I_470 mo 2).toInt = (I mo 2).toInt := by rw [pf 2 (by decide) (by decide) (by decide) (by decide) (by decide)]
                        have u_482_5 : (I_470 mo 5).toInt = (I mo 5).toInt := by rw [pf 5 (by decide) (by decide) (by decide) (by decide) (by decide)]
                        have u_482_14 : (I_470 mo 14).toInt = (I mo 14).toInt := by rw [pf 14 (by decide) (by decide) (by decide) (by decide) (by decide)]
                        have u_482_16 : (I_470 mo 16).toInt = (I mo 16).toInt := by rw [pf 16 (by decide) (by decide) (by decide) (by decide) (by decide)]
                        have u_482_18 : (I_470 mo 18).toInt = (I mo 18).toInt := by rw [pf 18 (by decide) (by decide) (by decide) (by decide) (by decide)]
                        rw [thn_b (by omega)] at er_478
                        have hQ : mQ gh I_470 J_472 AI_96 AJ mo b nn nr nt cc 1 hc := by rw [er_478] at hQ; exact hQ
                        replace q_480 := hid q_480
                        obtain ⟨f2, ef2⟩ : ∃ q, q = (I_470 mo 24).toInt := ⟨_, rfl⟩
                        have hd1 : Hid (f2 = 0 → 0 ≤ v_476 ∧ v_476 ≤ 3) := fun h9 => by omega
                        refine lv_istore (lv' := [(7, .int (iI v_476)), (6, .int (iI v_441)), (5, .int (iI mr)), (4, .int (iI gn)), (3, .int (iI n)), (2, .int (iI v_76)), (1, .int (iI v_62)), (0, .ref mo)]) F.1 F.2.1 dX7_joinTold_108 hl (by decide) rfl (fun ls hl => ?_)
                        refine lv_aload_n F.1 F.2.1 dX7_joinTold_110 rfl (lv_at hl 7 rfl) ?_
                        refine lv_iload_n F.1 F.2.1 dX7_joinTold_111 rfl (lv_at hl 4 rfl) ?_
                        refine lv_iload F.1 F.2.1 dX7_joinTold_112 (lv_at hl 1 rfl) ?_
                        refine lv_iload F.1 F.2.1 dX7_joinTold_114 (lv_at hl 0 rfl) ?_
                        refine z_iconst F dX7_joinTold_116 ?_
                        refine z_iconst F dX7_joinTold_117 ?_
                        have b_483 := mJ hv hm
                        unfold mNum1 at b_483
                        refine g_callv (g_runV (As := [.int (iI n), .int (iI v_441), .int (iI v_476), .int (iI 0), .int (iI 0)]) (rest := []) (ci := 7) F hl.1 hH hS hz (c_X7_setsPart l g gh T M I_470 R J_472 AI_96 AJ AR mo n v_441 v_476 0 0 zn zv_441 zv_476 ⟨by decide, by decide⟩ ⟨by decide, by decide⟩ hv hm hT (by omega) (by omega) (by omega)) (cwV 5 F.2.2.2.2.1 (good_up gT_X7_setsPart) rfl rfl rfl hdX7_setsPart ⟨Nat.le_of_ble_eq_true rfl, Nat.le_of_ble_eq_true rfl⟩) hm (by decide) rfl rfl rfl (Nat.le_of_ble_eq_true rfl) dX7_joinTold_118 ⟨Nat.zero_le _, Nat.zero_le _⟩) hS (fun I_484 R_485 J_486 AI_487 AJ_488 AR_489 H locs hp_490 hH hS => ?_)
                        dsimp only at hp_490
                        obtain ⟨rfl, rfl, rfl, rfl, rfl, hv, hT, hsp⟩ := hp_490
                        replace hsp := hid hsp
                        have hQ : mQ gh I_470 J_472 AI_487 AJ mo b nn nr nt cc 1 hc := mQ_bad hQ (by omega) rfl
                        refine lv_aload_n F.1 F.2.1 dX7_joinTold_121 rfl (lv_at hl 7 rfl) ?_
                        refine g_getI (ci := 7) (k := 24) F hH rfl (by decide) iX7 hm (by decide) rfl k81 dX7_joinTold_122 ?_
                        refine z_if_ne (tgt := 137) F dX7_joinTold_125 (by decide) (zr_t _) (fun c_491 => ?_) (fun c_491 => ?_)
                        · refine z_iinc (lv' := [(3, .int (iI (n + 1))), (7, .int (iI v_476)), (6, .int (iI v_441)), (5, .int (iI mr)), (4, .int (iI gn)), (2, .int (iI v_76)), (1, .int (iI v_62)), (0, .ref mo)]) F dX7_joinTold_137 hl (k := 4) rfl (by decide) rfl (fun ls hl => ?_)
                          refine lv_aload_n F.1 F.2.1 dX7_joinTold_140 rfl (lv_at hl 7 rfl) ?_
                          refine z_bipush F dX7_joinTold_141 (by decide) ?_
                          refine g_calli (g_runV (As := [.int (iI 44)]) (rest := []) (ci := 7) F hl.1 hH hS hz (c_X7_isSignf l g gh T b nn nr nt cc 1 hc I_470 R J_472 AI_487 AJ AR mo 44 ⟨by decide, by decide⟩ hv hm hT h65 hbM hr7 (by omega) hn9 (by omega) (by omega) hQ) (cwV 1 F.2.2.2.2.1 (good_up gT_X7_isSign) rfl rfl rfl hdX7_isSign ⟨Nat.le_of_ble_eq_true rfl, Nat.le_of_ble_eq_true rfl⟩) hm (by decide) rfl rfl rfl (Nat.le_of_ble_eq_true rfl) dX7_joinTold_143 ⟨Nat.zero_le _, Nat.zero_le _⟩) hS (fun v_498 I_492 R_493 J_494 AI_495 AJ_496 AR_497 H locs zv_498 hp_499 hH hS => ?_)
                          dsimp only at hp_499
                          obtain ⟨rfl, rfl, rfl, rfl, rfl, rfl, q_500, q_501⟩ := hp_499
                          replace q_500 := q_500.1
                          refine lv_istore (lv' := [(5, .int (iI v_498)), (3, .int (iI (n + 1))), (7, .int (iI v_476)), (6, .int (iI v_441)), (4, .int (iI gn)), (2, .int (iI v_76)), (1, .int (iI v_62)), (0, .ref mo)]) F.1 F.2.1 dX7_joinTold_146 hl (by decide) rfl (fun ls hl => ?_)
                          refine lv_iload F.1 F.2.1 dX7_joinTold_148 (lv_at hl 0 rfl) ?_
                          refine z_if_eq (tgt := 157) F dX7_joinTold_150 (by decide) zv_498 (fun c_502 => ?_) (fun c_502 => ?_)
                          · have t_503 := tIz_0 q_501 (by omega)
                            refine z_goto (tgt := 24) F dX7_joinTold_157 (by decide) ?_
                            refine lv_iload F.1 F.2.1 dX7_joinTold_24 (lv_at hl 0 rfl) ?_
                            refine z_if_eq (tgt := 160) F dX7_joinTold_26 (by decide) zv_498 (fun c_504 => ?_) (fun c_504 => ?_)
                            · have t_505 := tIz_0 q_501 (by omega)
                              have hTs : sPair b nn (cF b nn nr nt cc h) (cF b nn nr nt cc (h + 1)) n 4 hc = (1, hc, 0) := pE1 (sPair_x (c := (cF b nn nr nt cc h)) (pCf_n1 (by omega))) (by omega)
                              have hS9 : sJoi b nn nr nt cc h = (1, hc, 0) := sPairs_no hsq (f := (4 - n).toNat) (by omega) hTs.symm (by omega)
                              have hfin : thn (f, h, 0) (fun t _ => sJoiM b nn nr nt cc t) = (1, hc, 0) := (thn_k q0).trans (by show sJoiM b nn nr nt cc h = _; unfold sJoiM; exact thn_x hS9.symm (by omega))
                              exact cut_160_3 v_62 v_76 (n + 1) gn I_470 J_472 AI_487 H locs ls zv_62 zv_76 ⟨by omega, by omega⟩ zgn hv hT pf ⟨_, _, by omega, hQ, hfin⟩ (by omega) (by omega) hH hS (lv_sub hl [7, 6, 5, 1, 4] rfl)
                            · exact absurd trivial (by omega)
                          · exact absurd (tIz_1 q_501 (by omega)).1 (by omega)
                        · exact absurd (mQ_z hQ (by omega)) (by omega)
                      · exact absurd trivial (by omega)
                    · have t_506 := tkM_1 ((mQ_k hQ rfl).symm.trans (by omega))
                      have t_506v := mQ_v hQ rfl (by omega)
                      have t_506c := pV_c t_506
                      refine lv_aload_n F.1 F.2.1 dX7_joinTold_50 rfl (lv_at hl 5 rfl) ?_
                      refine g_getI (ci := 7) (k := 23) F hH rfl (by decide) iX7 hm (by decide) rfl k97 dX7_joinTold_51 ?_
                      refine lv_aload_n F.1 F.2.1 dX7_joinTold_54 rfl (lv_at hl 5 rfl) ?_
                      refine lv_iload_n F.1 F.2.1 dX7_joinTold_55 rfl (lv_at hl 4 rfl) ?_
                      refine g_calli (g_runV (As := [.int (iI v_62)]) (rest := [.int (iI ((I_94 mo 23).toInt)), .ref mo]) (ci := 7) F hl.1 hH hS hz (c_X7_columns l g gh T I_94 R J_95 AI_96 AJ AR mo v_62 zv_62 hv hm hT (by omega)) (cwV 1 F.2.2.2.2.1 (good_up gT_X7_columns) rfl rfl rfl hdX7_columns ⟨Nat.le_of_ble_eq_true rfl, Nat.le_of_ble_eq_true rfl⟩) hm (by decide) rfl rfl rfl (Nat.le_of_ble_eq_true rfl) dX7_joinTold_56 ⟨Nat.zero_le _, Nat.zero_le _⟩) hS (fun v_514 I_508 R_509 J_510 AI_511 AJ_512 AR_513 H locs zv_514 hp_515 hH hS => ?_)
                      dsimp only at hp_515
                      obtain ⟨rfl, rfl, rfl, rfl, rfl, rfl, q_507⟩ := hp_515
                      have cvv_514 : v_514 = cF b nn nr nt cc h := q_507.trans ((mQ_c hQ rfl vlr_64.1 vlr_64.2.1).trans vlr_64.2.2)
                      refine z_icmp_lt (tgt := 66) F dX7_joinTold_59 (by decide) (zr_t _) zv_514 (fun c_516 => ?_) (fun c_516 => ?_)
                      · refine lv_aload_n F.1 F.2.1 dX7_joinTold_66 rfl (lv_at hl 5 rfl) ?_
                        refine g_getI (ci := 7) (k := 21) F hH rfl (by decide) iX7 hm (by decide) rfl k94 dX7_joinTold_67 ?_
                        refine z_iconst F dX7_joinTold_70 ?_
                        refine z_icmp_ne (tgt := 78) F dX7_joinTold_71 (by decide) (zr_t _) ⟨by decide, by decide⟩ (fun c_517 => ?_) (fun c_517 => ?_)
                        · exact absurd trivial (by omega)
                        · have t_518 := tkM_1 ((mQ_k hQ rfl).symm.trans (by omega))
                          have t_518v := mQ_v hQ rfl (by omega)
                          have t_518c := pV_c t_518
                          refine z_iconst F dX7_joinTold_74 ?_
                          refine z_goto (tgt := 79) F dX7_joinTold_75 (by decide) ?_
                          refine g_callv (g_runV (As := [.int (iI 4)]) (rest := []) (ci := 7) F hl.1 hH hS hz (c_X7_wrongf l g gh T b nn nr nt cc 0 hc I_94 R J_95 AI_96 AJ AR mo 4 ⟨by decide, by decide⟩ hv hm hT (by omega) h65 hbM hr7 (by omega) hn9 (by omega) hQ) (cwV 1 F.2.2.2.2.1 (good_up gT_X7_wrong) rfl rfl rfl hdX7_wrong ⟨Nat.le_of_ble_eq_true rfl, Nat.le_of_ble_eq_true rfl⟩) hm (by decide) rfl rfl rfl (Nat.le_of_ble_eq_true rfl) dX7_joinTold_79 ⟨Nat.zero_le _, Nat.zero_le _⟩) hS (fun I_519 R_520 J_521 AI_522 AJ_523 AR_524 H locs hp_525 hH hS => ?_)
                          dsimp only at hp_525
                          obtain ⟨r_526, er_526⟩ : ∃ qQ : pR, qQ = thn (0, hc, 0) (fun t _ => (4, t, 0)) := ⟨_, rfl⟩
                          rw [← er_526] at hp_525
                          obtain ⟨rfl, rfl, rfl, rfl, rfl, hv, pfq, q_527, hQ⟩ := hp_525
                          have pf := qF_t pf pfq
                          have u_528_2 : (I_519 mo 2).toInt = (I mo 2).toInt := by rw [pf 2 (by decide) (by decide) (by decide) (by decide) (by decide)]
                          have u_528_5 : (I_519 mo 5).toInt = (I mo 5).toInt := by rw [pf 5 (by decide) (by decide) (by decide) (by decide) (by decide)]
                          have u_528_14 : (I_519 mo 14).toInt = (I mo 14).toInt := by rw [pf 14 (by decide) (by decide) (by decide) (by decide) (by decide)]
                          have u_528_16 : (I_519 mo 16).toInt = (I mo 16).toInt := by rw [pf 16 (by decide) (by decide) (by decide) (by decide) (by decide)]
                          have u_528_18 : (I_519 mo 18).toInt = (I mo 18).toInt := by rw [pf 18 (by decide) (by decide) (by decide) (by decide) (by decide)]
                          have er_526 : r_526 = (4, hc, 0) := er_526
                          have hQ : mQ gh I_519 J_95 AI_96 AJ mo b nn nr nt cc 4 hc := by rw [er_526] at hQ; exact hQ
                          have q9_r_526 : (4 : Int) ≠ 0 := by omega
                          have g9_r_526 := mQ_f hQ q9_r_526
                          refine lv_aload_n F.1 F.2.1 dX7_joinTold_82 rfl (lv_at hl 5 rfl) ?_
                          refine lv_aload_n F.1 F.2.1 dX7_joinTold_83 rfl (lv_at hl 5 rfl) ?_
                          refine lv_iload_n F.1 F.2.1 dX7_joinTold_84 rfl (lv_at hl 4 rfl) ?_
                          have b_530 := mJ hv hm
                          unfold mNum1 at b_530
                          refine g_calli (g_runV (As := [.int (iI v_62)]) (rest := [.ref mo]) (ci := 7) F hl.1 hH hS hz (c_X7_columns l g gh T I_519 R J_95 AI_96 AJ AR mo v_62 zv_62 hv hm hT (by omega)) (cwV 1 F.2.2.2.2.1 (good_up gT_X7_columns) rfl rfl rfl hdX7_columns ⟨Nat.le_of_ble_eq_true rfl, Nat.le_of_ble_eq_true rfl⟩) hm (by decide) rfl rfl rfl (Nat.le_of_ble_eq_true rfl) dX7_joinTold_85 ⟨Nat.zero_le _, Nat.zero_le _⟩) hS (fun v_537 I_531 R_532 J_533 AI_534 AJ_535 AR_536 H locs zv_537 hp_538 hH hS => ?_)
                          dsimp only at hp_538
                          obtain ⟨rfl, rfl, rfl, rfl, rfl, rfl, q_529⟩ := hp_538
                          refine g_calli (g_runV (As := [.int (iI v_537)]) (rest := []) (ci := 7) F hl.1 hH hS hz (c_X7_columnf l g gh T b nn nr nt cc 4 hc I_519 R J_95 AI_96 AJ AR mo v_537 zv_537 hv hm hT (by omega) h65 hbM hr7 (by omega) hn9 (by omega) hQ) (cwV 1 F.2.2.2.2.1 (good_up gT_X7_column) rfl rfl rfl hdX7_column ⟨Nat.le_of_ble_eq_true rfl, Nat.le_of_ble_eq_true rfl⟩) hm (by decide) rfl rfl rfl (Nat.le_of_ble_eq_true rfl) dX7_joinTold_88 ⟨Nat.zero_le _, Nat.zero_le _⟩) hS (fun v_545 I_539 R_540 J_541 AI_542 AJ_543 AR_544 H locs zv_545 hp_546 hH hS => ?_)
                          dsimp only at hp_546
                          obtain ⟨r_547, er_547⟩ : ∃ qQ : pR, qQ = thn (4, hc, 0) (fun t _ => sCol b nn v_537 t) := ⟨_, rfl⟩
                          rw [← er_547] at hp_546
                          obtain ⟨rfl, rfl, rfl, rfl, hv, pfq, q_548, q_549, hQ, q_550⟩ := hp_546
                          have pf := qF_t pf pfq
                          have u_551_2 : (I_539 mo 2).toInt = (I mo 2).toInt := by rw [pf 2 (by decide) (by decide) (by decide) (by decide) (by decide)]
                          have u_551_5 : (I_539 mo 5).toInt = (I mo 5).toInt := by rw [pf 5 (by decide) (by decide) (by decide) (by decide) (by decide)]
                          have u_551_14 : (I_539 mo 14).toInt = (I mo 14).toInt := by rw [pf 14 (by decide) (by decide) (by decide) (by decide) (by decide)]
                          have u_551_16 : (I_539 mo 16).toInt = (I mo 16).toInt := by rw [pf 16 (by decide) (by decide) (by decide) (by decide) (by decide)]
                          have u_551_18 : (I_539 mo 18).toInt = (I mo 18).toInt := by rw [pf 18 (by decide) (by decide) (by decide) (by decide) (by decide)]
                          rw [thn_b (by omega)] at er_547
                          have hQ : mQ gh I_539 J_541 AI_96 AJ mo b nn nr nt cc 4 hc := by rw [er_547] at hQ; exact hQ
                          replace q_549 := hid q_549
                          obtain ⟨f1, ef1⟩ : ∃ q, q = (I_539 mo 24).toInt := ⟨_, rfl⟩
                          have hc1 : Hid (f1 = 0 → 0 ≤ v_545 ∧ v_545 ≤ 3) := fun h9 => by omega
                          refine lv_istore (lv' := [(6, .int (iI v_545)), (5, .int (iI mr)), (4, .int (iI gn)), (3, .int (iI n)), (2, .int (iI v_76)), (1, .int (iI v_62)), (0, .ref mo)]) F.1 F.2.1 dX7_joinTold_91 hl (by decide) rfl (fun ls hl => ?_)
                          refine lv_aload_n F.1 F.2.1 dX7_joinTold_93 rfl (lv_at hl 6 rfl) ?_
                          refine z_bipush F dX7_joinTold_94 (by decide) ?_
                          have b_552 := mJ hv hm
                          unfold mNum1 at b_552
                          refine g_callv (g_runV (As := [.int (iI 61)]) (rest := []) (ci := 7) F hl.1 hH hS hz (c_X7_mustSignf l g gh T b nn nr nt cc 4 hc I_539 R J_541 AI_96 AJ AR mo 61 ⟨by decide, by decide⟩ hv hm hT (by omega) h65 hbM hr7 (by omega) hn9 (by omega) (by omega) hQ) (cwV 1 F.2.2.2.2.1 (good_up gT_X7_mustSign) rfl rfl rfl hdX7_mustSign ⟨Nat.le_of_ble_eq_true rfl, Nat.le_of_ble_eq_true rfl⟩) hm (by decide) rfl rfl rfl (Nat.le_of_ble_eq_true rfl) dX7_joinTold_96 ⟨Nat.zero_le _, Nat.zero_le _⟩) hS (fun I_553 R_554 J_555 AI_556 AJ_557 AR_558 H locs hp_559 hH hS => ?_)
                          dsimp only at hp_559
                          obtain ⟨r_560, er_560⟩ : ∃ qQ : pR, qQ = thn (4, hc, 0) (fun t _ => sTk b nn 61 t) := ⟨_, rfl⟩
                          rw [← er_560] at hp_559
                          obtain ⟨rfl, rfl, rfl, rfl, hv, pfq, q_561, q_562, hQ⟩ := hp_559
                          have pf := qF_t pf pfq
                          have u_563_2 : (I_553 mo 2).toInt = (I mo 2).toInt := by rw [pf 2 (by decide) (by decide) (by decide) (by decide) (by decide)]
                          have u_563_5 : (I_553 mo 5).toInt = (I mo 5).toInt := by rw [pf 5 (by decide) (by decide) (by decide) (by decide) (by decide)]
                          have u_563_14 : (I_553 mo 14).toInt = (I mo 14).toInt := by rw [pf 14 (by decide) (by decide) (by decide) (by decide) (by decide)]
                          have u_563_16 : (I_553 mo 16).toInt = (I mo 16).toInt := by rw [pf 16 (by decide) (by decide) (by decide) (by decide) (by decide)]
                          have u_563_18 : (I_553 mo 18).toInt = (I mo 18).toInt := by rw [pf 18 (by decide) (by decide) (by decide) (by decide) (by decide)]
                          rw [thn_b (by omega)] at er_560
                          have hQ : mQ gh I_553 J_555 AI_96 AJ mo b nn nr nt cc 4 hc := by rw [er_560] at hQ; exact hQ
                          replace q_562 := hid q_562
                          refine lv_aload_n F.1 F.2.1 dX7_joinTold_99 rfl (lv_at hl 6 rfl) ?_
                          refine lv_aload_n F.1 F.2.1 dX7_joinTold_100 rfl (lv_at hl 6 rfl) ?_
                          refine lv_iload_n F.1 F.2.1 dX7_joinTold_101 rfl (lv_at hl 4 rfl) ?_
                          have b_565 := mJ hv hm
                          unfold mNum1 at b_565
                          refine g_calli (g_runV (As := [.int (iI v_76)]) (rest := [.ref mo]) (ci := 7) F hl.1 hH hS hz (c_X7_columns l g gh T I_553 R J_555 AI_96 AJ AR mo v_76 zv_76 hv hm hT (by omega)) (cwV 1 F.2.2.2.2.1 (good_up gT_X7_columns) rfl rfl rfl hdX7_columns ⟨Nat.le_of_ble_eq_true rfl, Nat.le_of_ble_eq_true rfl⟩) hm (by decide) rfl rfl rfl (Nat.le_of_ble_eq_true rfl) dX7_joinTold_102 ⟨Nat.zero_le _, Nat.zero_le _⟩) hS (fun v_572 I_566 R_567 J_568 AI_569 AJ_570 AR_571 H locs zv_572 hp_573 hH hS => ?_)
                          dsimp only at hp_573
                          obtain ⟨rfl, rfl, rfl, rfl, rfl, rfl, q_564⟩ := hp_573
                          refine g_calli (g_runV (As := [.int (iI v_572)]) (rest := []) (ci := 7) F hl.1 hH hS hz (c_X7_columnf l g gh T b nn nr nt cc 4 hc I_553 R J_555 AI_96 AJ AR mo v_572 zv_572 hv hm hT (by omega) h65 hbM hr7 (by omega) hn9 (by omega) hQ) (cwV 1 F.2.2.2.2.1 (good_up gT_X7_column) rfl rfl rfl hdX7_column ⟨Nat.le_of_ble_eq_true rfl, Nat.le_of_ble_eq_true rfl⟩) hm (by decide) rfl rfl rfl (Nat.le_of_ble_eq_true rfl) dX7_joinTold_105 ⟨Nat.zero_le _, Nat.zero_le _⟩) hS (fun v_580 I_574 R_575 J_576 AI_577 AJ_578 AR_579 H locs zv_580 hp_581 hH hS => ?_)
                          dsimp only at hp_581
                          obtain ⟨r_582, er_582⟩ : ∃ qQ : pR, qQ = thn (4, hc, 0) (fun t _ => sCol b nn v_572 t) := ⟨_, rfl⟩
                          rw [← er_582] at hp_581
                          obtain ⟨rfl, rfl, rfl, rfl, hv, pfq, q_583, q_584, hQ, q_585⟩ := hp_581
                          have pf := qF_t pf pfq
                          have u_586_2 : (I_574 mo 2).toInt = (I mo 2).toInt := by rw [pf 2 (by decide) (by decide) (by decide) (by decide) (by decide)]
                          have u_586_5 : (I_574 mo 5).toInt = (I mo 5).toInt := by rw [pf 5 (by decide) (by decide) (by decide) (by decide) (by decide)]
                          have u_586_14 : (I_574 mo 14).toInt = (I mo 14).toInt := by rw [pf 14 (by decide) (by decide) (by decide) (by decide) (by decide)]
                          have u_586_16 : (I_574 mo 16).toInt = (I mo 16).toInt := by rw [pf 16 (by decide) (by decide) (by decide) (by decide) (by decide)]
                          have u_586_18 : (I_574 mo 18).toInt = (I mo 18).toInt := by rw [pf 18 (by decide) (by decide) (by decide) (by decide) (by decide)]
                          rw [thn_b (by omega)] at er_582
                          have hQ : mQ gh I_574 J_576 AI_96 AJ mo b nn nr nt cc 4 hc := by rw [er_582] at hQ; exact hQ
                          replace q_584 := hid q_584
                          obtain ⟨f2, ef2⟩ : ∃ q, q = (I_574 mo 24).toInt := ⟨_, rfl⟩
                          have hd1 : Hid (f2 = 0 → 0 ≤ v_580 ∧ v_580 ≤ 3) := fun h9 => by omega
                          refine lv_istore (lv' := [(7, .int (iI v_580)), (6, .int (iI v_545)), (5, .int (iI mr)), (4, .int (iI gn)), (3, .int (iI n)), (2, .int (iI v_76)), (1, .int (iI v_62)), (0, .ref mo)]) F.1 F.2.1 dX7_joinTold_108 hl (by decide) rfl (fun ls hl => ?_)
                          refine lv_aload_n F.1 F.2.1 dX7_joinTold_110 rfl (lv_at hl 7 rfl) ?_
                          refine lv_iload_n F.1 F.2.1 dX7_joinTold_111 rfl (lv_at hl 4 rfl) ?_
                          refine lv_iload F.1 F.2.1 dX7_joinTold_112 (lv_at hl 1 rfl) ?_
                          refine lv_iload F.1 F.2.1 dX7_joinTold_114 (lv_at hl 0 rfl) ?_
                          refine z_iconst F dX7_joinTold_116 ?_
                          refine z_iconst F dX7_joinTold_117 ?_
                          have b_587 := mJ hv hm
                          unfold mNum1 at b_587
                          refine g_callv (g_runV (As := [.int (iI n), .int (iI v_545), .int (iI v_580), .int (iI 0), .int (iI 0)]) (rest := []) (ci := 7) F hl.1 hH hS hz (c_X7_setsPart l g gh T M I_574 R J_576 AI_96 AJ AR mo n v_545 v_580 0 0 zn zv_545 zv_580 ⟨by decide, by decide⟩ ⟨by decide, by decide⟩ hv hm hT (by omega) (by omega) (by omega)) (cwV 5 F.2.2.2.2.1 (good_up gT_X7_setsPart) rfl rfl rfl hdX7_setsPart ⟨Nat.le_of_ble_eq_true rfl, Nat.le_of_ble_eq_true rfl⟩) hm (by decide) rfl rfl rfl (Nat.le_of_ble_eq_true rfl) dX7_joinTold_118 ⟨Nat.zero_le _, Nat.zero_le _⟩) hS (fun I_588 R_589 J_590 AI_591 AJ_592 AR_593 H locs hp_594 hH hS => ?_)
                          dsimp only at hp_594
                          obtain ⟨rfl, rfl, rfl, rfl, rfl, hv, hT, hsp⟩ := hp_594
                          replace hsp := hid hsp
                          have hQ : mQ gh I_574 J_576 AI_591 AJ mo b nn nr nt cc 4 hc := mQ_bad hQ (by omega) rfl
                          refine lv_aload_n F.1 F.2.1 dX7_joinTold_121 rfl (lv_at hl 7 rfl) ?_
                          refine g_getI (ci := 7) (k := 24) F hH rfl (by decide) iX7 hm (by decide) rfl k81 dX7_joinTold_122 ?_
                          refine z_if_ne (tgt := 137) F dX7_joinTold_125 (by decide) (zr_t _) (fun c_595 => ?_) (fun c_595 => ?_)
                          · refine z_iinc (lv' := [(3, .int (iI (n + 1))), (7, .int (iI v_580)), (6, .int (iI v_545)), (5, .int (iI mr)), (4, .int (iI gn)), (2, .int (iI v_76)), (1, .int (iI v_62)), (0, .ref mo)]) F dX7_joinTold_137 hl (k := 4) rfl (by decide) rfl (fun ls hl => ?_)
                            refine lv_aload_n F.1 F.2.1 dX7_joinTold_140 rfl (lv_at hl 7 rfl) ?_
                            refine z_bipush F dX7_joinTold_141 (by decide) ?_
                            refine g_calli (g_runV (As := [.int (iI 44)]) (rest := []) (ci := 7) F hl.1 hH hS hz (c_X7_isSignf l g gh T b nn nr nt cc 4 hc I_574 R J_576 AI_591 AJ AR mo 44 ⟨by decide, by decide⟩ hv hm hT h65 hbM hr7 (by omega) hn9 (by omega) (by omega) hQ) (cwV 1 F.2.2.2.2.1 (good_up gT_X7_isSign) rfl rfl rfl hdX7_isSign ⟨Nat.le_of_ble_eq_true rfl, Nat.le_of_ble_eq_true rfl⟩) hm (by decide) rfl rfl rfl (Nat.le_of_ble_eq_true rfl) dX7_joinTold_143 ⟨Nat.zero_le _, Nat.zero_le _⟩) hS (fun v_602 I_596 R_597 J_598 AI_599 AJ_600 AR_601 H locs zv_602 hp_603 hH hS => ?_)
                            dsimp only at hp_603
                            obtain ⟨rfl, rfl, rfl, rfl, rfl, rfl, q_604, q_605⟩ := hp_603
                            replace q_604 := q_604.1
                            refine lv_istore (lv' := [(5, .int (iI v_602)), (3, .int (iI (n + 1))), (7, .int (iI v_580)), (6, .int (iI v_545)), (4, .int (iI gn)), (2, .int (iI v_76)), (1, .int (iI v_62)), (0, .ref mo)]) F.1 F.2.1 dX7_joinTold_146 hl (by decide) rfl (fun ls hl => ?_)
                            refine lv_iload F.1 F.2.1 dX7_joinTold_148 (lv_at hl 0 rfl) ?_
                            refine z_if_eq (tgt := 157) F dX7_joinTold_150 (by decide) zv_602 (fun c_606 => ?_) (fun c_606 => ?_)
                            · have t_607 := tIz_0 q_605 (by omega)
                              refine z_goto (tgt := 24) F dX7_joinTold_157 (by decide) ?_
                              refine lv_iload F.1 F.2.1 dX7_joinTold_24 (lv_at hl 0 rfl) ?_
                              refine z_if_eq (tgt := 160) F dX7_joinTold_26 (by decide) zv_602 (fun c_608 => ?_) (fun c_608 => ?_)
                              · have t_609 := tIz_0 q_605 (by omega)
                                have hTs : sPair b nn (cF b nn nr nt cc h) (cF b nn nr nt cc (h + 1)) n 4 hc = (4, hc, 0) := sPair_4 (pCf_ok (by omega) (by omega)) (by omega)
                                have hS9 : sJoi b nn nr nt cc h = (4, hc, 0) := sPairs_no hsq (f := (4 - n).toNat) (by omega) hTs.symm (by omega)
                                have hfin : thn (f, h, 0) (fun t _ => sJoiM b nn nr nt cc t) = (4, hc, 0) := (thn_k q0).trans (by show sJoiM b nn nr nt cc h = _; unfold sJoiM; exact thn_x hS9.symm (by omega))
                                exact cut_160_3 v_62 v_76 (n + 1) gn I_574 J_576 AI_591 H locs ls zv_62 zv_76 ⟨by omega, by omega⟩ zgn hv hT pf ⟨_, _, by omega, hQ, hfin⟩ (by omega) (by omega) hH hS (lv_sub hl [7, 6, 5, 1, 4] rfl)
                              · exact absurd trivial (by omega)
                            · exact absurd (tIz_1 q_605 (by omega)).1 (by omega)
                          · exact absurd (mQ_z hQ (by omega)) (by omega)
                      · refine z_iconst F dX7_joinTold_62 ?_
                        refine z_goto (tgt := 79) F dX7_joinTold_63 (by decide) ?_
                        refine g_callv (g_runV (As := [.int (iI 2)]) (rest := []) (ci := 7) F hl.1 hH hS hz (c_X7_wrongf l g gh T b nn nr nt cc 0 hc I_94 R J_95 AI_96 AJ AR mo 2 ⟨by decide, by decide⟩ hv hm hT (by omega) h65 hbM hr7 (by omega) hn9 (by omega) hQ) (cwV 1 F.2.2.2.2.1 (good_up gT_X7_wrong) rfl rfl rfl hdX7_wrong ⟨Nat.le_of_ble_eq_true rfl, Nat.le_of_ble_eq_true rfl⟩) hm (by decide) rfl rfl rfl (Nat.le_of_ble_eq_true rfl) dX7_joinTold_79 ⟨Nat.zero_le _, Nat.zero_le _⟩) hS (fun I_610 R_611 J_612 AI_613 AJ_614 AR_615 H locs hp_616 hH hS => ?_)
                        dsimp only at hp_616
                        obtain ⟨r_617, er_617⟩ : ∃ qQ : pR, qQ = thn (0, hc, 0) (fun t _ => (2, t, 0)) := ⟨_, rfl⟩
                        rw [← er_617] at hp_616
                        obtain ⟨rfl, rfl, rfl, rfl, rfl, hv, pfq, q_618, hQ⟩ := hp_616
                        have pf := qF_t pf pfq
                        have u_619_2 : (I_610 mo 2).toInt = (I mo 2).toInt := by rw [pf 2 (by decide) (by decide) (by decide) (by decide) (by decide)]
                        have u_619_5 : (I_610 mo 5).toInt = (I mo 5).toInt := by rw [pf 5 (by decide) (by decide) (by decide) (by decide) (by decide)]
                        have u_619_14 : (I_610 mo 14).toInt = (I mo 14).toInt := by rw [pf 14 (by decide) (by decide) (by decide) (by decide) (by decide)]
                        have u_619_16 : (I_610 mo 16).toInt = (I mo 16).toInt := by rw [pf 16 (by decide) (by decide) (by decide) (by decide) (by decide)]
                        have u_619_18 : (I_610 mo 18).toInt = (I mo 18).toInt := by rw [pf 18 (by decide) (by decide) (by decide) (by decide) (by decide)]
                        have er_617 : r_617 = (2, hc, 0) := er_617
                        have hQ : mQ gh I_610 J_95 AI_96 AJ mo b nn nr nt cc 2 hc := by rw [er_617] at hQ; exact hQ
                        have q9_r_617 : (2 : Int) ≠ 0 := by omega
                        have g9_r_617 := mQ_f hQ q9_r_617
                        refine lv_aload_n F.1 F.2.1 dX7_joinTold_82 rfl (lv_at hl 5 rfl) ?_
                        refine lv_aload_n F.1 F.2.1 dX7_joinTold_83 rfl (lv_at hl 5 rfl) ?_
                        refine lv_iload_n F.1 F.2.1 dX7_joinTold_84 rfl (lv_at hl 4 rfl) ?_
                        have b_621 := mJ hv hm
                        unfold mNum1 at b_621
                        refine g_calli (g_runV (As := [.int (iI v_62)]) (rest := [.ref mo]) (ci := 7) F hl.1 hH hS hz (c_X7_columns l g gh T I_610 R J_95 AI_96 AJ AR mo v_62 zv_62 hv hm hT (by omega)) (cwV 1 F.2.2.2.2.1 (good_up gT_X7_columns) rfl rfl rfl hdX7_columns ⟨Nat.le_of_ble_eq_true rfl, Nat.le_of_ble_eq_true rfl⟩) hm (by decide) rfl rfl rfl (Nat.le_of_ble_eq_true rfl) dX7_joinTold_85 ⟨Nat.zero_le _, Nat.zero_le _⟩) hS (fun v_628 I_622 R_623 J_624 AI_625 AJ_626 AR_627 H locs zv_628 hp_629 hH hS => ?_)
                        dsimp only at hp_629
                        obtain ⟨rfl, rfl, rfl, rfl, rfl, rfl, q_620⟩ := hp_629
                        refine g_calli (g_runV (As := [.int (iI v_628)]) (rest := []) (ci := 7) F hl.1 hH hS hz (c_X7_columnf l g gh T b nn nr nt cc 2 hc I_610 R J_95 AI_96 AJ AR mo v_628 zv_628 hv hm hT (by omega) h65 hbM hr7 (by omega) hn9 (by omega) hQ) (cwV 1 F.2.2.2.2.1 (good_up gT_X7_column) rfl rfl rfl hdX7_column ⟨Nat.le_of_ble_eq_true rfl, Nat.le_of_ble_eq_true rfl⟩) hm (by decide) rfl rfl rfl (Nat.le_of_ble_eq_true rfl) dX7_joinTold_88 ⟨Nat.zero_le _, Nat.zero_le _⟩) hS (fun v_636 I_630 R_631 J_632 AI_633 AJ_634 AR_635 H locs zv_636 hp_637 hH hS => ?_)
                        dsimp only at hp_637
                        obtain ⟨r_638, er_638⟩ : ∃ qQ : pR, qQ = thn (2, hc, 0) (fun t _ => sCol b nn v_628 t) := ⟨_, rfl⟩
                        rw [← er_638] at hp_637
                        obtain ⟨rfl, rfl, rfl, rfl, hv, pfq, q_639, q_640, hQ, q_641⟩ := hp_637
                        have pf := qF_t pf pfq
                        have u_642_2 : (I_630 mo 2).toInt = (I mo 2).toInt := by rw [pf 2 (by decide) (by decide) (by decide) (by decide) (by decide)]
                        have u_642_5 : (I_630 mo 5).toInt = (I mo 5).toInt := by rw [pf 5 (by decide) (by decide) (by decide) (by decide) (by decide)]
                        have u_642_14 : (I_630 mo 14).toInt = (I mo 14).toInt := by rw [pf 14 (by decide) (by decide) (by decide) (by decide) (by decide)]
                        have u_642_16 : (I_630 mo 16).toInt = (I mo 16).toInt := by rw [pf 16 (by decide) (by decide) (by decide) (by decide) (by decide)]
                        have u_642_18 : (I_630 mo 18).toInt = (I mo 18).toInt := by rw [pf 18 (by decide) (by decide) (by decide) (by decide) (by decide)]
                        rw [thn_b (by omega)] at er_638
                        have hQ : mQ gh I_630 J_632 AI_96 AJ mo b nn nr nt cc 2 hc := by rw [er_638] at hQ; exact hQ
                        replace q_640 := hid q_640
                        obtain ⟨f1, ef1⟩ : ∃ q, q = (I_630 mo 24).toInt := ⟨_, rfl⟩
                        have hc1 : Hid (f1 = 0 → 0 ≤ v_636 ∧ v_636 ≤ 3) := fun h9 => by omega
                        refine lv_istore (lv' := [(6, .int (iI v_636)), (5, .int (iI mr)), (4, .int (iI gn)), (3, .int (iI n)), (2, .int (iI v_76)), (1, .int (iI v_62)), (0, .ref mo)]) F.1 F.2.1 dX7_joinTold_91 hl (by decide) rfl (fun ls hl => ?_)
                        refine lv_aload_n F.1 F.2.1 dX7_joinTold_93 rfl (lv_at hl 6 rfl) ?_
                        refine z_bipush F dX7_joinTold_94 (by decide) ?_
                        have b_643 := mJ hv hm
                        unfold mNum1 at b_643
                        refine g_callv (g_runV (As := [.int (iI 61)]) (rest := []) (ci := 7) F hl.1 hH hS hz (c_X7_mustSignf l g gh T b nn nr nt cc 2 hc I_630 R J_632 AI_96 AJ AR mo 61 ⟨by decide, by decide⟩ hv hm hT (by omega) h65 hbM hr7 (by omega) hn9 (by omega) (by omega) hQ) (cwV 1 F.2.2.2.2.1 (good_up gT_X7_mustSign) rfl rfl rfl hdX7_mustSign ⟨Nat.le_of_ble_eq_true rfl, Nat.le_of_ble_eq_true rfl⟩) hm (by decide) rfl rfl rfl (Nat.le_of_ble_eq_true rfl) dX7_joinTold_96 ⟨Nat.zero_le _, Nat.zero_le _⟩) hS (fun I_644 R_645 J_646 AI_647 AJ_648 AR_649 H locs hp_650 hH hS => ?_)
                        dsimp only at hp_650
                        obtain ⟨r_651, er_651⟩ : ∃ qQ : pR, qQ = thn (2, hc, 0) (fun t _ => sTk b nn 61 t) := ⟨_, rfl⟩
                        rw [← er_651] at hp_650
                        obtain ⟨rfl, rfl, rfl, rfl, hv, pfq, q_652, q_653, hQ⟩ := hp_650
                        have pf := qF_t pf pfq
                        have u_654_2 : (I_644 mo 2).toInt = (I mo 2).toInt := by rw [pf 2 (by decide) (by decide) (by decide) (by decide) (by decide)]
                        have u_654_5 : (I_644 mo 5).toInt = (I mo 5).toInt := by rw [pf 5 (by decide) (by decide) (by decide) (by decide) (by decide)]
                        have u_654_14 : (I_644 mo 14).toInt = (I mo 14).toInt := by rw [pf 14 (by decide) (by decide) (by decide) (by decide) (by decide)]
                        have u_654_16 : (I_644 mo 16).toInt = (I mo 16).toInt := by rw [pf 16 (by decide) (by decide) (by decide) (by decide) (by decide)]
                        have u_654_18 : (I_644 mo 18).toInt = (I mo 18).toInt := by rw [pf 18 (by decide) (by decide) (by decide) (by decide) (by decide)]
                        rw [thn_b (by omega)] at er_651
                        have hQ : mQ gh I_644 J_646 AI_96 AJ mo b nn nr nt cc 2 hc := by rw [er_651] at hQ; exact hQ
                        replace q_653 := hid q_653
                        refine lv_aload_n F.1 F.2.1 dX7_joinTold_99 rfl (lv_at hl 6 rfl) ?_
                        refine lv_aload_n F.1 F.2.1 dX7_joinTold_100 rfl (lv_at hl 6 rfl) ?_
                        refine lv_iload_n F.1 F.2.1 dX7_joinTold_101 rfl (lv_at hl 4 rfl) ?_
                        have b_656 := mJ hv hm
                        unfold mNum1 at b_656
                        refine g_calli (g_runV (As := [.int (iI v_76)]) (rest := [.ref mo]) (ci := 7) F hl.1 hH hS hz (c_X7_columns l g gh T I_644 R J_646 AI_96 AJ AR mo v_76 zv_76 hv hm hT (by omega)) (cwV 1 F.2.2.2.2.1 (good_up gT_X7_columns) rfl rfl rfl hdX7_columns ⟨Nat.le_of_ble_eq_true rfl, Nat.le_of_ble_eq_true rfl⟩) hm (by decide) rfl rfl rfl (Nat.le_of_ble_eq_true rfl) dX7_joinTold_102 ⟨Nat.zero_le _, Nat.zero_le _⟩) hS (fun v_663 I_657 R_658 J_659 AI_660 AJ_661 AR_662 H locs zv_663 hp_664 hH hS => ?_)
                        dsimp only at hp_664
                        obtain ⟨rfl, rfl, rfl, rfl, rfl, rfl, q_655⟩ := hp_664
                        refine g_calli (g_runV (As := [.int (iI v_663)]) (rest := []) (ci := 7) F hl.1 hH hS hz (c_X7_columnf l g gh T b nn nr nt cc 2 hc I_644 R J_646 AI_96 AJ AR mo v_663 zv_663 hv hm hT (by omega) h65 hbM hr7 (by omega) hn9 (by omega) hQ) (cwV 1 F.2.2.2.2.1 (good_up gT_X7_column) rfl rfl rfl hdX7_column ⟨Nat.le_of_ble_eq_true rfl, Nat.le_of_ble_eq_true rfl⟩) hm (by decide) rfl rfl rfl (Nat.le_of_ble_eq_true rfl) dX7_joinTold_105 ⟨Nat.zero_le _, Nat.zero_le _⟩) hS (fun v_671 I_665 R_666 J_667 AI_668 AJ_669 AR_670 H locs zv_671 hp_672 hH hS => ?_)
                        dsimp only at hp_672
                        obtain ⟨r_673, er_673⟩ : ∃ qQ : pR, qQ = thn (2, hc, 0) (fun t _ => sCol b nn v_663 t) := ⟨_, rfl⟩
                        rw [← er_673] at hp_672
                        obtain ⟨rfl, rfl, rfl, rfl, hv, pfq, q_674, q_675, hQ, q_676⟩ := hp_672
                        have pf := qF_t pf pfq
                        have u_677_2 : (I_665 mo 2).toInt = (I mo 2).toInt := by rw [pf 2 (by decide) (by decide) (by decide) (by decide) (by decide)]
                        have u_677_5 : (I_665 mo 5).toInt = (I mo 5).toInt := by rw [pf 5 (by decide) (by decide) (by decide) (by decide) (by decide)]
                        have u_677_14 : (I_665 mo 14).toInt = (I mo 14).toInt := by rw [pf 14 (by decide) (by decide) (by decide) (by decide) (by decide)]
                        have u_677_16 : (I_665 mo 16).toInt = (I mo 16).toInt := by rw [pf 16 (by decide) (by decide) (by decide) (by decide) (by decide)]
                        have u_677_18 : (I_665 mo 18).toInt = (I mo 18).toInt := by rw [pf 18 (by decide) (by decide) (by decide) (by decide) (by decide)]
                        rw [thn_b (by omega)] at er_673
                        have hQ : mQ gh I_665 J_667 AI_96 AJ mo b nn nr nt cc 2 hc := by rw [er_673] at hQ; exact hQ
                        replace q_675 := hid q_675
                        obtain ⟨f2, ef2⟩ : ∃ q, q = (I_665 mo 24).toInt := ⟨_, rfl⟩
                        have hd1 : Hid (f2 = 0 → 0 ≤ v_671 ∧ v_671 ≤ 3) := fun h9 => by omega
                        refine lv_istore (lv' := [(7, .int (iI v_671)), (6, .int (iI v_636)), (5, .int (iI mr)), (4, .int (iI gn)), (3, .int (iI n)), (2, .int (iI v_76)), (1, .int (iI v_62)), (0, .ref mo)]) F.1 F.2.1 dX7_joinTold_108 hl (by decide) rfl (fun ls hl => ?_)
                        refine lv_aload_n F.1 F.2.1 dX7_joinTold_110 rfl (lv_at hl 7 rfl) ?_
                        refine lv_iload_n F.1 F.2.1 dX7_joinTold_111 rfl (lv_at hl 4 rfl) ?_
                        refine lv_iload F.1 F.2.1 dX7_joinTold_112 (lv_at hl 1 rfl) ?_
                        refine lv_iload F.1 F.2.1 dX7_joinTold_114 (lv_at hl 0 rfl) ?_
                        refine z_iconst F dX7_joinTold_116 ?_
                        refine z_iconst F dX7_joinTold_117 ?_
                        have b_678 := mJ hv hm
                        unfold mNum1 at b_678
                        refine g_callv (g_runV (As := [.int (iI n), .int (iI v_636), .int (iI v_671), .int (iI 0), .int (iI 0)]) (rest := []) (ci := 7) F hl.1 hH hS hz (c_X7_setsPart l g gh T M I_665 R J_667 AI_96 AJ AR mo n v_636 v_671 0 0 zn zv_636 zv_671 ⟨by decide, by decide⟩ ⟨by decide, by decide⟩ hv hm hT (by omega) (by omega) (by omega)) (cwV 5 F.2.2.2.2.1 (good_up gT_X7_setsPart) rfl rfl rfl hdX7_setsPart ⟨Nat.le_of_ble_eq_true rfl, Nat.le_of_ble_eq_true rfl⟩) hm (by decide) rfl rfl rfl (Nat.le_of_ble_eq_true rfl) dX7_joinTold_118 ⟨Nat.zero_le _, Nat.zero_le _⟩) hS (fun I_679 R_680 J_681 AI_682 AJ_683 AR_684 H locs hp_685 hH hS => ?_)
                        dsimp only at hp_685
                        obtain ⟨rfl, rfl, rfl, rfl, rfl, hv, hT, hsp⟩ := hp_685
                        replace hsp := hid hsp
                        have hQ : mQ gh I_665 J_667 AI_682 AJ mo b nn nr nt cc 2 hc := mQ_bad hQ (by omega) rfl
                        refine lv_aload_n F.1 F.2.1 dX7_joinTold_121 rfl (lv_at hl 7 rfl) ?_
                        refine g_getI (ci := 7) (k := 24) F hH rfl (by decide) iX7 hm (by decide) rfl k81 dX7_joinTold_122 ?_
                        refine z_if_ne (tgt := 137) F dX7_joinTold_125 (by decide) (zr_t _) (fun c_686 => ?_) (fun c_686 => ?_)
                        · refine z_iinc (lv' := [(3, .int (iI (n + 1))), (7, .int (iI v_671)), (6, .int (iI v_636)), (5, .int (iI mr)), (4, .int (iI gn)), (2, .int (iI v_76)), (1, .int (iI v_62)), (0, .ref mo)]) F dX7_joinTold_137 hl (k := 4) rfl (by decide) rfl (fun ls hl => ?_)
                          refine lv_aload_n F.1 F.2.1 dX7_joinTold_140 rfl (lv_at hl 7 rfl) ?_
                          refine z_bipush F dX7_joinTold_141 (by decide) ?_
                          refine g_calli (g_runV (As := [.int (iI 44)]) (rest := []) (ci := 7) F hl.1 hH hS hz (c_X7_isSignf l g gh T b nn nr nt cc 2 hc I_665 R J_667 AI_682 AJ AR mo 44 ⟨by decide, by decide⟩ hv hm hT h65 hbM hr7 (by omega) hn9 (by omega) (by omega) hQ) (cwV 1 F.2.2.2.2.1 (good_up gT_X7_isSign) rfl rfl rfl hdX7_isSign ⟨Nat.le_of_ble_eq_true rfl, Nat.le_of_ble_eq_true rfl⟩) hm (by decide) rfl rfl rfl (Nat.le_of_ble_eq_true rfl) dX7_joinTold_143 ⟨Nat.zero_le _, Nat.zero_le _⟩) hS (fun v_693 I_687 R_688 J_689 AI_690 AJ_691 AR_692 H locs zv_693 hp_694 hH hS => ?_)
                          dsimp only at hp_694
                          obtain ⟨rfl, rfl, rfl, rfl, rfl, rfl, q_695, q_696⟩ := hp_694
                          replace q_695 := q_695.1
                          refine lv_istore (lv' := [(5, .int (iI v_693)), (3, .int (iI (n + 1))), (7, .int (iI v_671)), (6, .int (iI v_636)), (4, .int (iI gn)), (2, .int (iI v_76)), (1, .int (iI v_62)), (0, .ref mo)]) F.1 F.2.1 dX7_joinTold_146 hl (by decide) rfl (fun ls hl => ?_)
                          refine lv_iload F.1 F.2.1 dX7_joinTold_148 (lv_at hl 0 rfl) ?_
                          refine z_if_eq (tgt := 157) F dX7_joinTold_150 (by decide) zv_693 (fun c_697 => ?_) (fun c_697 => ?_)
                          · have t_698 := tIz_0 q_696 (by omega)
                            refine z_goto (tgt := 24) F dX7_joinTold_157 (by decide) ?_
                            refine lv_iload F.1 F.2.1 dX7_joinTold_24 (lv_at hl 0 rfl) ?_
                            refine z_if_eq (tgt := 160) F dX7_joinTold_26 (by decide) zv_693 (fun c_699 => ?_) (fun c_699 => ?_)
                            · have t_700 := tIz_0 q_696 (by omega)
                              have hTs : sPair b nn (cF b nn nr nt cc h) (cF b nn nr nt cc (h + 1)) n 4 hc = (2, hc, 0) := pE2 (sPair_x (pCf_n2 (by omega) (by omega))) (by omega) (by omega)
                              have hS9 : sJoi b nn nr nt cc h = (2, hc, 0) := sPairs_no hsq (f := (4 - n).toNat) (by omega) hTs.symm (by omega)
                              have hfin : thn (f, h, 0) (fun t _ => sJoiM b nn nr nt cc t) = (2, hc, 0) := (thn_k q0).trans (by show sJoiM b nn nr nt cc h = _; unfold sJoiM; exact thn_x hS9.symm (by omega))
                              exact cut_160_3 v_62 v_76 (n + 1) gn I_665 J_667 AI_682 H locs ls zv_62 zv_76 ⟨by omega, by omega⟩ zgn hv hT pf ⟨_, _, by omega, hQ, hfin⟩ (by omega) (by omega) hH hS (lv_sub hl [7, 6, 5, 1, 4] rfl)
                            · exact absurd trivial (by omega)
                          · exact absurd (tIz_1 q_696 (by omega)).1 (by omega)
                        · exact absurd (mQ_z hQ (by omega)) (by omega)
          exact cut_24_96 (((6 - 0) + 1 : Int).toNat) 0 0 1 I_84 J_86 AI H locs ls ⟨by decide, by decide⟩ ⟨by decide, by decide⟩ ⟨by decide, by decide⟩ hv hT pf (by omega) ((fun _ => ⟨by omega, fun k a b => absurd b (by omega)⟩)) ⟨_, _, hQ, by unfold sJoi; exact thn_y sr_64.symm rfl (thn_y sr_78.symm rfl (thn_y sr_91.symm rfl (rfl))), mGn_0⟩ (by omega) (by omega) hH hS (lv_sub hl [0, 1, 2, 3, 4, 5] rfl)
        · have hQ : mQ gh I_84 J_86 AI AJ mo b nn nr nt cc 1 (h + 2) := by rw [er_91] at hQ; exact hQ
          have sr_91 := sr_91.symm.trans er_91
          have g9r_91 := mQ_f hQ (by omega)
          refine z_iconst F dX7_joinTold_16 ?_
          refine lv_istore_n (lv' := [(3, .int (iI 0)), (2, .int (iI v_76)), (1, .int (iI v_62)), (0, .ref mo)]) F.1 F.2.1 dX7_joinTold_17 rfl hl (by decide) rfl (fun ls hl => ?_)
          refine z_iconst F dX7_joinTold_18 ?_
          refine lv_istore (lv' := [(4, .int (iI 0)), (3, .int (iI 0)), (2, .int (iI v_76)), (1, .int (iI v_62)), (0, .ref mo)]) F.1 F.2.1 dX7_joinTold_19 hl (by decide) rfl (fun ls hl => ?_)
          refine z_iconst F dX7_joinTold_21 ?_
          refine lv_istore (lv' := [(5, .int (iI 1)), (4, .int (iI 0)), (3, .int (iI 0)), (2, .int (iI v_76)), (1, .int (iI v_62)), (0, .ref mo)]) F.1 F.2.1 dX7_joinTold_22 hl (by decide) rfl (fun ls hl => ?_)
          refine lv_iload F.1 F.2.1 dX7_joinTold_24 (lv_at hl 0 rfl) ?_
          refine z_if_eq (tgt := 160) F dX7_joinTold_26 (by decide) ⟨by decide, by decide⟩ (fun c_701 => ?_) (fun c_701 => ?_)
          · exact absurd trivial (by omega)
          · refine lv_aload_n F.1 F.2.1 dX7_joinTold_29 rfl (lv_at hl 5 rfl) ?_
            refine g_getI (ci := 7) (k := 24) F hH rfl (by decide) iX7 hm (by decide) rfl k81 dX7_joinTold_30 ?_
            have b_702 := mJ hv hm
            unfold mNum1 at b_702
            refine z_if_ne (tgt := 160) F dX7_joinTold_33 (by decide) (zr_t _) (fun c_703 => ?_) (fun c_703 => ?_)
            · have hS9 : sJoi b nn nr nt cc h = (1, h + 2, 0) := by
                unfold sJoi
                repeat (first | with_reducible rfl | refine thn_t sr_64 (by first | rfl | omega) ?_ | exact (thn_x sr_64.symm (by omega)).trans (pr_e (by omega) (by omega) (by omega)) | refine thn_t sr_78 (by first | rfl | omega) ?_ | exact (thn_x sr_78.symm (by omega)).trans (pr_e (by omega) (by omega) (by omega)) | refine thn_t sr_91 (by first | rfl | omega) ?_ | exact (thn_x sr_91.symm (by omega)).trans (pr_e (by omega) (by omega) (by omega)))
              have hfin : thn (f, h, 0) (fun t _ => sJoiM b nn nr nt cc t) = (1, h + 2, 0) := (thn_k q0).trans (by show sJoiM b nn nr nt cc h = _; unfold sJoiM; exact thn_x hS9.symm (by omega))
              exact cut_160_3 v_62 v_76 0 0 I_84 J_86 AI H locs ls zv_62 zv_76 ⟨by decide, by decide⟩ ⟨by decide, by decide⟩ hv hT pf ⟨_, _, by omega, hQ, hfin⟩ (by omega) (by omega) hH hS (lv_sub hl [5, 4, 3, 2, 1] rfl)
            · exact absurd (mQ_z hQ (by omega)) (by omega)
      · have hQ : mQ gh I_70 J_72 AI AJ mo b nn nr nt cc (pRf b nn nt nr (h + 1)) (h + 1) := by rw [er_78] at hQ; exact hQ
        have sr_78 := sr_78.symm.trans er_78
        have g9r_78 := mQ_f hQ (by omega)
        replace q_80 := (⟨q_80.1, q_80.2.1⟩ : _ ∧ _)
        obtain ⟨f0, ef0⟩ : ∃ q, q = (I_70 mo 24).toInt := ⟨_, rfl⟩
        have hr2 : Hid (f0 = 0 → v_76 < M ∧ fa0 = 0) := fun h9 => by omega
        refine lv_istore_n (lv' := [(2, .int (iI v_76)), (1, .int (iI v_62)), (0, .ref mo)]) F.1 F.2.1 dX7_joinTold_9 rfl hl (by decide) rfl (fun ls hl => ?_)
        refine lv_aload_n F.1 F.2.1 dX7_joinTold_10 rfl (lv_at hl 2 rfl) ?_
        refine va_ldcS F.1 F.2.1 F.2.2.2.1 (F.2.2.2.2.2.2.1 14 _ rfl).1 dX7_joinTold_11 ?_
        have b_704 := mJ hv hm
        unfold mNum1 at b_704
        refine g_callv (g_runV (As := [.ref (gSK g 14)]) (rest := []) (ci := 7) F hl.1 hH hS hz (c_X7_mustWordf l g gh T 14 _ 12 b nn nr nt cc (pRf b nn nt nr (h + 1)) (h + 1) I_70 R J_72 AI AJ AR mo hv hm hT (by omega) (rfl : sTab[14]? = some _) h65 hbM hr7 (by omega) hn9 (by omega) (by decide) (by decide +kernel) hQ) (cwV 1 F.2.2.2.2.1 (good_up gT_X7_mustWord) rfl rfl rfl hdX7_mustWord ⟨Nat.le_of_ble_eq_true rfl, Nat.le_of_ble_eq_true rfl⟩) hm (by decide) rfl rfl rfl (Nat.le_of_ble_eq_true rfl) dX7_joinTold_13 ⟨Nat.zero_le _, Nat.zero_le _⟩) hS (fun I_705 R_706 J_707 AI_708 AJ_709 AR_710 H locs hp_711 hH hS => ?_)
        dsimp only at hp_711
        obtain ⟨r_712, er_712⟩ : ∃ qQ : pR, qQ = thn ((pRf b nn nt nr (h + 1)), (h + 1), 0) (fun t _ => sTw b nn ((12 : Nat) : Int) t) := ⟨_, rfl⟩
        rw [← er_712] at hp_711
        obtain ⟨rfl, rfl, rfl, rfl, hv, pfq, q_713, hQ⟩ := hp_711
        have pf := qF_t pf pfq
        have u_714_2 : (I_705 mo 2).toInt = (I mo 2).toInt := by rw [pf 2 (by decide) (by decide) (by decide) (by decide) (by decide)]
        have u_714_5 : (I_705 mo 5).toInt = (I mo 5).toInt := by rw [pf 5 (by decide) (by decide) (by decide) (by decide) (by decide)]
        have u_714_14 : (I_705 mo 14).toInt = (I mo 14).toInt := by rw [pf 14 (by decide) (by decide) (by decide) (by decide) (by decide)]
        have u_714_16 : (I_705 mo 16).toInt = (I mo 16).toInt := by rw [pf 16 (by decide) (by decide) (by decide) (by decide) (by decide)]
        have u_714_18 : (I_705 mo 18).toInt = (I mo 18).toInt := by rw [pf 18 (by decide) (by decide) (by decide) (by decide) (by decide)]
        rw [thn_b (by omega)] at er_712
        have hQ : mQ gh I_705 J_707 AI AJ mo b nn nr nt cc (pRf b nn nt nr (h + 1)) (h + 1) := by rw [er_712] at hQ; exact hQ
        refine z_iconst F dX7_joinTold_16 ?_
        refine lv_istore_n (lv' := [(3, .int (iI 0)), (2, .int (iI v_76)), (1, .int (iI v_62)), (0, .ref mo)]) F.1 F.2.1 dX7_joinTold_17 rfl hl (by decide) rfl (fun ls hl => ?_)
        refine z_iconst F dX7_joinTold_18 ?_
        refine lv_istore (lv' := [(4, .int (iI 0)), (3, .int (iI 0)), (2, .int (iI v_76)), (1, .int (iI v_62)), (0, .ref mo)]) F.1 F.2.1 dX7_joinTold_19 hl (by decide) rfl (fun ls hl => ?_)
        refine z_iconst F dX7_joinTold_21 ?_
        refine lv_istore (lv' := [(5, .int (iI 1)), (4, .int (iI 0)), (3, .int (iI 0)), (2, .int (iI v_76)), (1, .int (iI v_62)), (0, .ref mo)]) F.1 F.2.1 dX7_joinTold_22 hl (by decide) rfl (fun ls hl => ?_)
        refine lv_iload F.1 F.2.1 dX7_joinTold_24 (lv_at hl 0 rfl) ?_
        refine z_if_eq (tgt := 160) F dX7_joinTold_26 (by decide) ⟨by decide, by decide⟩ (fun c_715 => ?_) (fun c_715 => ?_)
        · exact absurd trivial (by omega)
        · refine lv_aload_n F.1 F.2.1 dX7_joinTold_29 rfl (lv_at hl 5 rfl) ?_
          refine g_getI (ci := 7) (k := 24) F hH rfl (by decide) iX7 hm (by decide) rfl k81 dX7_joinTold_30 ?_
          have b_716 := mJ hv hm
          unfold mNum1 at b_716
          refine z_if_ne (tgt := 160) F dX7_joinTold_33 (by decide) (zr_t _) (fun c_717 => ?_) (fun c_717 => ?_)
          · have hS9 : sJoi b nn nr nt cc h = (pRf b nn nt nr (h + 1), h + 1, 0) := by
              unfold sJoi
              repeat (first | with_reducible rfl | refine thn_t sr_64 (by first | rfl | omega) ?_ | exact (thn_x sr_64.symm (by omega)).trans (pr_e (by omega) (by omega) (by omega)) | refine thn_t sr_78 (by first | rfl | omega) ?_ | exact (thn_x sr_78.symm (by omega)).trans (pr_e (by omega) (by omega) (by omega)))
            have hfin : thn (f, h, 0) (fun t _ => sJoiM b nn nr nt cc t) = (pRf b nn nt nr (h + 1), h + 1, 0) := (thn_k q0).trans (by show sJoiM b nn nr nt cc h = _; unfold sJoiM; exact thn_x hS9.symm (by omega))
            exact cut_160_3 v_62 v_76 0 0 I_705 J_707 AI H locs ls zv_62 zv_76 ⟨by decide, by decide⟩ ⟨by decide, by decide⟩ hv hT pf ⟨_, _, by omega, hQ, hfin⟩ (by omega) (by omega) hH hS (lv_sub hl [5, 4, 3, 2, 1] rfl)
          · exact absurd (mQ_z hQ (by omega)) (by omega)
    · have hQ : mQ gh I_56 J_58 AI AJ mo b nn nr nt cc (pRf b nn nt nr h) h := by rw [er_64] at hQ; exact hQ
      have sr_64 := sr_64.symm.trans er_64
      have g9r_64 := mQ_f hQ (by omega)
      replace q_66 := (⟨q_66.1, q_66.2.1⟩ : _ ∧ _)
      obtain ⟨fa0, efa0⟩ : ∃ q, q = (I_56 mo 24).toInt := ⟨_, rfl⟩
      have hra : Hid (fa0 = 0 → v_62 < M) := fun h9 => by omega
      refine lv_istore_n (lv' := [(1, .int (iI v_62)), (0, .ref mo)]) F.1 F.2.1 dX7_joinTold_4 rfl hl (by decide) rfl (fun ls hl => ?_)
      refine lv_aload_n F.1 F.2.1 dX7_joinTold_5 rfl (lv_at hl 1 rfl) ?_
      have b_718 := mJ hv hm
      unfold mNum1 at b_718
      refine g_calli (g_runV (As := []) (rest := []) (ci := 7) F hl.1 hH hS hz (c_X7_relationf l g gh T b nn nr nt cc (pRf b nn nt nr h) h I_56 R J_58 AI AJ AR mo hv hm hT (by omega) h65 hbM hr7 (by omega) hn9 (by omega) hQ) (cwV 0 F.2.2.2.2.1 (good_up gT_X7_relation) rfl rfl rfl hdX7_relation ⟨Nat.le_of_ble_eq_true rfl, Nat.le_of_ble_eq_true rfl⟩) hm (by decide) rfl rfl rfl (Nat.le_of_ble_eq_true rfl) dX7_joinTold_6 ⟨Nat.zero_le _, Nat.zero_le _⟩) hS (fun v_725 I_719 R_720 J_721 AI_722 AJ_723 AR_724 H locs zv_725 hp_726 hH hS => ?_)
      dsimp only at hp_726
      obtain ⟨r_727, er_727⟩ : ∃ qQ : pR, qQ = thn ((pRf b nn nt nr h), h, 0) (fun t _ => sRl b nn nr nt cc t) := ⟨_, rfl⟩
      rw [← er_727] at hp_726
      obtain ⟨rfl, rfl, rfl, rfl, hv, pfq, q_728, q_729, hQ, q_730⟩ := hp_726
      have pf := qF_t pf pfq
      have u_731_2 : (I_719 mo 2).toInt = (I mo 2).toInt := by rw [pf 2 (by decide) (by decide) (by decide) (by decide) (by decide)]
      have u_731_5 : (I_719 mo 5).toInt = (I mo 5).toInt := by rw [pf 5 (by decide) (by decide) (by decide) (by decide) (by decide)]
      have u_731_14 : (I_719 mo 14).toInt = (I mo 14).toInt := by rw [pf 14 (by decide) (by decide) (by decide) (by decide) (by decide)]
      have u_731_16 : (I_719 mo 16).toInt = (I mo 16).toInt := by rw [pf 16 (by decide) (by decide) (by decide) (by decide) (by decide)]
      have u_731_18 : (I_719 mo 18).toInt = (I mo 18).toInt := by rw [pf 18 (by decide) (by decide) (by decide) (by decide) (by decide)]
      rw [thn_b (by omega)] at er_727
      have hQ : mQ gh I_719 J_721 AI AJ mo b nn nr nt cc (pRf b nn nt nr h) h := by rw [er_727] at hQ; exact hQ
      replace q_729 := (⟨q_729.1, q_729.2.1⟩ : _ ∧ _)
      obtain ⟨f0, ef0⟩ : ∃ q, q = (I_719 mo 24).toInt := ⟨_, rfl⟩
      have hr2 : Hid (f0 = 0 → v_725 < M ∧ fa0 = 0) := fun h9 => by omega
      refine lv_istore_n (lv' := [(2, .int (iI v_725)), (1, .int (iI v_62)), (0, .ref mo)]) F.1 F.2.1 dX7_joinTold_9 rfl hl (by decide) rfl (fun ls hl => ?_)
      refine lv_aload_n F.1 F.2.1 dX7_joinTold_10 rfl (lv_at hl 2 rfl) ?_
      refine va_ldcS F.1 F.2.1 F.2.2.2.1 (F.2.2.2.2.2.2.1 14 _ rfl).1 dX7_joinTold_11 ?_
      have b_732 := mJ hv hm
      unfold mNum1 at b_732
      refine g_callv (g_runV (As := [.ref (gSK g 14)]) (rest := []) (ci := 7) F hl.1 hH hS hz (c_X7_mustWordf l g gh T 14 _ 12 b nn nr nt cc (pRf b nn nt nr h) h I_719 R J_721 AI AJ AR mo hv hm hT (by omega) (rfl : sTab[14]? = some _) h65 hbM hr7 (by omega) hn9 (by omega) (by decide) (by decide +kernel) hQ) (cwV 1 F.2.2.2.2.1 (good_up gT_X7_mustWord) rfl rfl rfl hdX7_mustWord ⟨Nat.le_of_ble_eq_true rfl, Nat.le_of_ble_eq_true rfl⟩) hm (by decide) rfl rfl rfl (Nat.le_of_ble_eq_true rfl) dX7_joinTold_13 ⟨Nat.zero_le _, Nat.zero_le _⟩) hS (fun I_733 R_734 J_735 AI_736 AJ_737 AR_738 H locs hp_739 hH hS => ?_)
      dsimp only at hp_739
      obtain ⟨r_740, er_740⟩ : ∃ qQ : pR, qQ = thn ((pRf b nn nt nr h), h, 0) (fun t _ => sTw b nn ((12 : Nat) : Int) t) := ⟨_, rfl⟩
      rw [← er_740] at hp_739
      obtain ⟨rfl, rfl, rfl, rfl, hv, pfq, q_741, hQ⟩ := hp_739
      have pf := qF_t pf pfq
      have u_742_2 : (I_733 mo 2).toInt = (I mo 2).toInt := by rw [pf 2 (by decide) (by decide) (by decide) (by decide) (by decide)]
      have u_742_5 : (I_733 mo 5).toInt = (I mo 5).toInt := by rw [pf 5 (by decide) (by decide) (by decide) (by decide) (by decide)]
      have u_742_14 : (I_733 mo 14).toInt = (I mo 14).toInt := by rw [pf 14 (by decide) (by decide) (by decide) (by decide) (by decide)]
      have u_742_16 : (I_733 mo 16).toInt = (I mo 16).toInt := by rw [pf 16 (by decide) (by decide) (by decide) (by decide) (by decide)]
      have u_742_18 : (I_733 mo 18).toInt = (I mo 18).toInt := by rw [pf 18 (by decide) (by decide) (by decide) (by decide) (by decide)]
      rw [thn_b (by omega)] at er_740
      have hQ : mQ gh I_733 J_735 AI AJ mo b nn nr nt cc (pRf b nn nt nr h) h := by rw [er_740] at hQ; exact hQ
      refine z_iconst F dX7_joinTold_16 ?_
      refine lv_istore_n (lv' := [(3, .int (iI 0)), (2, .int (iI v_725)), (1, .int (iI v_62)), (0, .ref mo)]) F.1 F.2.1 dX7_joinTold_17 rfl hl (by decide) rfl (fun ls hl => ?_)
      refine z_iconst F dX7_joinTold_18 ?_
      refine lv_istore (lv' := [(4, .int (iI 0)), (3, .int (iI 0)), (2, .int (iI v_725)), (1, .int (iI v_62)), (0, .ref mo)]) F.1 F.2.1 dX7_joinTold_19 hl (by decide) rfl (fun ls hl => ?_)
      refine z_iconst F dX7_joinTold_21 ?_
      refine lv_istore (lv' := [(5, .int (iI 1)), (4, .int (iI 0)), (3, .int (iI 0)), (2, .int (iI v_725)), (1, .int (iI v_62)), (0, .ref mo)]) F.1 F.2.1 dX7_joinTold_22 hl (by decide) rfl (fun ls hl => ?_)
      refine lv_iload F.1 F.2.1 dX7_joinTold_24 (lv_at hl 0 rfl) ?_
      refine z_if_eq (tgt := 160) F dX7_joinTold_26 (by decide) ⟨by decide, by decide⟩ (fun c_743 => ?_) (fun c_743 => ?_)
      · exact absurd trivial (by omega)
      · refine lv_aload_n F.1 F.2.1 dX7_joinTold_29 rfl (lv_at hl 5 rfl) ?_
        refine g_getI (ci := 7) (k := 24) F hH rfl (by decide) iX7 hm (by decide) rfl k81 dX7_joinTold_30 ?_
        have b_744 := mJ hv hm
        unfold mNum1 at b_744
        refine z_if_ne (tgt := 160) F dX7_joinTold_33 (by decide) (zr_t _) (fun c_745 => ?_) (fun c_745 => ?_)
        · have hS9 : sJoi b nn nr nt cc h = (pRf b nn nt nr h, h, 0) := by
            unfold sJoi
            repeat (first | with_reducible rfl | refine thn_t sr_64 (by first | rfl | omega) ?_ | exact (thn_x sr_64.symm (by omega)).trans (pr_e (by omega) (by omega) (by omega)))
          have hfin : thn (f, h, 0) (fun t _ => sJoiM b nn nr nt cc t) = (pRf b nn nt nr h, h, 0) := (thn_k q0).trans (by show sJoiM b nn nr nt cc h = _; unfold sJoiM; exact thn_x hS9.symm (by omega))
          exact cut_160_3 v_62 v_725 0 0 I_733 J_735 AI H locs ls zv_62 zv_725 ⟨by decide, by decide⟩ ⟨by decide, by decide⟩ hv hT pf ⟨_, _, by omega, hQ, hfin⟩ (by omega) (by omega) hH hS (lv_sub hl [5, 4, 3, 2, 1] rfl)
        · exact absurd (mQ_z hQ (by omega)) (by omega)
  · have hf1 := mQ_f hQ q0
    have cut_160_748 : ∀ (l1 l2 l3 l4 : Int) (I_746 : gI) (J_747 : gJ) (AI_748 : gI) (H : Heap) (locs : List Loc) (ls : Array Slot), zr l1 → zr l2 → zr l3 → zr l4 → (mInv g gh R I_746 AI_748) → (AI_748 (gh 50 0) = T) → (qF mo I I_746) → (∃ (f9 : Int) (h9 : Nat), f9 ≠ 0 ∧ mQ gh I_746 J_747 AI_748 AJ mo b nn nr nt cc f9 h9 ∧ thn (f, h, 0) (fun t _ => sJoiM b nn nr nt cc t) = (f9, h9, 0)) → ((I_746 mo 20).toInt ≤ 936 ∧ (I mo 24).toInt ≤ (I_746 mo 24).toInt) → (0 ≤ l1 ∧ l1 ≤ 15 ∧ 0 ≤ l2 ∧ l2 ≤ 15) → gH g I_746 R J_747 AI_748 AJ AR H → va_S (gA g) s.heap H locs → lv_has ls 8 [(0, .ref mo), (1, .int (iI l1)), (2, .int (iI l2)), (3, .int (iI l3)), (4, .int (iI l4))] → W p l e rmX7_joinToldf s m ([.ref mo] : List Value).toArray below meth c H locs 0 0 (MQ below (gQv g (fun w : gS => R = w.2.1 ∧ AJ = w.2.2.2.2.1 ∧ AR = w.2.2.2.2.2 ∧ (mInv g gh R (w.1) (w.2.2.2.1)) ∧ ((w.2.2.2.1) (gh 50 0) = T) ∧ (qF mo I (w.1)) ∧ (((w.1) mo 20).toInt ≤ 936 ∧ (I mo 24).toInt ≤ ((w.1) mo 24).toInt) ∧ (((w.1) mo 24).toInt = 0 → ((w.1) mo 21).toInt = 4 → ((w.1) mo 23).toInt = 59 → rowOK ((w.2.2.2.1) (gh 53 0)) M) ∧ (((w.1) mo 24).toInt = 0 → tI ((w.2.2.2.1) (gh 53 0)) (40 * M) = 3) ∧ (mQ gh (w.1) (w.2.2.1) (w.2.2.2.1) AJ mo b nn nr nt cc (thn (f, h, 0) (fun t _ => sJoiM b nn nr nt cc t)).1 (thn (f, h, 0) (fun t _ => sJoiM b nn nr nt cc t)).2.1) ∧ (pIc (thn (f, h, 0) (fun t _ => sJoiM b nn nr nt cc t)).1 (pK b nn (thn (f, h, 0) (fun t _ => sJoiM b nn nr nt cc t)).2.1) (tI ((w.2.2.2.1) (gh 53 0)) (40 * (nr : Int) + 1)) (thn (f, h, 0) (fun t _ => sJoiM b nn nr nt cc t)).2.2))) ([.ref mo] : List Value).toArray s 0 0 (gA g)) (F0 m 160 ls []) := by
      intro l1 l2 l3 l4 I_746 J_747 AI_748 H locs ls zl1 zl2 zl3 zl4 hv hT pf hBad hx9 hl12 hH hS hl
      (try clear u_68_18); (try clear u_68_16); (try clear u_68_14); (try clear u_68_5); (try clear u_68_2); (try clear b_55)
      have uc_2 : (I_746 mo 2).toInt = (I mo 2).toInt := by rw [pf 2 (by decide) (by decide) (by decide) (by decide) (by decide)]
      have uc_5 : (I_746 mo 5).toInt = (I mo 5).toInt := by rw [pf 5 (by decide) (by decide) (by decide) (by decide) (by decide)]
      have uc_14 : (I_746 mo 14).toInt = (I mo 14).toInt := by rw [pf 14 (by decide) (by decide) (by decide) (by decide) (by decide)]
      have uc_16 : (I_746 mo 16).toInt = (I mo 16).toInt := by rw [pf 16 (by decide) (by decide) (by decide) (by decide) (by decide)]
      have uc_18 : (I_746 mo 18).toInt = (I mo 18).toInt := by rw [pf 18 (by decide) (by decide) (by decide) (by decide) (by decide)]
      obtain ⟨fb9, hb9, q9, hQ, hfin⟩ := hBad
      have q9f := mQ_f hQ q9
      have q9p := mQ_p hQ
      refine lv_aload_n F.1 F.2.1 dX7_joinTold_160 rfl (lv_at hl 0 rfl) ?_
      refine lv_iload_n F.1 F.2.1 dX7_joinTold_161 rfl (lv_at hl 1 rfl) ?_
      have b_751 := mJ hv hm
      unfold mNum1 at b_751
      refine g_calli (g_runV (As := [.int (iI l1)]) (rest := []) (ci := 7) F hl.1 hH hS hz (c_X7_columns l g gh T I_746 R J_747 AI_748 AJ AR mo l1 zl1 hv hm hT (by omega)) (cwV 1 F.2.2.2.2.1 (good_up gT_X7_columns) rfl rfl rfl hdX7_columns ⟨Nat.le_of_ble_eq_true rfl, Nat.le_of_ble_eq_true rfl⟩) hm (by decide) rfl rfl rfl (Nat.le_of_ble_eq_true rfl) dX7_joinTold_162 ⟨Nat.zero_le _, Nat.zero_le _⟩) hS (fun v_758 I_752 R_753 J_754 AI_755 AJ_756 AR_757 H locs zv_758 hp_759 hH hS => ?_)
      dsimp only at hp_759
      obtain ⟨rfl, rfl, rfl, rfl, rfl, rfl, q_750⟩ := hp_759
      have hca : Hid ((I_746 mo 24).toInt = 0 → 1 ≤ tI (AI_748 (gh 53 0)) (40 * l1 + 1) ∧ tI (AI_748 (gh 53 0)) (40 * l1 + 1) ≤ 4) := fun h => mCol hv hm (z := l1) (by omega) (by omega)
      have hcb : Hid ((I_746 mo 24).toInt = 0 → 1 ≤ tI (AI_748 (gh 53 0)) (40 * l2 + 1) ∧ tI (AI_748 (gh 53 0)) (40 * l2 + 1) ≤ 4) := fun h => mCol hv hm (z := l2) (by omega) (by omega)
      refine lv_istore (lv' := [(6, .int (iI v_758)), (0, .ref mo), (1, .int (iI l1)), (2, .int (iI l2)), (3, .int (iI l3)), (4, .int (iI l4))]) F.1 F.2.1 dX7_joinTold_165 hl (by decide) rfl (fun ls hl => ?_)
      refine z_iconst F dX7_joinTold_167 ?_
      refine lv_istore (lv' := [(7, .int (iI 0)), (6, .int (iI v_758)), (0, .ref mo), (1, .int (iI l1)), (2, .int (iI l2)), (3, .int (iI l3)), (4, .int (iI l4))]) F.1 F.2.1 dX7_joinTold_168 hl (by decide) rfl (fun ls hl => ?_)
      have cut_170_759 : ∀ (NN : Nat) (cl d : Int) (H : Heap) (locs : List Loc) (ls : Array Slot), zr cl → zr d → (0 ≤ d ∧ ((I_746 mo 24).toInt = 0 → d ≤ 4 ∧ d ≤ tI (AI_748 (gh 53 0)) (40 * l2 + 1) ∧ cl = tI (AI_748 (gh 53 0)) (40 * l1 + 1) + mCnt l4 d.toNat)) → ((tI (AI_748 (gh 53 0)) (40 * l2 + 1) - d).toNat : Int) < ((NN : Nat) : Int) → gH g I_746 R J_747 AI_748 AJ AR H → va_S (gA g) s.heap H locs → lv_has ls 8 [(7, .int (iI d)), (6, .int (iI cl)), (0, .ref mo), (1, .int (iI l1)), (2, .int (iI l2)), (3, .int (iI l3)), (4, .int (iI l4))] → W p l e rmX7_joinToldf s m ([.ref mo] : List Value).toArray below meth c H locs 0 0 (MQ below (gQv g (fun w : gS => R = w.2.1 ∧ AJ = w.2.2.2.2.1 ∧ AR = w.2.2.2.2.2 ∧ (mInv g gh R (w.1) (w.2.2.2.1)) ∧ ((w.2.2.2.1) (gh 50 0) = T) ∧ (qF mo I (w.1)) ∧ (((w.1) mo 20).toInt ≤ 936 ∧ (I mo 24).toInt ≤ ((w.1) mo 24).toInt) ∧ (((w.1) mo 24).toInt = 0 → ((w.1) mo 21).toInt = 4 → ((w.1) mo 23).toInt = 59 → rowOK ((w.2.2.2.1) (gh 53 0)) M) ∧ (((w.1) mo 24).toInt = 0 → tI ((w.2.2.2.1) (gh 53 0)) (40 * M) = 3) ∧ (mQ gh (w.1) (w.2.2.1) (w.2.2.2.1) AJ mo b nn nr nt cc (thn (f, h, 0) (fun t _ => sJoiM b nn nr nt cc t)).1 (thn (f, h, 0) (fun t _ => sJoiM b nn nr nt cc t)).2.1) ∧ (pIc (thn (f, h, 0) (fun t _ => sJoiM b nn nr nt cc t)).1 (pK b nn (thn (f, h, 0) (fun t _ => sJoiM b nn nr nt cc t)).2.1) (tI ((w.2.2.2.1) (gh 53 0)) (40 * (nr : Int) + 1)) (thn (f, h, 0) (fun t _ => sJoiM b nn nr nt cc t)).2.2))) ([.ref mo] : List Value).toArray s 0 0 (gA g)) (F0 m 170 ls []) := by
        intro NN170
        induction NN170 with
        | zero =>
          intro cl d H locs ls zcl zd hcl hm170 hH hS hl
          exact absurd hm170 (by omega)
        | succ NN170 ih170 =>
          intro cl d H locs ls zcl zd hcl hm170 hH hS hl
          have hmd := mCnt_0 (x := l4) (a := d.toNat)
          have hmu := mCnt_u (x := l4) (a := d.toNat)
          refine lv_iload F.1 F.2.1 dX7_joinTold_170 (lv_at hl 0 rfl) ?_
          refine lv_aload_n F.1 F.2.1 dX7_joinTold_172 rfl (lv_at hl 2 rfl) ?_
          refine lv_iload_n F.1 F.2.1 dX7_joinTold_173 rfl (lv_at hl 4 rfl) ?_
          refine g_calli (g_runV (As := [.int (iI l2)]) (rest := [.int (iI d)]) (ci := 7) F hl.1 hH hS hz (c_X7_columns l g gh T I_746 R J_747 AI_748 AJ AR mo l2 zl2 hv hm hT (by omega)) (cwV 1 F.2.2.2.2.1 (good_up gT_X7_columns) rfl rfl rfl hdX7_columns ⟨Nat.le_of_ble_eq_true rfl, Nat.le_of_ble_eq_true rfl⟩) hm (by decide) rfl rfl rfl (Nat.le_of_ble_eq_true rfl) dX7_joinTold_174 ⟨Nat.zero_le _, Nat.zero_le _⟩) hS (fun v_768 I_762 R_763 J_764 AI_765 AJ_766 AR_767 H locs zv_768 hp_769 hH hS => ?_)
          dsimp only at hp_769
          obtain ⟨rfl, rfl, rfl, rfl, rfl, rfl, q_761⟩ := hp_769
          refine z_icmp_ge (tgt := 199) F dX7_joinTold_177 (by decide) zd zv_768 (fun c_770 => ?_) (fun c_770 => ?_)
          · have hcx : Hid ((I_746 mo 24).toInt = 0 → cl = tI (AI_748 (gh 53 0)) (40 * l1 + 1) + mCnt l4 (tI (AI_748 (gh 53 0)) (40 * l2 + 1)).toNat) := fun hf => by rw [← (show d = tI (AI_748 (gh 53 0)) (40 * l2 + 1) by have q := hcl.2 hf; omega)]; exact (hcl.2 hf).2.2
            obtain ⟨f9, ef9⟩ : ∃ q, q = (I_746 mo 24).toInt := ⟨_, rfl⟩
            have hm0 := mCnt_0 (x := l4) (a := (tI (AI_748 (gh 53 0)) (40 * l2 + 1)).toNat)
            refine lv_aload_n F.1 F.2.1 dX7_joinTold_199 rfl (lv_at hl 2 rfl) ?_
            refine z_bipush F dX7_joinTold_200 (by decide) ?_
            refine g_calli (g_runV (As := [.int (iI 59)]) (rest := []) (ci := 7) F hl.1 hH hS hz (c_X7_isSignf l g gh T b nn nr nt cc fb9 hb9 I_746 R J_747 AI_748 AJ AR mo 59 ⟨by decide, by decide⟩ hv hm hT h65 hbM hr7 (by omega) hn9 (by omega) (by omega) hQ) (cwV 1 F.2.2.2.2.1 (good_up gT_X7_isSign) rfl rfl rfl hdX7_isSign ⟨Nat.le_of_ble_eq_true rfl, Nat.le_of_ble_eq_true rfl⟩) hm (by decide) rfl rfl rfl (Nat.le_of_ble_eq_true rfl) dX7_joinTold_202 ⟨Nat.zero_le _, Nat.zero_le _⟩) hS (fun v_777 I_771 R_772 J_773 AI_774 AJ_775 AR_776 H locs zv_777 hp_778 hH hS => ?_)
            dsimp only at hp_778
            obtain ⟨rfl, rfl, rfl, rfl, rfl, rfl, q_779, q_780⟩ := hp_778
            replace q_779 := q_779.1
            refine z_if_eq (tgt := 219) F dX7_joinTold_205 (by decide) zv_777 (fun c_781 => ?_) (fun c_781 => ?_)
            · have t_782 := tIz_0 q_780 (by omega)
              refine lv_aload_n F.1 F.2.1 dX7_joinTold_219 rfl (lv_at hl 2 rfl) ?_
              refine z_iconst F dX7_joinTold_220 ?_
              refine lv_iload F.1 F.2.1 dX7_joinTold_221 (lv_at hl 1 rfl) ?_
              refine lv_iload_n F.1 F.2.1 dX7_joinTold_223 rfl (lv_at hl 3 rfl) ?_
              refine lv_iload_n F.1 F.2.1 dX7_joinTold_224 rfl (lv_at hl 4 rfl) ?_
              refine lv_iload_n F.1 F.2.1 dX7_joinTold_225 rfl (lv_at hl 5 rfl) ?_
              refine g_callv (g_runV (As := [.int (iI 3), .int (iI cl), .int (iI l1), .int (iI l2), .int (iI l3)]) (rest := []) (ci := 7) F hl.1 hH hS hz (c_X7_header l g gh T M I_746 R J_747 AI_748 AJ AR mo 3 cl l1 l2 l3 ⟨by decide, by decide⟩ zcl zl1 zl2 zl3 hv hm hT (by omega) (by omega)) (cwV 5 F.2.2.2.2.1 (good_up gT_X7_header) rfl rfl rfl hdX7_header ⟨Nat.le_of_ble_eq_true rfl, Nat.le_of_ble_eq_true rfl⟩) hm (by decide) rfl rfl rfl (Nat.le_of_ble_eq_true rfl) dX7_joinTold_226 ⟨Nat.zero_le _, Nat.zero_le _⟩) hS (fun I_783 R_784 J_785 AI_786 AJ_787 AR_788 H locs hp_789 hH hS => ?_)
              dsimp only at hp_789
              obtain ⟨rfl, rfl, rfl, rfl, rfl, hv, hT, hhd⟩ := hp_789
              replace hhd := hid hhd
              have hQ : mQ gh I_746 J_747 AI_786 AJ mo b nn nr nt cc fb9 hb9 := mQ_bad hQ (by omega) rfl
              refine lv_aload_n F.1 F.2.1 dX7_joinTold_229 rfl (lv_at hl 2 rfl) ?_
              refine z_iconst F dX7_joinTold_230 ?_
              refine lv_iload F.1 F.2.1 dX7_joinTold_231 (lv_at hl 6 rfl) ?_
              refine g_callv (g_runV (As := [.int (iI 5), .int (iI l4)]) (rest := []) (ci := 7) F hl.1 hH hS hz (c_X7_sets l g gh T M I_746 R J_747 AI_786 AJ AR mo 5 l4 ⟨by decide, by decide⟩ zl4 hv hm hT (by omega) (by omega) (by omega)) (cwV 2 F.2.2.2.2.1 (good_up gT_X7_sets) rfl rfl rfl hdX7_sets ⟨Nat.le_of_ble_eq_true rfl, Nat.le_of_ble_eq_true rfl⟩) hm (by decide) rfl rfl rfl (Nat.le_of_ble_eq_true rfl) dX7_joinTold_233 ⟨Nat.zero_le _, Nat.zero_le _⟩) hS (fun I_790 R_791 J_792 AI_793 AJ_794 AR_795 H locs hp_796 hH hS => ?_)
              dsimp only at hp_796
              obtain ⟨rfl, rfl, rfl, rfl, rfl, hv, hT, hs1⟩ := hp_796
              replace hs1 := hid hs1
              have hQ : mQ gh I_746 J_747 AI_793 AJ mo b nn nr nt cc fb9 hb9 := mQ_bad hQ (by omega) rfl
              exact g_vret F hr hlk hH hS hz ⟨rfl, rfl, rfl, hv, hT, pf, by first | (dsimp only; omega) | omega | rfl, by (try dsimp only); exact (fun hf => absurd hf (by omega)), by (try dsimp only); exact (fun hf => absurd hf (by omega)), by (try dsimp only); rw [hfin]; exact hQ, by (try dsimp only); rw [hfin]; exact pIc_n (by omega)⟩ dX7_joinTold_236
            · exact absurd (tIz_1 q_780 (by omega)).1 (by omega)
          · refine lv_iload F.1 F.2.1 dX7_joinTold_180 (lv_at hl 6 rfl) ?_
            refine lv_iload F.1 F.2.1 dX7_joinTold_182 (lv_at hl 0 rfl) ?_
            refine lv_ishr F.1 F.2.1 dX7_joinTold_184 ?_
            refine z_top (fun v_797 zv_797 ev_797 => ?_)
            refine z_iconst F dX7_joinTold_185 ?_
            refine lv_iand F.1 F.2.1 dX7_joinTold_186 ?_
            refine z_top (fun v_798 zv_798 ev_798 => ?_)
            have hb : v_798 = mBit l4 d := by rw [ev_798, ev_797]; rfl
            have hb01 := mBit01 l4 d
            refine z_if_ne (tgt := 193) F dX7_joinTold_187 (by decide) zv_798 (fun c_799 => ?_) (fun c_799 => ?_)
            · refine z_iinc (lv' := [(7, .int (iI (d + 1))), (6, .int (iI cl)), (0, .ref mo), (1, .int (iI l1)), (2, .int (iI l2)), (3, .int (iI l3)), (4, .int (iI l4))]) F dX7_joinTold_193 hl (k := 0) rfl (by decide) rfl (fun ls hl => ?_)
              refine z_goto (tgt := 170) F dX7_joinTold_196 (by decide) ?_
              exact ih170 cl (d + 1) H locs ls zcl ⟨by omega, by omega⟩ (⟨by omega, fun hf => ⟨by have q := hcb hf; omega, by omega, by have q := hcl.2 hf; rw [mCnt_z (by omega) (by omega)]; omega⟩⟩) (by omega) hH hS (lv_sub hl [0, 1, 2, 3, 4, 5, 6] rfl)
            · refine z_iinc (lv' := [(6, .int (iI (cl + 1))), (7, .int (iI d)), (0, .ref mo), (1, .int (iI l1)), (2, .int (iI l2)), (3, .int (iI l3)), (4, .int (iI l4))]) F dX7_joinTold_190 hl (k := 1) rfl (by decide) rfl (fun ls hl => ?_)
              obtain ⟨c9, zc9, ec9, fc9⟩ := z_wrap (cl + 1)
              rw [ec9] at hl
              refine z_iinc (lv' := [(7, .int (iI (d + 1))), (6, .int (iI c9)), (0, .ref mo), (1, .int (iI l1)), (2, .int (iI l2)), (3, .int (iI l3)), (4, .int (iI l4))]) F dX7_joinTold_193 hl (k := 1) rfl (by decide) rfl (fun ls hl => ?_)
              refine z_goto (tgt := 170) F dX7_joinTold_196 (by decide) ?_
              exact ih170 c9 (d + 1) H locs ls zc9 ⟨by omega, by omega⟩ (⟨by omega, fun hf => ⟨by have q := hcb hf; omega, by omega, by have q := hcl.2 hf; have q1 := hca hf; have q2 := fc9 (by omega); rw [mCnt_s (by omega) (by omega)]; omega⟩⟩) (by omega) hH hS (lv_sub hl [0, 1, 2, 3, 4, 5, 6] rfl)
      exact cut_170_759 ((((tI (AI_748 (gh 53 0)) (40 * l2 + 1) - 0).toNat : Int) + 1 : Int).toNat) v_758 0 H locs ls zv_758 ⟨by decide, by decide⟩ (⟨by omega, fun hf => ⟨by omega, by have q := hcb hf; omega, by show _ = _ + (0 : Int); omega⟩⟩) (by omega) hH hS (lv_sub hl [0, 1, 2, 3, 4, 5, 6] rfl)
    refine lv_aload_n F.1 F.2.1 dX7_joinTold_0 rfl (lv_at hl 0 rfl) ?_
    have b_800 := mJ hv hm
    unfold mNum1 at b_800
    refine g_calli (g_runV (As := []) (rest := []) (ci := 7) F hl.1 hH hS hz (c_X7_relationf l g gh T b nn nr nt cc f h I R J AI AJ AR mo hv hm hT (by omega) h65 hbM hr7 (by omega) hn9 (by omega) hQ) (cwV 0 F.2.2.2.2.1 (good_up gT_X7_relation) rfl rfl rfl hdX7_relation ⟨Nat.le_of_ble_eq_true rfl, Nat.le_of_ble_eq_true rfl⟩) hm (by decide) rfl rfl rfl (Nat.le_of_ble_eq_true rfl) dX7_joinTold_1 ⟨Nat.zero_le _, Nat.zero_le _⟩) hS (fun v_807 I_801 R_802 J_803 AI_804 AJ_805 AR_806 H locs zv_807 hp_808 hH hS => ?_)
    dsimp only at hp_808
    obtain ⟨r_809, er_809⟩ : ∃ qQ : pR, qQ = thn (f, h, 0) (fun t _ => sRl b nn nr nt cc t) := ⟨_, rfl⟩
    rw [← er_809] at hp_808
    obtain ⟨rfl, rfl, rfl, rfl, hv, pfq, q_810, q_811, hQ, q_812⟩ := hp_808
    have pf := qF_t pf pfq
    have u_813_2 : (I_801 mo 2).toInt = (I mo 2).toInt := by rw [pf 2 (by decide) (by decide) (by decide) (by decide) (by decide)]
    have u_813_5 : (I_801 mo 5).toInt = (I mo 5).toInt := by rw [pf 5 (by decide) (by decide) (by decide) (by decide) (by decide)]
    have u_813_14 : (I_801 mo 14).toInt = (I mo 14).toInt := by rw [pf 14 (by decide) (by decide) (by decide) (by decide) (by decide)]
    have u_813_16 : (I_801 mo 16).toInt = (I mo 16).toInt := by rw [pf 16 (by decide) (by decide) (by decide) (by decide) (by decide)]
    have u_813_18 : (I_801 mo 18).toInt = (I mo 18).toInt := by rw [pf 18 (by decide) (by decide) (by decide) (by decide) (by decide)]
    rw [thn_b (by omega)] at er_809
    have hQ : mQ gh I_801 J_803 AI AJ mo b nn nr nt cc f h := by rw [er_809] at hQ; exact hQ
    replace q_811 := (⟨q_811.1, q_811.2.1⟩ : _ ∧ _)
    obtain ⟨fa0, efa0⟩ : ∃ q, q = (I_801 mo 24).toInt := ⟨_, rfl⟩
    have hra : Hid (fa0 = 0 → v_807 < M) := fun h9 => by omega
    refine lv_istore_n (lv' := [(1, .int (iI v_807)), (0, .ref mo)]) F.1 F.2.1 dX7_joinTold_4 rfl hl (by decide) rfl (fun ls hl => ?_)
    refine lv_aload_n F.1 F.2.1 dX7_joinTold_5 rfl (lv_at hl 1 rfl) ?_
    have b_814 := mJ hv hm
    unfold mNum1 at b_814
    refine g_calli (g_runV (As := []) (rest := []) (ci := 7) F hl.1 hH hS hz (c_X7_relationf l g gh T b nn nr nt cc f h I_801 R J_803 AI AJ AR mo hv hm hT (by omega) h65 hbM hr7 (by omega) hn9 (by omega) hQ) (cwV 0 F.2.2.2.2.1 (good_up gT_X7_relation) rfl rfl rfl hdX7_relation ⟨Nat.le_of_ble_eq_true rfl, Nat.le_of_ble_eq_true rfl⟩) hm (by decide) rfl rfl rfl (Nat.le_of_ble_eq_true rfl) dX7_joinTold_6 ⟨Nat.zero_le _, Nat.zero_le _⟩) hS (fun v_821 I_815 R_816 J_817 AI_818 AJ_819 AR_820 H locs zv_821 hp_822 hH hS => ?_)
    dsimp only at hp_822
    obtain ⟨r_823, er_823⟩ : ∃ qQ : pR, qQ = thn (f, h, 0) (fun t _ => sRl b nn nr nt cc t) := ⟨_, rfl⟩
    rw [← er_823] at hp_822
    obtain ⟨rfl, rfl, rfl, rfl, hv, pfq, q_824, q_825, hQ, q_826⟩ := hp_822
    have pf := qF_t pf pfq
    have u_827_2 : (I_815 mo 2).toInt = (I mo 2).toInt := by rw [pf 2 (by decide) (by decide) (by decide) (by decide) (by decide)]
    have u_827_5 : (I_815 mo 5).toInt = (I mo 5).toInt := by rw [pf 5 (by decide) (by decide) (by decide) (by decide) (by decide)]
    have u_827_14 : (I_815 mo 14).toInt = (I mo 14).toInt := by rw [pf 14 (by decide) (by decide) (by decide) (by decide) (by decide)]
    have u_827_16 : (I_815 mo 16).toInt = (I mo 16).toInt := by rw [pf 16 (by decide) (by decide) (by decide) (by decide) (by decide)]
    have u_827_18 : (I_815 mo 18).toInt = (I mo 18).toInt := by rw [pf 18 (by decide) (by decide) (by decide) (by decide) (by decide)]
    rw [thn_b (by omega)] at er_823
    have hQ : mQ gh I_815 J_817 AI AJ mo b nn nr nt cc f h := by rw [er_823] at hQ; exact hQ
    replace q_825 := (⟨q_825.1, q_825.2.1⟩ : _ ∧ _)
    obtain ⟨f0, ef0⟩ : ∃ q, q = (I_815 mo 24).toInt := ⟨_, rfl⟩
    have hr2 : Hid (f0 = 0 → v_821 < M ∧ fa0 = 0) := fun h9 => by omega
    refine lv_istore_n (lv' := [(2, .int (iI v_821)), (1, .int (iI v_807)), (0, .ref mo)]) F.1 F.2.1 dX7_joinTold_9 rfl hl (by decide) rfl (fun ls hl => ?_)
    refine lv_aload_n F.1 F.2.1 dX7_joinTold_10 rfl (lv_at hl 2 rfl) ?_
    refine va_ldcS F.1 F.2.1 F.2.2.2.1 (F.2.2.2.2.2.2.1 14 _ rfl).1 dX7_joinTold_11 ?_
    have b_828 := mJ hv hm
    unfold mNum1 at b_828
    refine g_callv (g_runV (As := [.ref (gSK g 14)]) (rest := []) (ci := 7) F hl.1 hH hS hz (c_X7_mustWordf l g gh T 14 _ 12 b nn nr nt cc f h I_815 R J_817 AI AJ AR mo hv hm hT (by omega) (rfl : sTab[14]? = some _) h65 hbM hr7 (by omega) hn9 (by omega) (by decide) (by decide +kernel) hQ) (cwV 1 F.2.2.2.2.1 (good_up gT_X7_mustWord) rfl rfl rfl hdX7_mustWord ⟨Nat.le_of_ble_eq_true rfl, Nat.le_of_ble_eq_true rfl⟩) hm (by decide) rfl rfl rfl (Nat.le_of_ble_eq_true rfl) dX7_joinTold_13 ⟨Nat.zero_le _, Nat.zero_le _⟩) hS (fun I_829 R_830 J_831 AI_832 AJ_833 AR_834 H locs hp_835 hH hS => ?_)
    dsimp only at hp_835
    obtain ⟨r_836, er_836⟩ : ∃ qQ : pR, qQ = thn (f, h, 0) (fun t _ => sTw b nn ((12 : Nat) : Int) t) := ⟨_, rfl⟩
    rw [← er_836] at hp_835
    obtain ⟨rfl, rfl, rfl, rfl, hv, pfq, q_837, hQ⟩ := hp_835
    have pf := qF_t pf pfq
    have u_838_2 : (I_829 mo 2).toInt = (I mo 2).toInt := by rw [pf 2 (by decide) (by decide) (by decide) (by decide) (by decide)]
    have u_838_5 : (I_829 mo 5).toInt = (I mo 5).toInt := by rw [pf 5 (by decide) (by decide) (by decide) (by decide) (by decide)]
    have u_838_14 : (I_829 mo 14).toInt = (I mo 14).toInt := by rw [pf 14 (by decide) (by decide) (by decide) (by decide) (by decide)]
    have u_838_16 : (I_829 mo 16).toInt = (I mo 16).toInt := by rw [pf 16 (by decide) (by decide) (by decide) (by decide) (by decide)]
    have u_838_18 : (I_829 mo 18).toInt = (I mo 18).toInt := by rw [pf 18 (by decide) (by decide) (by decide) (by decide) (by decide)]
    rw [thn_b (by omega)] at er_836
    have hQ : mQ gh I_829 J_831 AI AJ mo b nn nr nt cc f h := by rw [er_836] at hQ; exact hQ
    refine z_iconst F dX7_joinTold_16 ?_
    refine lv_istore_n (lv' := [(3, .int (iI 0)), (2, .int (iI v_821)), (1, .int (iI v_807)), (0, .ref mo)]) F.1 F.2.1 dX7_joinTold_17 rfl hl (by decide) rfl (fun ls hl => ?_)
    refine z_iconst F dX7_joinTold_18 ?_
    refine lv_istore (lv' := [(4, .int (iI 0)), (3, .int (iI 0)), (2, .int (iI v_821)), (1, .int (iI v_807)), (0, .ref mo)]) F.1 F.2.1 dX7_joinTold_19 hl (by decide) rfl (fun ls hl => ?_)
    refine z_iconst F dX7_joinTold_21 ?_
    refine lv_istore (lv' := [(5, .int (iI 1)), (4, .int (iI 0)), (3, .int (iI 0)), (2, .int (iI v_821)), (1, .int (iI v_807)), (0, .ref mo)]) F.1 F.2.1 dX7_joinTold_22 hl (by decide) rfl (fun ls hl => ?_)
    refine lv_iload F.1 F.2.1 dX7_joinTold_24 (lv_at hl 0 rfl) ?_
    refine z_if_eq (tgt := 160) F dX7_joinTold_26 (by decide) ⟨by decide, by decide⟩ (fun c_839 => ?_) (fun c_839 => ?_)
    · exact absurd trivial (by omega)
    · refine lv_aload_n F.1 F.2.1 dX7_joinTold_29 rfl (lv_at hl 5 rfl) ?_
      refine g_getI (ci := 7) (k := 24) F hH rfl (by decide) iX7 hm (by decide) rfl k81 dX7_joinTold_30 ?_
      have b_840 := mJ hv hm
      unfold mNum1 at b_840
      refine z_if_ne (tgt := 160) F dX7_joinTold_33 (by decide) (zr_t _) (fun c_841 => ?_) (fun c_841 => ?_)
      · have hfin : thn (f, h, 0) (fun t _ => sJoiM b nn nr nt cc t) = (f, h, 0) := thn_b q0
        exact cut_160_748 v_807 v_821 0 0 I_829 J_831 AI H locs ls zv_807 zv_821 ⟨by decide, by decide⟩ ⟨by decide, by decide⟩ hv hT pf ⟨_, _, by omega, hQ, hfin⟩ (by omega) (by omega) hH hS (lv_sub hl [5, 4, 3, 2, 1] rfl)
      · exact absurd (mQ_z hQ (by omega)) (by omega)
