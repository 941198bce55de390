def rmX7_joinToldg : Room := { frames := 8, cells := 0, slots := 0, locals := 170 }
set_option maxHeartbeats 4000000 in
set_option maxRecDepth 100000 in
/-- a join told -/
theorem c_X7_joinToldg (l : Launch) (g : gG) (gh : gGh) (T : Nat → Int32) (M : Int) (b : tTx) (nn nr : Nat) (nt : Nat → Nat) (cc : Nat → Int) (f : Int) (h : Nat) (I : gI) (R : gR) (J : gJ) (AI : gI) (AJ : gJ) (AR : gR) (mo : Nat) (hv : mInv g gh R I AI) (hm : gO g mo 7) (hT : AI (gh 50 0) = T) (hE : (I mo 20).toInt ≤ 936) (hM : (I mo 24).toInt = 0 → (I mo 5).toInt ≤ 15) (hMM : (I mo 5).toInt = M) (h65 : gh 9 (gh 65 0) ≠ 5) (hbM : ∀ k : Nat, k < nn → ((gM g).2 (gh 65 0) k).toInt = b k % 256) (hr7 : ∀ k : Nat, -128 ≤ b k ∧ b k ≤ 127) (hsz : (I mo 18).toInt = (nn : Int)) (hn9 : nn ≤ 900) (hm5 : (I mo 5).toInt = (nr : Int)) (hQ : mQ gh I J AI AJ mo b nn nr nt cc f h) : gMet l g yX7_joinTold tsX7_joinTold rmX7_joinToldg [.ref mo] (I, R, J, AI, AJ, AR) (gQv g (fun w : gS => R = w.2.1 ∧ AJ = w.2.2.2.2.1 ∧ AR = w.2.2.2.2.2 ∧ (mInv g gh R (w.1) (w.2.2.2.1)) ∧ ((w.2.2.2.1) (gh 50 0) = T) ∧ (qF mo I (w.1)) ∧ (((w.1) mo 20).toInt ≤ 936 ∧ (I mo 24).toInt ≤ ((w.1) mo 24).toInt) ∧ (((w.1) mo 24).toInt = 0 → ((w.1) mo 21).toInt = 4 → ((w.1) mo 23).toInt = 59 → rowOK ((w.2.2.2.1) (gh 53 0)) M) ∧ (((w.1) mo 24).toInt = 0 → tI ((w.2.2.2.1) (gh 53 0)) (40 * M) = 3) ∧ (mQ gh (w.1) (w.2.2.1) (w.2.2.2.1) AJ mo b nn nr nt cc (thn (f, h, 0) (fun t _ => sJoiM b nn nr nt cc t)).1 (thn (f, h, 0) (fun t _ => sJoiM b nn nr nt cc t)).2.1) ∧ (pIc (thn (f, h, 0) (fun t _ => sJoiM b nn nr nt cc t)).1 (pK b nn (thn (f, h, 0) (fun t _ => sJoiM b nn nr nt cc t)).2.1) (tI ((w.2.2.2.1) (gh 53 0)) (40 * (nr : Int) + 1)) (thn (f, h, 0) (fun t _ => sJoiM b nn nr nt cc t)).2.2) ∧ (zIf (thn (f, h, 0) (fun t _ => sJoiM b nn nr nt cc t)).1 (frM M (AI (gh 53 0)) ((w.2.2.2.1) (gh 53 0)))) ∧ (zIf (thn (f, h, 0) (fun t _ => sJoiM b nn nr nt cc t)).1 (mJoi b nn nr nt h ((w.2.2.2.1) (gh 53 0)) M)) ∧ (∀ b, b ≠ gh 53 0 → (w.2.2.2.1) b = AI b))) := by
  refine gStart (cc := cX7_joinTold) (maxL := 8) (ret := none) (by decide) rfl (Nat.le_of_ble_eq_true rfl) ?_
  intro p e s m below meth c ls F hr hlk hH hz hS hl
  have hl : lv_has ls 8 [(0, .ref mo)] := hl
  have hS : va_S (gA g) s.heap s.heap [] := hS
  obtain ⟨H, hHe⟩ : ∃ H : Heap, H = s.heap := ⟨_, rfl⟩
  obtain ⟨locs, hlo⟩ : ∃ k : List Loc, k = [] := ⟨_, rfl⟩
  have hH : gH g I R J AI AJ AR H := by rw [hHe]; exact hH
  have hS : va_S (gA g) s.heap H locs := by rw [hHe, hlo]; exact hS
  suffices hw : W p l e rmX7_joinToldg s m ([.ref mo] : List Value).toArray below meth c H locs 0 0 (MQ below (gQv g (fun w : gS => R = w.2.1 ∧ AJ = w.2.2.2.2.1 ∧ AR = w.2.2.2.2.2 ∧ (mInv g gh R (w.1) (w.2.2.2.1)) ∧ ((w.2.2.2.1) (gh 50 0) = T) ∧ (qF mo I (w.1)) ∧ (((w.1) mo 20).toInt ≤ 936 ∧ (I mo 24).toInt ≤ ((w.1) mo 24).toInt) ∧ (((w.1) mo 24).toInt = 0 → ((w.1) mo 21).toInt = 4 → ((w.1) mo 23).toInt = 59 → rowOK ((w.2.2.2.1) (gh 53 0)) M) ∧ (((w.1) mo 24).toInt = 0 → tI ((w.2.2.2.1) (gh 53 0)) (40 * M) = 3) ∧ (mQ gh (w.1) (w.2.2.1) (w.2.2.2.1) AJ mo b nn nr nt cc (thn (f, h, 0) (fun t _ => sJoiM b nn nr nt cc t)).1 (thn (f, h, 0) (fun t _ => sJoiM b nn nr nt cc t)).2.1) ∧ (pIc (thn (f, h, 0) (fun t _ => sJoiM b nn nr nt cc t)).1 (pK b nn (thn (f, h, 0) (fun t _ => sJoiM b nn nr nt cc t)).2.1) (tI ((w.2.2.2.1) (gh 53 0)) (40 * (nr : Int) + 1)) (thn (f, h, 0) (fun t _ => sJoiM b nn nr nt cc t)).2.2) ∧ (zIf (thn (f, h, 0) (fun t _ => sJoiM b nn nr nt cc t)).1 (frM M (AI (gh 53 0)) ((w.2.2.2.1) (gh 53 0)))) ∧ (zIf (thn (f, h, 0) (fun t _ => sJoiM b nn nr nt cc t)).1 (mJoi b nn nr nt h ((w.2.2.2.1) (gh 53 0)) M)) ∧ (∀ b, b ≠ gh 53 0 → (w.2.2.2.1) b = AI b))) ([.ref mo] : List Value).toArray s 0 0 (gA g)) (F0 m 0 ls []) by
    rw [hHe, hlo] at hw; exact hw
  clear hHe hlo
  have pf : qF mo I I := qF_r
  have hb0 := mJ hv hm
  unfold mNum1 at hb0
  have hfr : frM M (AI (gh 53 0)) (AI (gh 53 0)) := frM_r
  have iX7 : ∀ w ∈ u_ws RX7 TX7 32, w ∈ tsX7_joinTold := fun w h => List.mem_cons_of_mem _ (inTB7 w h)
  have k81 : Cond.fieldLink RX7 81 (TX7 24).1 (TX7 24).2.1 (TX7 24).2.2.1 ∈ tsX7_joinTold := List.mem_cons_of_mem _ fl_81
  have k94 : Cond.fieldLink RX7 94 (TX7 21).1 (TX7 21).2.1 (TX7 21).2.2.1 ∈ tsX7_joinTold := List.mem_cons_of_mem _ fl_94
  have k97 : Cond.fieldLink RX7 97 (TX7 23).1 (TX7 23).2.1 (TX7 23).2.2.1 ∈ tsX7_joinTold := List.mem_cons_of_mem _ fl_97
  have hf0 := mQ_p hQ
  by_cases q0 : f = 0
  · have hQ := mQ_ok hQ q0
    have hz0 := mQ_0 hQ rfl
    have cut_160_3 : ∀ (l1 l2 l3 l4 : Int) (I_1 : gI) (J_2 : gJ) (AI_3 : gI) (H : Heap) (locs : List Loc) (ls : Array Slot), zr l1 → zr l2 → zr l3 → zr l4 → (mInv g gh R I_1 AI_3) → (AI_3 (gh 50 0) = T) → (qF mo I I_1) → (∃ (f9 : Int) (h9 : Nat), f9 ≠ 0 ∧ mQ gh I_1 J_2 AI_3 AJ mo b nn nr nt cc f9 h9 ∧ thn (f, h, 0) (fun t _ => sJoiM b nn nr nt cc t) = (f9, h9, 0)) → ((I_1 mo 20).toInt ≤ 936 ∧ (I mo 24).toInt ≤ (I_1 mo 24).toInt) → (0 ≤ l1 ∧ l1 ≤ 15 ∧ 0 ≤ l2 ∧ l2 ≤ 15) → (∀ b, b ≠ gh 53 0 → AI_3 b = AI b) → gH g I_1 R J_2 AI_3 AJ AR H → va_S (gA g) s.heap H locs → lv_has ls 8 [(0, .ref mo), (1, .int (iI l1)), (2, .int (iI l2)), (3, .int (iI l3)), (4, .int (iI l4))] → W p l e rmX7_joinToldg s m ([.ref mo] : List Value).toArray below meth c H locs 0 0 (MQ below (gQv g (fun w : gS => R = w.2.1 ∧ AJ = w.2.2.2.2.1 ∧ AR = w.2.2.2.2.2 ∧ (mInv g gh R (w.1) (w.2.2.2.1)) ∧ ((w.2.2.2.1) (gh 50 0) = T) ∧ (qF mo I (w.1)) ∧ (((w.1) mo 20).toInt ≤ 936 ∧ (I mo 24).toInt ≤ ((w.1) mo 24).toInt) ∧ (((w.1) mo 24).toInt = 0 → ((w.1) mo 21).toInt = 4 → ((w.1) mo 23).toInt = 59 → rowOK ((w.2.2.2.1) (gh 53 0)) M) ∧ (((w.1) mo 24).toInt = 0 → tI ((w.2.2.2.1) (gh 53 0)) (40 * M) = 3) ∧ (mQ gh (w.1) (w.2.2.1) (w.2.2.2.1) AJ mo b nn nr nt cc (thn (f, h, 0) (fun t _ => sJoiM b nn nr nt cc t)).1 (thn (f, h, 0) (fun t _ => sJoiM b nn nr nt cc t)).2.1) ∧ (pIc (thn (f, h, 0) (fun t _ => sJoiM b nn nr nt cc t)).1 (pK b nn (thn (f, h, 0) (fun t _ => sJoiM b nn nr nt cc t)).2.1) (tI ((w.2.2.2.1) (gh 53 0)) (40 * (nr : Int) + 1)) (thn (f, h, 0) (fun t _ => sJoiM b nn nr nt cc t)).2.2) ∧ (zIf (thn (f, h, 0) (fun t _ => sJoiM b nn nr nt cc t)).1 (frM M (AI (gh 53 0)) ((w.2.2.2.1) (gh 53 0)))) ∧ (zIf (thn (f, h, 0) (fun t _ => sJoiM b nn nr nt cc t)).1 (mJoi b nn nr nt h ((w.2.2.2.1) (gh 53 0)) M)) ∧ (∀ b, b ≠ gh 53 0 → (w.2.2.2.1) b = AI b))) ([.ref mo] : List Value).toArray s 0 0 (gA g)) (F0 m 160 ls []) := by
      intro l1 l2 l3 l4 I_1 J_2 AI_3 H locs ls zl1 zl2 zl3 zl4 hv hT pf hBad hx9 hl12 fA9 hH hS hl
      have uc_2 : (I_1 mo 2).toInt = (I mo 2).toInt := by rw [pf 2 (by decide) (by decide) (by decide) (by decide) (by decide)]
      have uc_5 : (I_1 mo 5).toInt = (I mo 5).toInt := by rw [pf 5 (by decide) (by decide) (by decide) (by decide) (by decide)]
      have uc_14 : (I_1 mo 14).toInt = (I mo 14).toInt := by rw [pf 14 (by decide) (by decide) (by decide) (by decide) (by decide)]
      have uc_16 : (I_1 mo 16).toInt = (I mo 16).toInt := by rw [pf 16 (by decide) (by decide) (by decide) (by decide) (by decide)]
      have uc_18 : (I_1 mo 18).toInt = (I mo 18).toInt := by rw [pf 18 (by decide) (by decide) (by decide) (by decide) (by decide)]
      obtain ⟨fb9, hb9, q9, hQ, hfin⟩ := hBad
      have q9f := mQ_f hQ q9
      have q9p := mQ_p hQ
      refine lv_aload_n F.1 F.2.1 dX7_joinTold_160 rfl (lv_at hl 0 rfl) ?_
      refine lv_iload_n F.1 F.2.1 dX7_joinTold_161 rfl (lv_at hl 1 rfl) ?_
      have b_6 := mJ hv hm
      unfold mNum1 at b_6
      refine g_calli (g_runV (As := [.int (iI l1)]) (rest := []) (ci := 7) F hl.1 hH hS hz (c_X7_columns l g gh T I_1 R J_2 AI_3 AJ AR mo l1 zl1 hv hm hT (by omega)) (cwV 1 F.2.2.2.2.1 (good_up gT_X7_columns) rfl rfl rfl hdX7_columns ⟨Nat.le_of_ble_eq_true rfl, Nat.le_of_ble_eq_true rfl⟩) hm (by decide) rfl rfl rfl (Nat.le_of_ble_eq_true rfl) dX7_joinTold_162 ⟨Nat.zero_le _, Nat.zero_le _⟩) hS (fun v_13 I_7 R_8 J_9 AI_10 AJ_11 AR_12 H locs zv_13 hp_14 hH hS => ?_)
      dsimp only at hp_14
      obtain ⟨rfl, rfl, rfl, rfl, rfl, rfl, q_5⟩ := hp_14
      have hca : Hid ((I_1 mo 24).toInt = 0 → 1 ≤ tI (AI_3 (gh 53 0)) (40 * l1 + 1) ∧ tI (AI_3 (gh 53 0)) (40 * l1 + 1) ≤ 4) := fun h => mCol hv hm (z := l1) (by omega) (by omega)
      have hcb : Hid ((I_1 mo 24).toInt = 0 → 1 ≤ tI (AI_3 (gh 53 0)) (40 * l2 + 1) ∧ tI (AI_3 (gh 53 0)) (40 * l2 + 1) ≤ 4) := fun h => mCol hv hm (z := l2) (by omega) (by omega)
      refine lv_istore (lv' := [(6, .int (iI v_13)), (0, .ref mo), (1, .int (iI l1)), (2, .int (iI l2)), (3, .int (iI l3)), (4, .int (iI l4))]) F.1 F.2.1 dX7_joinTold_165 hl (by decide) rfl (fun ls hl => ?_)
      refine z_iconst F dX7_joinTold_167 ?_
      refine lv_istore (lv' := [(7, .int (iI 0)), (6, .int (iI v_13)), (0, .ref mo), (1, .int (iI l1)), (2, .int (iI l2)), (3, .int (iI l3)), (4, .int (iI l4))]) F.1 F.2.1 dX7_joinTold_168 hl (by decide) rfl (fun ls hl => ?_)
      have cut_170_14 : ∀ (NN : Nat) (cl d : Int) (H : Heap) (locs : List Loc) (ls : Array Slot), zr cl → zr d → (0 ≤ d ∧ ((I_1 mo 24).toInt = 0 → d ≤ 4 ∧ d ≤ tI (AI_3 (gh 53 0)) (40 * l2 + 1) ∧ cl = tI (AI_3 (gh 53 0)) (40 * l1 + 1) + mCnt l4 d.toNat)) → ((tI (AI_3 (gh 53 0)) (40 * l2 + 1) - d).toNat : Int) < ((NN : Nat) : Int) → gH g I_1 R J_2 AI_3 AJ AR H → va_S (gA g) s.heap H locs → lv_has ls 8 [(7, .int (iI d)), (6, .int (iI cl)), (0, .ref mo), (1, .int (iI l1)), (2, .int (iI l2)), (3, .int (iI l3)), (4, .int (iI l4))] → W p l e rmX7_joinToldg s m ([.ref mo] : List Value).toArray below meth c H locs 0 0 (MQ below (gQv g (fun w : gS => R = w.2.1 ∧ AJ = w.2.2.2.2.1 ∧ AR = w.2.2.2.2.2 ∧ (mInv g gh R (w.1) (w.2.2.2.1)) ∧ ((w.2.2.2.1) (gh 50 0) = T) ∧ (qF mo I (w.1)) ∧ (((w.1) mo 20).toInt ≤ 936 ∧ (I mo 24).toInt ≤ ((w.1) mo 24).toInt) ∧ (((w.1) mo 24).toInt = 0 → ((w.1) mo 21).toInt = 4 → ((w.1) mo 23).toInt = 59 → rowOK ((w.2.2.2.1) (gh 53 0)) M) ∧ (((w.1) mo 24).toInt = 0 → tI ((w.2.2.2.1) (gh 53 0)) (40 * M) = 3) ∧ (mQ gh (w.1) (w.2.2.1) (w.2.2.2.1) AJ mo b nn nr nt cc (thn (f, h, 0) (fun t _ => sJoiM b nn nr nt cc t)).1 (thn (f, h, 0) (fun t _ => sJoiM b nn nr nt cc t)).2.1) ∧ (pIc (thn (f, h, 0) (fun t _ => sJoiM b nn nr nt cc t)).1 (pK b nn (thn (f, h, 0) (fun t _ => sJoiM b nn nr nt cc t)).2.1) (tI ((w.2.2.2.1) (gh 53 0)) (40 * (nr : Int) + 1)) (thn (f, h, 0) (fun t _ => sJoiM b nn nr nt cc t)).2.2) ∧ (zIf (thn (f, h, 0) (fun t _ => sJoiM b nn nr nt cc t)).1 (frM M (AI (gh 53 0)) ((w.2.2.2.1) (gh 53 0)))) ∧ (zIf (thn (f, h, 0) (fun t _ => sJoiM b nn nr nt cc t)).1 (mJoi b nn nr nt h ((w.2.2.2.1) (gh 53 0)) M)) ∧ (∀ b, b ≠ gh 53 0 → (w.2.2.2.1) b = AI b))) ([.ref mo] : List Value).toArray s 0 0 (gA g)) (F0 m 170 ls []) := by
        intro NN170
        induction NN170 with
        | zero =>
          intro cl d H locs ls zcl zd hcl hm170 hH hS hl
          exact absurd hm170 (by omega)
        | succ NN170 ih170 =>
          intro cl d H locs ls zcl zd hcl hm170 hH hS hl
          have hmd := mCnt_0 (x := l4) (a := d.toNat)
          have hmu := mCnt_u (x := l4) (a := d.toNat)
          refine lv_iload F.1 F.2.1 dX7_joinTold_170 (lv_at hl 0 rfl) ?_
          refine lv_aload_n F.1 F.2.1 dX7_joinTold_172 rfl (lv_at hl 2 rfl) ?_
          refine lv_iload_n F.1 F.2.1 dX7_joinTold_173 rfl (lv_at hl 4 rfl) ?_
          refine g_calli (g_runV (As := [.int (iI l2)]) (rest := [.int (iI d)]) (ci := 7) F hl.1 hH hS hz (c_X7_columns l g gh T I_1 R J_2 AI_3 AJ AR mo l2 zl2 hv hm hT (by omega)) (cwV 1 F.2.2.2.2.1 (good_up gT_X7_columns) rfl rfl rfl hdX7_columns ⟨Nat.le_of_ble_eq_true rfl, Nat.le_of_ble_eq_true rfl⟩) hm (by decide) rfl rfl rfl (Nat.le_of_ble_eq_true rfl) dX7_joinTold_174 ⟨Nat.zero_le _, Nat.zero_le _⟩) hS (fun v_23 I_17 R_18 J_19 AI_20 AJ_21 AR_22 H locs zv_23 hp_24 hH hS => ?_)
          dsimp only at hp_24
          obtain ⟨rfl, rfl, rfl, rfl, rfl, rfl, q_16⟩ := hp_24
          refine z_icmp_ge (tgt := 199) F dX7_joinTold_177 (by decide) zd zv_23 (fun c_25 => ?_) (fun c_25 => ?_)
          · have hcx : Hid ((I_1 mo 24).toInt = 0 → cl = tI (AI_3 (gh 53 0)) (40 * l1 + 1) + mCnt l4 (tI (AI_3 (gh 53 0)) (40 * l2 + 1)).toNat) := fun hf => by rw [← (show d = tI (AI_3 (gh 53 0)) (40 * l2 + 1) by have q := hcl.2 hf; omega)]; exact (hcl.2 hf).2.2
            obtain ⟨f9, ef9⟩ : ∃ q, q = (I_1 mo 24).toInt := ⟨_, rfl⟩
            have hm0 := mCnt_0 (x := l4) (a := (tI (AI_3 (gh 53 0)) (40 * l2 + 1)).toNat)
            refine lv_aload_n F.1 F.2.1 dX7_joinTold_199 rfl (lv_at hl 2 rfl) ?_
            refine z_bipush F dX7_joinTold_200 (by decide) ?_
            refine g_calli (g_runV (As := [.int (iI 59)]) (rest := []) (ci := 7) F hl.1 hH hS hz (c_X7_isSignf l g gh T b nn nr nt cc fb9 hb9 I_1 R J_2 AI_3 AJ AR mo 59 ⟨by decide, by decide⟩ hv hm hT h65 hbM hr7 (by omega) hn9 (by omega) (by omega) hQ) (cwV 1 F.2.2.2.2.1 (good_up gT_X7_isSign) rfl rfl rfl hdX7_isSign ⟨Nat.le_of_ble_eq_true rfl, Nat.le_of_ble_eq_true rfl⟩) hm (by decide) rfl rfl rfl (Nat.le_of_ble_eq_true rfl) dX7_joinTold_202 ⟨Nat.zero_le _, Nat.zero_le _⟩) hS (fun v_32 I_26 R_27 J_28 AI_29 AJ_30 AR_31 H locs zv_32 hp_33 hH hS => ?_)
            dsimp only at hp_33
            obtain ⟨rfl, rfl, rfl, rfl, rfl, rfl, q_34, q_35⟩ := hp_33
            replace q_34 := q_34.1
            refine z_if_eq (tgt := 219) F dX7_joinTold_205 (by decide) zv_32 (fun c_36 => ?_) (fun c_36 => ?_)
            · have t_37 := tIz_0 q_35 (by omega)
              refine lv_aload_n F.1 F.2.1 dX7_joinTold_219 rfl (lv_at hl 2 rfl) ?_
              refine z_iconst F dX7_joinTold_220 ?_
              refine lv_iload F.1 F.2.1 dX7_joinTold_221 (lv_at hl 1 rfl) ?_
              refine lv_iload_n F.1 F.2.1 dX7_joinTold_223 rfl (lv_at hl 3 rfl) ?_
              refine lv_iload_n F.1 F.2.1 dX7_joinTold_224 rfl (lv_at hl 4 rfl) ?_
              refine lv_iload_n F.1 F.2.1 dX7_joinTold_225 rfl (lv_at hl 5 rfl) ?_
              refine g_callv (g_runV (As := [.int (iI 3), .int (iI cl), .int (iI l1), .int (iI l2), .int (iI l3)]) (rest := []) (ci := 7) F hl.1 hH hS hz (c_X7_headerg l g gh T M I_1 R J_2 AI_3 AJ AR mo 3 cl l1 l2 l3 ⟨by decide, by decide⟩ zcl zl1 zl2 zl3 hv hm hT (by omega) (by omega)) (cwV 5 F.2.2.2.2.1 (good_up gT_X7_header) rfl rfl rfl hdX7_header ⟨Nat.le_of_ble_eq_true rfl, Nat.le_of_ble_eq_true rfl⟩) hm (by decide) rfl rfl rfl (Nat.le_of_ble_eq_true rfl) dX7_joinTold_226 ⟨Nat.zero_le _, Nat.zero_le _⟩) hS (fun I_38 R_39 J_40 AI_41 AJ_42 AR_43 H locs hp_44 hH hS => ?_)
              dsimp only at hp_44
              obtain ⟨rfl, rfl, rfl, rfl, rfl, hv, hT, hhd, q_45⟩ := hp_44
              replace hhd := hid hhd
              have hQ : mQ gh I_1 J_2 AI_41 AJ mo b nn nr nt cc fb9 hb9 := mQ_bad hQ (by omega) rfl
              refine lv_aload_n F.1 F.2.1 dX7_joinTold_229 rfl (lv_at hl 2 rfl) ?_
              refine z_iconst F dX7_joinTold_230 ?_
              refine lv_iload F.1 F.2.1 dX7_joinTold_231 (lv_at hl 6 rfl) ?_
              refine g_callv (g_runV (As := [.int (iI 5), .int (iI l4)]) (rest := []) (ci := 7) F hl.1 hH hS hz (c_X7_setsg l g gh T M I_1 R J_2 AI_41 AJ AR mo 5 l4 ⟨by decide, by decide⟩ zl4 hv hm hT (by omega) (by omega) (by omega)) (cwV 2 F.2.2.2.2.1 (good_up gT_X7_sets) rfl rfl rfl hdX7_sets ⟨Nat.le_of_ble_eq_true rfl, Nat.le_of_ble_eq_true rfl⟩) hm (by decide) rfl rfl rfl (Nat.le_of_ble_eq_true rfl) dX7_joinTold_233 ⟨Nat.zero_le _, Nat.zero_le _⟩) hS (fun I_46 R_47 J_48 AI_49 AJ_50 AR_51 H locs hp_52 hH hS => ?_)
              dsimp only at hp_52
              obtain ⟨rfl, rfl, rfl, rfl, rfl, hv, hT, hs1, q_53⟩ := hp_52
              replace hs1 := hid hs1
              have hQ : mQ gh I_1 J_2 AI_49 AJ mo b nn nr nt cc fb9 hb9 := mQ_bad hQ (by omega) rfl
              exact g_vret F hr hlk hH hS hz ⟨rfl, rfl, rfl, hv, hT, pf, by first | (dsimp only; omega) | omega | rfl, by (try dsimp only); exact (fun hf => absurd hf (by omega)), by (try dsimp only); exact (fun hf => absurd hf (by omega)), by (try dsimp only); rw [hfin]; exact hQ, by (try dsimp only); rw [hfin]; exact pIc_n (by omega), by (try dsimp only); rw [hfin]; exact zIf_n (by omega), by (try dsimp only); rw [hfin]; exact zIf_n (by omega), fun b hb => ((q_53 b hb).trans (q_45 b hb)).trans (fA9 b hb)⟩ dX7_joinTold_236
            · exact absurd (tIz_1 q_35 (by omega)).1 (by omega)
          · refine lv_iload F.1 F.2.1 dX7_joinTold_180 (lv_at hl 6 rfl) ?_
            refine lv_iload F.1 F.2.1 dX7_joinTold_182 (lv_at hl 0 rfl) ?_
            refine lv_ishr F.1 F.2.1 dX7_joinTold_184 ?_
            refine z_top (fun v_54 zv_54 ev_54 => ?_)
            refine z_iconst F dX7_joinTold_185 ?_
            refine lv_iand F.1 F.2.1 dX7_joinTold_186 ?_
            refine z_top (fun v_55 zv_55 ev_55 => ?_)
            have hb : v_55 = mBit l4 d := by rw [ev_55, ev_54]; rfl
            have hb01 := mBit01 l4 d
            refine z_if_ne (tgt := 193) F dX7_joinTold_187 (by decide) zv_55 (fun c_56 => ?_) (fun c_56 => ?_)
            · refine z_iinc (lv' := [(7, .int (iI (d + 1))), (6, .int (iI cl)), (0, .ref mo), (1, .int (iI l1)), (2, .int (iI l2)), (3, .int (iI l3)), (4, .int (iI l4))]) F dX7_joinTold_193 hl (k := 0) rfl (by decide) rfl (fun ls hl => ?_)
              refine z_goto (tgt := 170) F dX7_joinTold_196 (by decide) ?_
              exact ih170 cl (d + 1) H locs ls zcl ⟨by omega, by omega⟩ (⟨by omega, fun hf => ⟨by have q := hcb hf; omega, by omega, by have q := hcl.2 hf; rw [mCnt_z (by omega) (by omega)]; omega⟩⟩) (by omega) hH hS (lv_sub hl [0, 1, 2, 3, 4, 5, 6] rfl)
            · refine z_iinc (lv' := [(6, .int (iI (cl + 1))), (7, .int (iI d)), (0, .ref mo), (1, .int (iI l1)), (2, .int (iI l2)), (3, .int (iI l3)), (4, .int (iI l4))]) F dX7_joinTold_190 hl (k := 1) rfl (by decide) rfl (fun ls hl => ?_)
              obtain ⟨c9, zc9, ec9, fc9⟩ := z_wrap (cl + 1)
              rw [ec9] at hl
              refine z_iinc (lv' := [(7, .int (iI (d + 1))), (6, .int (iI c9)), (0, .ref mo), (1, .int (iI l1)), (2, .int (iI l2)), (3, .int (iI l3)), (4, .int (iI l4))]) F dX7_joinTold_193 hl (k := 1) rfl (by decide) rfl (fun ls hl => ?_)
              refine z_goto (tgt := 170) F dX7_joinTold_196 (by decide) ?_
              exact ih170 c9 (d + 1) H locs ls zc9 ⟨by omega, by omega⟩ (⟨by omega, fun hf => ⟨by have q := hcb hf; omega, by omega, by have q := hcl.2 hf; have q1 := hca hf; have q2 := fc9 (by omega); rw [mCnt_s (by omega) (by omega)]; omega⟩⟩) (by omega) hH hS (lv_sub hl [0, 1, 2, 3, 4, 5, 6] rfl)
      exact cut_170_14 ((((tI (AI_3 (gh 53 0)) (40 * l2 + 1) - 0).toNat : Int) + 1 : Int).toNat) v_13 0 H locs ls zv_13 ⟨by decide, by decide⟩ (⟨by omega, fun hf => ⟨by omega, by have q := hcb hf; omega, by show _ = _ + (0 : Int); omega⟩⟩) (by omega) hH hS (lv_sub hl [0, 1, 2, 3, 4, 5, 6] rfl)
    refine lv_aload_n F.1 F.2.1 dX7_joinTold_0 rfl (lv_at hl 0 rfl) ?_
    have b_57 := mJ hv hm
    unfold mNum1 at b_57
    refine g_calli (g_runV (As := []) (rest := []) (ci := 7) F hl.1 hH hS hz (c_X7_relationg l g gh T b nn nr nt cc 0 h I R J AI AJ AR mo hv hm hT (by omega) h65 hbM hr7 (by omega) hn9 (by omega) hQ) (cwV 0 F.2.2.2.2.1 (good_up gT_X7_relation) rfl rfl rfl hdX7_relation ⟨Nat.le_of_ble_eq_true rfl, Nat.le_of_ble_eq_true rfl⟩) hm (by decide) rfl rfl rfl (Nat.le_of_ble_eq_true rfl) dX7_joinTold_1 ⟨Nat.zero_le _, Nat.zero_le _⟩) hS (fun v_64 I_58 R_59 J_60 AI_61 AJ_62 AR_63 H locs zv_64 hp_65 hH hS => ?_)
    dsimp only at hp_65
    obtain ⟨r_66, er_66⟩ : ∃ qQ : pR, qQ = thn (0, h, 0) (fun t _ => sRl b nn nr nt cc t) := ⟨_, rfl⟩
    rw [← er_66] at hp_65
    obtain ⟨rfl, rfl, rfl, rfl, hv, pfq, q_67, q_68, hQ, q_69, q_70⟩ := hp_65
    have pf := qF_t pf pfq
    have u_71_2 : (I_58 mo 2).toInt = (I mo 2).toInt := by rw [pf 2 (by decide) (by decide) (by decide) (by decide) (by decide)]
    have u_71_5 : (I_58 mo 5).toInt = (I mo 5).toInt := by rw [pf 5 (by decide) (by decide) (by decide) (by decide) (by decide)]
    have u_71_14 : (I_58 mo 14).toInt = (I mo 14).toInt := by rw [pf 14 (by decide) (by decide) (by decide) (by decide) (by decide)]
    have u_71_16 : (I_58 mo 16).toInt = (I mo 16).toInt := by rw [pf 16 (by decide) (by decide) (by decide) (by decide) (by decide)]
    have u_71_18 : (I_58 mo 18).toInt = (I mo 18).toInt := by rw [pf 18 (by decide) (by decide) (by decide) (by decide) (by decide)]
    have er_66 : r_66 = sRl b nn nr nt cc h := er_66
    have sr_66 := er_66
    rcases sRl_c er_66 with ⟨er_66, pr_66⟩ | ⟨er_66, pr_66⟩
    · have hQ : mQ gh I_58 J_60 AI AJ mo b nn nr nt cc 0 (h + 1) := by rw [er_66] at hQ; exact hQ
      have sr_66 : sRl b nn nr nt cc h = (0, h + 1, cF b nn nr nt cc h) := sr_66.symm.trans er_66
      have vlr_66 := q_69 (by rw [er_66])
      try rw [er_66] at vlr_66
      try dsimp only at vlr_66
      replace q_68 := (⟨q_68.1, q_68.2.1, q_68.2.2 (mQ_0 hQ rfl)⟩ : _ ∧ _ ∧ _)
      have vfr_66 := q_70 (by rw [er_66])
      try rw [er_66] at vfr_66
      try dsimp only at vfr_66
      obtain ⟨fa0, efa0⟩ : ∃ q, q = (I_58 mo 24).toInt := ⟨_, rfl⟩
      have hra : Hid (fa0 = 0 → v_64 < M) := fun h9 => by omega
      refine lv_istore_n (lv' := [(1, .int (iI v_64)), (0, .ref mo)]) F.1 F.2.1 dX7_joinTold_4 rfl hl (by decide) rfl (fun ls hl => ?_)
      refine lv_aload_n F.1 F.2.1 dX7_joinTold_5 rfl (lv_at hl 1 rfl) ?_
      have b_72 := mJ hv hm
      unfold mNum1 at b_72
      refine g_calli (g_runV (As := []) (rest := []) (ci := 7) F hl.1 hH hS hz (c_X7_relationg l g gh T b nn nr nt cc 0 (h + 1) I_58 R J_60 AI AJ AR mo hv hm hT (by omega) h65 hbM hr7 (by omega) hn9 (by omega) hQ) (cwV 0 F.2.2.2.2.1 (good_up gT_X7_relation) rfl rfl rfl hdX7_relation ⟨Nat.le_of_ble_eq_true rfl, Nat.le_of_ble_eq_true rfl⟩) hm (by decide) rfl rfl rfl (Nat.le_of_ble_eq_true rfl) dX7_joinTold_6 ⟨Nat.zero_le _, Nat.zero_le _⟩) hS (fun v_79 I_73 R_74 J_75 AI_76 AJ_77 AR_78 H locs zv_79 hp_80 hH hS => ?_)
      dsimp only at hp_80
      obtain ⟨r_81, er_81⟩ : ∃ qQ : pR, qQ = thn (0, (h + 1), 0) (fun t _ => sRl b nn nr nt cc t) := ⟨_, rfl⟩
      rw [← er_81] at hp_80
      obtain ⟨rfl, rfl, rfl, rfl, hv, pfq, q_82, q_83, hQ, q_84, q_85⟩ := hp_80
      have pf := qF_t pf pfq
      have u_86_2 : (I_73 mo 2).toInt = (I mo 2).toInt := by rw [pf 2 (by decide) (by decide) (by decide) (by decide) (by decide)]
      have u_86_5 : (I_73 mo 5).toInt = (I mo 5).toInt := by rw [pf 5 (by decide) (by decide) (by decide) (by decide) (by decide)]
      have u_86_14 : (I_73 mo 14).toInt = (I mo 14).toInt := by rw [pf 14 (by decide) (by decide) (by decide) (by decide) (by decide)]
      have u_86_16 : (I_73 mo 16).toInt = (I mo 16).toInt := by rw [pf 16 (by decide) (by decide) (by decide) (by decide) (by decide)]
      have u_86_18 : (I_73 mo 18).toInt = (I mo 18).toInt := by rw [pf 18 (by decide) (by decide) (by decide) (by decide) (by decide)]
      have er_81 : r_81 = sRl b nn nr nt cc (h + 1) := er_81
      have sr_81 := er_81
      rcases sRl_c er_81 with ⟨er_81, pr_81⟩ | ⟨er_81, pr_81⟩
      · have hQ : mQ gh I_73 J_75 AI AJ mo b nn nr nt cc 0 (h + 2) := by rw [er_81] at hQ; exact hQ
        have sr_81 : sRl b nn nr nt cc (h + 1) = (0, h + 2, cF b nn nr nt cc (h + 1)) := sr_81.symm.trans er_81
        have vlr_81 := q_84 (by rw [er_81])
        try rw [er_81] at vlr_81
        try dsimp only at vlr_81
        replace q_83 := (⟨q_83.1, q_83.2.1, q_83.2.2 (mQ_0 hQ rfl)⟩ : _ ∧ _ ∧ _)
        have vfr_81 := q_85 (by rw [er_81])
        try rw [er_81] at vfr_81
        try dsimp only at vfr_81
        obtain ⟨f0, ef0⟩ : ∃ q, q = (I_73 mo 24).toInt := ⟨_, rfl⟩
        have hr2 : Hid (f0 = 0 → v_79 < M ∧ fa0 = 0) := fun h9 => by omega
        refine lv_istore_n (lv' := [(2, .int (iI v_79)), (1, .int (iI v_64)), (0, .ref mo)]) F.1 F.2.1 dX7_joinTold_9 rfl hl (by decide) rfl (fun ls hl => ?_)
        refine lv_aload_n F.1 F.2.1 dX7_joinTold_10 rfl (lv_at hl 2 rfl) ?_
        refine va_ldcS F.1 F.2.1 F.2.2.2.1 (F.2.2.2.2.2.2.1 14 _ rfl).1 dX7_joinTold_11 ?_
        have b_87 := mJ hv hm
        unfold mNum1 at b_87
        refine g_callv (g_runV (As := [.ref (gSK g 14)]) (rest := []) (ci := 7) F hl.1 hH hS hz (c_X7_mustWordf l g gh T 14 _ 12 b nn nr nt cc 0 (h + 2) I_73 R J_75 AI AJ AR mo hv hm hT (by omega) (rfl : sTab[14]? = some _) h65 hbM hr7 (by omega) hn9 (by omega) (by decide) (by decide +kernel) hQ) (cwV 1 F.2.2.2.2.1 (good_up gT_X7_mustWord) rfl rfl rfl hdX7_mustWord ⟨Nat.le_of_ble_eq_true rfl, Nat.le_of_ble_eq_true rfl⟩) hm (by decide) rfl rfl rfl (Nat.le_of_ble_eq_true rfl) dX7_joinTold_13 ⟨Nat.zero_le _, Nat.zero_le _⟩) hS (fun I_88 R_89 J_90 AI_91 AJ_92 AR_93 H locs hp_94 hH hS => ?_)
        dsimp only at hp_94
        obtain ⟨r_95, er_95⟩ : ∃ qQ : pR, qQ = thn (0, (h + 2), 0) (fun t _ => sTw b nn ((12 : Nat) : Int) t) := ⟨_, rfl⟩
        rw [← er_95] at hp_94
        obtain ⟨rfl, rfl, rfl, rfl, hv, pfq, q_96, hQ⟩ := hp_94
        have pf := qF_t pf pfq
        have u_97_2 : (I_88 mo 2).toInt = (I mo 2).toInt := by rw [pf 2 (by decide) (by decide) (by decide) (by decide) (by decide)]
        have u_97_5 : (I_88 mo 5).toInt = (I mo 5).toInt := by rw [pf 5 (by decide) (by decide) (by decide) (by decide) (by decide)]
        have u_97_14 : (I_88 mo 14).toInt = (I mo 14).toInt := by rw [pf 14 (by decide) (by decide) (by decide) (by decide) (by decide)]
        have u_97_16 : (I_88 mo 16).toInt = (I mo 16).toInt := by rw [pf 16 (by decide) (by decide) (by decide) (by decide) (by decide)]
        have u_97_18 : (I_88 mo 18).toInt = (I mo 18).toInt := by rw [pf 18 (by decide) (by decide) (by decide) (by decide) (by decide)]
        have er_95 : r_95 = sTw b nn 12 (h + 2) := er_95
        have sr_95 := er_95
        rcases sTw_c er_95 with ⟨er_95, pr_95⟩ | ⟨er_95, pr_95⟩
        · have hQ : mQ gh I_88 J_90 AI AJ mo b nn nr nt cc 0 (h + 3) := by rw [er_95] at hQ; exact hQ
          have sr_95 : sTw b nn 12 (h + 2) = (0, h + 3, 0) := sr_95.symm.trans er_95
          refine z_iconst F dX7_joinTold_16 ?_
          refine lv_istore_n (lv' := [(3, .int (iI 0)), (2, .int (iI v_79)), (1, .int (iI v_64)), (0, .ref mo)]) F.1 F.2.1 dX7_joinTold_17 rfl hl (by decide) rfl (fun ls hl => ?_)
          refine z_iconst F dX7_joinTold_18 ?_
          refine lv_istore (lv' := [(4, .int (iI 0)), (3, .int (iI 0)), (2, .int (iI v_79)), (1, .int (iI v_64)), (0, .ref mo)]) F.1 F.2.1 dX7_joinTold_19 hl (by decide) rfl (fun ls hl => ?_)
          refine z_iconst F dX7_joinTold_21 ?_
          refine lv_istore (lv' := [(5, .int (iI 1)), (4, .int (iI 0)), (3, .int (iI 0)), (2, .int (iI v_79)), (1, .int (iI v_64)), (0, .ref mo)]) F.1 F.2.1 dX7_joinTold_22 hl (by decide) rfl (fun ls hl => ?_)
          have cut_24_100 : ∀ (NN : Nat) (n gn mr : Int) (I_98 : gI) (J_99 : gJ) (AI_100 : gI) (H : Heap) (locs : List Loc) (ls : Array Slot), zr n → zr gn → zr mr → (mInv g gh R I_98 AI_100) → (AI_100 (gh 50 0) = T) → (qF mo I I_98) → ((I_98 mo 20).toInt ≤ 936 ∧ f0 ≤ (I_98 mo 24).toInt ∧ 0 ≤ n ∧ n ≤ 5) → (Hid ((I_98 mo 24).toInt = 0 → n ≤ 4 ∧ joinP (AI_100 (gh 53 0)) M n)) → (∃ (hc : Nat) (L : List Int), mQ gh I_98 J_99 AI_100 AJ mo b nn nr nt cc 0 hc ∧ sJoi b nn nr nt cc h = sPairs b nn (cF b nn nr nt cc h) (cF b nn nr nt cc (h + 1)) (5 - n).toNat n L hc ∧ mGn gn L ∧ iL nxT (spC b nn) 5 (h + 3) n hc ∧ qAll (rPair b nn M) nxT (AI_100 (gh 53 0)) (h + 3) n ∧ pLm b nn (h + 3) n L) → (mr = 1) → (frM M (AI (gh 53 0)) (AI_100 (gh 53 0))) → (∀ b, b ≠ gh 53 0 → AI_100 b = AI b) → (6 - n) < ((NN : Nat) : Int) → gH g I_98 R J_99 AI_100 AJ AR H → va_S (gA g) s.heap H locs → lv_has ls 8 [(5, .int (iI mr)), (4, .int (iI gn)), (3, .int (iI n)), (2, .int (iI v_79)), (1, .int (iI v_64)), (0, .ref mo)] → W p l e rmX7_joinToldg s m ([.ref mo] : List Value).toArray below meth c H locs 0 0 (MQ below (gQv g (fun w : gS => R = w.2.1 ∧ AJ = w.2.2.2.2.1 ∧ AR = w.2.2.2.2.2 ∧ (mInv g gh R (w.1) (w.2.2.2.1)) ∧ ((w.2.2.2.1) (gh 50 0) = T) ∧ (qF mo I (w.1)) ∧ (((w.1) mo 20).toInt ≤ 936 ∧ (I mo 24).toInt ≤ ((w.1) mo 24).toInt) ∧ (((w.1) mo 24).toInt = 0 → ((w.1) mo 21).toInt = 4 → ((w.1) mo 23).toInt = 59 → rowOK ((w.2.2.2.1) (gh 53 0)) M) ∧ (((w.1) mo 24).toInt = 0 → tI ((w.2.2.2.1) (gh 53 0)) (40 * M) = 3) ∧ (mQ gh (w.1) (w.2.2.1) (w.2.2.2.1) AJ mo b nn nr nt cc (thn (f, h, 0) (fun t _ => sJoiM b nn nr nt cc t)).1 (thn (f, h, 0) (fun t _ => sJoiM b nn nr nt cc t)).2.1) ∧ (pIc (thn (f, h, 0) (fun t _ => sJoiM b nn nr nt cc t)).1 (pK b nn (thn (f, h, 0) (fun t _ => sJoiM b nn nr nt cc t)).2.1) (tI ((w.2.2.2.1) (gh 53 0)) (40 * (nr : Int) + 1)) (thn (f, h, 0) (fun t _ => sJoiM b nn nr nt cc t)).2.2) ∧ (zIf (thn (f, h, 0) (fun t _ => sJoiM b nn nr nt cc t)).1 (frM M (AI (gh 53 0)) ((w.2.2.2.1) (gh 53 0)))) ∧ (zIf (thn (f, h, 0) (fun t _ => sJoiM b nn nr nt cc t)).1 (mJoi b nn nr nt h ((w.2.2.2.1) (gh 53 0)) M)) ∧ (∀ b, b ≠ gh 53 0 → (w.2.2.2.1) b = AI b))) ([.ref mo] : List Value).toArray s 0 0 (gA g)) (F0 m 24 ls []) := by
            intro NN24
            induction NN24 with
            | zero =>
              intro n gn mr I_98 J_99 AI_100 H locs ls zn zgn zmr hv hT pf hx hp hLs hmr hfr fA9 hm24 hH hS hl
              exact absurd hm24 (by omega)
            | succ NN24 ih24 =>
              intro n gn mr I_98 J_99 AI_100 H locs ls zn zgn zmr hv hT pf hx hp hLs hmr hfr fA9 hm24 hH hS hl
              (try clear u_97_18); (try clear u_97_16); (try clear u_97_14); (try clear u_97_5); (try clear u_97_2); (try clear b_87); (try clear u_86_18); (try clear u_86_16); (try clear u_86_14); (try clear u_86_5); (try clear u_86_2); (try clear b_72); (try clear u_71_18); (try clear u_71_16); (try clear u_71_14); (try clear u_71_5); (try clear u_71_2); (try clear b_57)
              have uc_2 : (I_98 mo 2).toInt = (I mo 2).toInt := by rw [pf 2 (by decide) (by decide) (by decide) (by decide) (by decide)]
              have uc_5 : (I_98 mo 5).toInt = (I mo 5).toInt := by rw [pf 5 (by decide) (by decide) (by decide) (by decide) (by decide)]
              have uc_14 : (I_98 mo 14).toInt = (I mo 14).toInt := by rw [pf 14 (by decide) (by decide) (by decide) (by decide) (by decide)]
              have uc_16 : (I_98 mo 16).toInt = (I mo 16).toInt := by rw [pf 16 (by decide) (by decide) (by decide) (by decide) (by decide)]
              have uc_18 : (I_98 mo 18).toInt = (I mo 18).toInt := by rw [pf 18 (by decide) (by decide) (by decide) (by decide) (by decide)]
              obtain ⟨hc, L, hQ, hsq, hcn⟩ := hLs
              have hp_k := hp (mQ_0 hQ rfl)
              obtain ⟨hcn, hil, hqa, hlm⟩ := hcn
              refine lv_iload F.1 F.2.1 dX7_joinTold_24 (lv_at hl 0 rfl) ?_
              refine z_if_eq (tgt := 160) F dX7_joinTold_26 (by decide) zmr (fun c_102 => ?_) (fun c_102 => ?_)
              · exact absurd hmr (by omega)
              · refine lv_aload_n F.1 F.2.1 dX7_joinTold_29 rfl (lv_at hl 5 rfl) ?_
                refine g_getI (ci := 7) (k := 24) F hH rfl (by decide) iX7 hm (by decide) rfl k81 dX7_joinTold_30 ?_
                have b_103 := mJ hv hm
                unfold mNum1 at b_103
                refine z_if_ne (tgt := 160) F dX7_joinTold_33 (by decide) (zr_t _) (fun c_104 => ?_) (fun c_104 => ?_)
                · exact absurd (mQ_0 hQ rfl) (by omega)
                · refine lv_iload_n F.1 F.2.1 dX7_joinTold_36 rfl (lv_at hl 2 rfl) ?_
                  refine z_iconst F dX7_joinTold_37 ?_
                  refine z_icmp_ne (tgt := 82) F dX7_joinTold_38 (by decide) zn ⟨by decide, by decide⟩ (fun c_105 => ?_) (fun c_105 => ?_)
                  · refine lv_aload_n F.1 F.2.1 dX7_joinTold_82 rfl (lv_at hl 5 rfl) ?_
                    refine lv_aload_n F.1 F.2.1 dX7_joinTold_83 rfl (lv_at hl 5 rfl) ?_
                    refine lv_iload_n F.1 F.2.1 dX7_joinTold_84 rfl (lv_at hl 4 rfl) ?_
                    refine g_calli (g_runV (As := [.int (iI v_64)]) (rest := [.ref mo]) (ci := 7) F hl.1 hH hS hz (c_X7_columns l g gh T I_98 R J_99 AI_100 AJ AR mo v_64 zv_64 hv hm hT (by omega)) (cwV 1 F.2.2.2.2.1 (good_up gT_X7_columns) rfl rfl rfl hdX7_columns ⟨Nat.le_of_ble_eq_true rfl, Nat.le_of_ble_eq_true rfl⟩) hm (by decide) rfl rfl rfl (Nat.le_of_ble_eq_true rfl) dX7_joinTold_85 ⟨Nat.zero_le _, Nat.zero_le _⟩) hS (fun v_113 I_107 R_108 J_109 AI_110 AJ_111 AR_112 H locs zv_113 hp_114 hH hS => ?_)
                    dsimp only at hp_114
                    obtain ⟨rfl, rfl, rfl, rfl, rfl, rfl, q_106⟩ := hp_114
                    have cvv_113 : v_113 = cF b nn nr nt cc h := q_106.trans ((mQ_c hQ rfl vlr_66.1 vlr_66.2.1).trans vlr_66.2.2)
                    refine g_calli (g_runV (As := [.int (iI v_113)]) (rest := []) (ci := 7) F hl.1 hH hS hz (c_X7_columnf l g gh T b nn nr nt cc 0 hc I_98 R J_99 AI_100 AJ AR mo v_113 zv_113 hv hm hT (by omega) h65 hbM hr7 (by omega) hn9 (by omega) hQ) (cwV 1 F.2.2.2.2.1 (good_up gT_X7_column) rfl rfl rfl hdX7_column ⟨Nat.le_of_ble_eq_true rfl, Nat.le_of_ble_eq_true rfl⟩) hm (by decide) rfl rfl rfl (Nat.le_of_ble_eq_true rfl) dX7_joinTold_88 ⟨Nat.zero_le _, Nat.zero_le _⟩) hS (fun v_121 I_115 R_116 J_117 AI_118 AJ_119 AR_120 H locs zv_121 hp_122 hH hS => ?_)
                    dsimp only at hp_122
                    rw [show v_113 = cF b nn nr nt cc h by omega] at hp_122
                    obtain ⟨r_123, er_123⟩ : ∃ qQ : pR, qQ = thn (0, hc, 0) (fun t _ => sCol b nn (cF b nn nr nt cc h) t) := ⟨_, rfl⟩
                    rw [← er_123] at hp_122
                    obtain ⟨rfl, rfl, rfl, rfl, hv, pfq, q_124, q_125, hQ, q_126⟩ := hp_122
                    have pf := qF_t pf pfq
                    have u_127_2 : (I_115 mo 2).toInt = (I mo 2).toInt := by rw [pf 2 (by decide) (by decide) (by decide) (by decide) (by decide)]
                    have u_127_5 : (I_115 mo 5).toInt = (I mo 5).toInt := by rw [pf 5 (by decide) (by decide) (by decide) (by decide) (by decide)]
                    have u_127_14 : (I_115 mo 14).toInt = (I mo 14).toInt := by rw [pf 14 (by decide) (by decide) (by decide) (by decide) (by decide)]
                    have u_127_16 : (I_115 mo 16).toInt = (I mo 16).toInt := by rw [pf 16 (by decide) (by decide) (by decide) (by decide) (by decide)]
                    have u_127_18 : (I_115 mo 18).toInt = (I mo 18).toInt := by rw [pf 18 (by decide) (by decide) (by decide) (by decide) (by decide)]
                    have er_123 : r_123 = sCol b nn (cF b nn nr nt cc h) hc := er_123
                    have sr_123 := er_123
                    rcases sCol_c er_123 with ⟨er_123, pr_123⟩ | ⟨er_123, pr_123⟩
                    · have hQ : mQ gh I_115 J_117 AI_100 AJ mo b nn nr nt cc 0 (hc + 1) := by rw [er_123] at hQ; exact hQ
                      have sr_123 : sCol b nn (cF b nn nr nt cc h) hc = (0, hc + 1, pV b nn hc) := sr_123.symm.trans er_123
                      have vlr_123 := q_126 (by rw [er_123])
                      try rw [er_123] at vlr_123
                      try dsimp only at vlr_123
                      have kq_125 := q_125 (mQ_0 hQ rfl)
                      replace q_125 := hid q_125
                      obtain ⟨f1, ef1⟩ : ∃ q, q = (I_115 mo 24).toInt := ⟨_, rfl⟩
                      have hc1 : Hid (f1 = 0 → 0 ≤ v_121 ∧ v_121 ≤ 3) := fun h9 => by omega
                      refine lv_istore (lv' := [(6, .int (iI v_121)), (5, .int (iI mr)), (4, .int (iI gn)), (3, .int (iI n)), (2, .int (iI v_79)), (1, .int (iI v_64)), (0, .ref mo)]) F.1 F.2.1 dX7_joinTold_91 hl (by decide) rfl (fun ls hl => ?_)
                      refine lv_aload_n F.1 F.2.1 dX7_joinTold_93 rfl (lv_at hl 6 rfl) ?_
                      refine z_bipush F dX7_joinTold_94 (by decide) ?_
                      have b_128 := mJ hv hm
                      unfold mNum1 at b_128
                      refine g_callv (g_runV (As := [.int (iI 61)]) (rest := []) (ci := 7) F hl.1 hH hS hz (c_X7_mustSignf l g gh T b nn nr nt cc 0 (hc + 1) I_115 R J_117 AI_100 AJ AR mo 61 ⟨by decide, by decide⟩ hv hm hT (by omega) h65 hbM hr7 (by omega) hn9 (by omega) (by omega) hQ) (cwV 1 F.2.2.2.2.1 (good_up gT_X7_mustSign) rfl rfl rfl hdX7_mustSign ⟨Nat.le_of_ble_eq_true rfl, Nat.le_of_ble_eq_true rfl⟩) hm (by decide) rfl rfl rfl (Nat.le_of_ble_eq_true rfl) dX7_joinTold_96 ⟨Nat.zero_le _, Nat.zero_le _⟩) hS (fun I_129 R_130 J_131 AI_132 AJ_133 AR_134 H locs hp_135 hH hS => ?_)
                      dsimp only at hp_135
                      obtain ⟨r_136, er_136⟩ : ∃ qQ : pR, qQ = thn (0, (hc + 1), 0) (fun t _ => sTk b nn 61 t) := ⟨_, rfl⟩
                      rw [← er_136] at hp_135
                      obtain ⟨rfl, rfl, rfl, rfl, hv, pfq, q_137, q_138, hQ⟩ := hp_135
                      have pf := qF_t pf pfq
                      have u_139_2 : (I_129 mo 2).toInt = (I mo 2).toInt := by rw [pf 2 (by decide) (by decide) (by decide) (by decide) (by decide)]
                      have u_139_5 : (I_129 mo 5).toInt = (I mo 5).toInt := by rw [pf 5 (by decide) (by decide) (by decide) (by decide) (by decide)]
                      have u_139_14 : (I_129 mo 14).toInt = (I mo 14).toInt := by rw [pf 14 (by decide) (by decide) (by decide) (by decide) (by decide)]
                      have u_139_16 : (I_129 mo 16).toInt = (I mo 16).toInt := by rw [pf 16 (by decide) (by decide) (by decide) (by decide) (by decide)]
                      have u_139_18 : (I_129 mo 18).toInt = (I mo 18).toInt := by rw [pf 18 (by decide) (by decide) (by decide) (by decide) (by decide)]
                      have er_136 : r_136 = sTk b nn 61 (hc + 1) := er_136
                      have sr_136 := er_136
                      rcases sTk_c er_136 with ⟨er_136, pr_136⟩ | ⟨er_136, pr_136⟩
                      · have hQ : mQ gh I_129 J_131 AI_100 AJ mo b nn nr nt cc 0 (hc + 2) := by rw [er_136] at hQ; exact hQ
                        have sr_136 : sTk b nn 61 (hc + 1) = (0, hc + 2, 0) := sr_136.symm.trans er_136
                        replace q_138 := hid q_138
                        refine lv_aload_n F.1 F.2.1 dX7_joinTold_99 rfl (lv_at hl 6 rfl) ?_
                        refine lv_aload_n F.1 F.2.1 dX7_joinTold_100 rfl (lv_at hl 6 rfl) ?_
                        refine lv_iload_n F.1 F.2.1 dX7_joinTold_101 rfl (lv_at hl 4 rfl) ?_
                        have b_141 := mJ hv hm
                        unfold mNum1 at b_141
                        refine g_calli (g_runV (As := [.int (iI v_79)]) (rest := [.ref mo]) (ci := 7) F hl.1 hH hS hz (c_X7_columns l g gh T I_129 R J_131 AI_100 AJ AR mo v_79 zv_79 hv hm hT (by omega)) (cwV 1 F.2.2.2.2.1 (good_up gT_X7_columns) rfl rfl rfl hdX7_columns ⟨Nat.le_of_ble_eq_true rfl, Nat.le_of_ble_eq_true rfl⟩) hm (by decide) rfl rfl rfl (Nat.le_of_ble_eq_true rfl) dX7_joinTold_102 ⟨Nat.zero_le _, Nat.zero_le _⟩) hS (fun v_148 I_142 R_143 J_144 AI_145 AJ_146 AR_147 H locs zv_148 hp_149 hH hS => ?_)
                        dsimp only at hp_149
                        obtain ⟨rfl, rfl, rfl, rfl, rfl, rfl, q_140⟩ := hp_149
                        have cvv_148 : v_148 = cF b nn nr nt cc (h + 1) := q_140.trans ((mQ_c hQ rfl vlr_81.1 vlr_81.2.1).trans vlr_81.2.2)
                        refine g_calli (g_runV (As := [.int (iI v_148)]) (rest := []) (ci := 7) F hl.1 hH hS hz (c_X7_columnf l g gh T b nn nr nt cc 0 (hc + 2) I_129 R J_131 AI_100 AJ AR mo v_148 zv_148 hv hm hT (by omega) h65 hbM hr7 (by omega) hn9 (by omega) hQ) (cwV 1 F.2.2.2.2.1 (good_up gT_X7_column) rfl rfl rfl hdX7_column ⟨Nat.le_of_ble_eq_true rfl, Nat.le_of_ble_eq_true rfl⟩) hm (by decide) rfl rfl rfl (Nat.le_of_ble_eq_true rfl) dX7_joinTold_105 ⟨Nat.zero_le _, Nat.zero_le _⟩) hS (fun v_156 I_150 R_151 J_152 AI_153 AJ_154 AR_155 H locs zv_156 hp_157 hH hS => ?_)
                        dsimp only at hp_157
                        rw [show v_148 = cF b nn nr nt cc (h + 1) by omega] at hp_157
                        obtain ⟨r_158, er_158⟩ : ∃ qQ : pR, qQ = thn (0, (hc + 2), 0) (fun t _ => sCol b nn (cF b nn nr nt cc (h + 1)) t) := ⟨_, rfl⟩
                        rw [← er_158] at hp_157
                        obtain ⟨rfl, rfl, rfl, rfl, hv, pfq, q_159, q_160, hQ, q_161⟩ := hp_157
                        have pf := qF_t pf pfq
                        have u_162_2 : (I_150 mo 2).toInt = (I mo 2).toInt := by rw [pf 2 (by decide) (by decide) (by decide) (by decide) (by decide)]
                        have u_162_5 : (I_150 mo 5).toInt = (I mo 5).toInt := by rw [pf 5 (by decide) (by decide) (by decide) (by decide) (by decide)]
                        have u_162_14 : (I_150 mo 14).toInt = (I mo 14).toInt := by rw [pf 14 (by decide) (by decide) (by decide) (by decide) (by decide)]
                        have u_162_16 : (I_150 mo 16).toInt = (I mo 16).toInt := by rw [pf 16 (by decide) (by decide) (by decide) (by decide) (by decide)]
                        have u_162_18 : (I_150 mo 18).toInt = (I mo 18).toInt := by rw [pf 18 (by decide) (by decide) (by decide) (by decide) (by decide)]
                        have er_158 : r_158 = sCol b nn (cF b nn nr nt cc (h + 1)) (hc + 2) := er_158
                        have sr_158 := er_158
                        rcases sCol_c er_158 with ⟨er_158, pr_158⟩ | ⟨er_158, pr_158⟩
                        · have hQ : mQ gh I_150 J_152 AI_100 AJ mo b nn nr nt cc 0 (hc + 3) := by rw [er_158] at hQ; exact hQ
                          have sr_158 : sCol b nn (cF b nn nr nt cc (h + 1)) (hc + 2) = (0, hc + 3, pV b nn (hc + 2)) := sr_158.symm.trans er_158
                          have vlr_158 := q_161 (by rw [er_158])
                          try rw [er_158] at vlr_158
                          try dsimp only at vlr_158
                          have kq_160 := q_160 (mQ_0 hQ rfl)
                          replace q_160 := hid q_160
                          obtain ⟨f2, ef2⟩ : ∃ q, q = (I_150 mo 24).toInt := ⟨_, rfl⟩
                          have hd1 : Hid (f2 = 0 → 0 ≤ v_156 ∧ v_156 ≤ 3) := fun h9 => by omega
                          refine lv_istore (lv' := [(7, .int (iI v_156)), (6, .int (iI v_121)), (5, .int (iI mr)), (4, .int (iI gn)), (3, .int (iI n)), (2, .int (iI v_79)), (1, .int (iI v_64)), (0, .ref mo)]) F.1 F.2.1 dX7_joinTold_108 hl (by decide) rfl (fun ls hl => ?_)
                          refine lv_aload_n F.1 F.2.1 dX7_joinTold_110 rfl (lv_at hl 7 rfl) ?_
                          refine lv_iload_n F.1 F.2.1 dX7_joinTold_111 rfl (lv_at hl 4 rfl) ?_
                          refine lv_iload F.1 F.2.1 dX7_joinTold_112 (lv_at hl 1 rfl) ?_
                          refine lv_iload F.1 F.2.1 dX7_joinTold_114 (lv_at hl 0 rfl) ?_
                          refine z_iconst F dX7_joinTold_116 ?_
                          refine z_iconst F dX7_joinTold_117 ?_
                          have b_163 := mJ hv hm
                          unfold mNum1 at b_163
                          refine g_callv (g_runV (As := [.int (iI n), .int (iI v_121), .int (iI v_156), .int (iI 0), .int (iI 0)]) (rest := []) (ci := 7) F hl.1 hH hS hz (c_X7_setsPartg l g gh T M I_150 R J_152 AI_100 AJ AR mo n v_121 v_156 0 0 zn zv_121 zv_156 ⟨by decide, by decide⟩ ⟨by decide, by decide⟩ hv hm hT (by omega) (by omega) (by omega)) (cwV 5 F.2.2.2.2.1 (good_up gT_X7_setsPart) rfl rfl rfl hdX7_setsPart ⟨Nat.le_of_ble_eq_true rfl, Nat.le_of_ble_eq_true rfl⟩) hm (by decide) rfl rfl rfl (Nat.le_of_ble_eq_true rfl) dX7_joinTold_118 ⟨Nat.zero_le _, Nat.zero_le _⟩) hS (fun I_164 R_165 J_166 AI_167 AJ_168 AR_169 H locs hp_170 hH hS => ?_)
                          dsimp only at hp_170
                          obtain ⟨rfl, rfl, rfl, rfl, rfl, hv, hT, hsp, q_171⟩ := hp_170
                          replace hsp := hid hsp
                          have hQ : mQ gh I_150 J_152 AI_167 AJ mo b nn nr nt cc 0 (hc + 3) := mQ_a hQ (fun hf9 z9 h09 h19 => (hsp hf9).1 z9 h09 (Or.inl (by omega)))
                          have hct := rPair_mk (b := b) (n := nn) (hc := hc) (k := n) (by omega) (hsp (mQ_0 hQ rfl)) (by omega) (by omega)
                          have hqa := rAll_s rPair_l hqa hil (by omega) (Int.le_refl 0) (hsp (mQ_0 hQ rfl)) (by omega) hct
                          have hfr := frM_p hfr (by omega) (hsp (mQ_0 hQ rfl))
                          have hlm := pLm_s hil hlm
                          refine lv_aload_n F.1 F.2.1 dX7_joinTold_121 rfl (lv_at hl 7 rfl) ?_
                          refine g_getI (ci := 7) (k := 24) F hH rfl (by decide) iX7 hm (by decide) rfl k81 dX7_joinTold_122 ?_
                          refine z_if_ne (tgt := 137) F dX7_joinTold_125 (by decide) (zr_t _) (fun c_172 => ?_) (fun c_172 => ?_)
                          · exact absurd (mQ_0 hQ rfl) (by omega)
                          · refine lv_iload F.1 F.2.1 dX7_joinTold_128 (lv_at hl 3 rfl) ?_
                            refine z_iconst F dX7_joinTold_130 ?_
                            refine lv_iload F.1 F.2.1 dX7_joinTold_131 (lv_at hl 0 rfl) ?_
                            refine lv_ishl F.1 F.2.1 dX7_joinTold_133 ?_
                            refine z_top (fun v_173 zv_173 ev_173 => ?_)
                            refine lv_ior F.1 F.2.1 dX7_joinTold_134 ?_
                            refine z_top (fun v_174 zv_174 ev_174 => ?_)
                            have hcn : mGn v_174 (v_156 :: L) := mGn_s hcn (by omega) ev_173 ev_174
                            rw [show v_156 = pV b nn (hc + 2) by omega] at hcn
                            refine lv_istore (lv' := [(4, .int (iI v_174)), (7, .int (iI v_156)), (6, .int (iI v_121)), (5, .int (iI mr)), (3, .int (iI n)), (2, .int (iI v_79)), (1, .int (iI v_64)), (0, .ref mo)]) F.1 F.2.1 dX7_joinTold_135 hl (by decide) rfl (fun ls hl => ?_)
                            refine z_iinc (lv' := [(3, .int (iI (n + 1))), (4, .int (iI v_174)), (7, .int (iI v_156)), (6, .int (iI v_121)), (5, .int (iI mr)), (2, .int (iI v_79)), (1, .int (iI v_64)), (0, .ref mo)]) F dX7_joinTold_137 hl (k := 4) rfl (by decide) rfl (fun ls hl => ?_)
                            refine lv_aload_n F.1 F.2.1 dX7_joinTold_140 rfl (lv_at hl 7 rfl) ?_
                            refine z_bipush F dX7_joinTold_141 (by decide) ?_
                            refine g_calli (g_runV (As := [.int (iI 44)]) (rest := []) (ci := 7) F hl.1 hH hS hz (c_X7_isSignf l g gh T b nn nr nt cc 0 (hc + 3) I_150 R J_152 AI_167 AJ AR mo 44 ⟨by decide, by decide⟩ hv hm hT h65 hbM hr7 (by omega) hn9 (by omega) (by omega) hQ) (cwV 1 F.2.2.2.2.1 (good_up gT_X7_isSign) rfl rfl rfl hdX7_isSign ⟨Nat.le_of_ble_eq_true rfl, Nat.le_of_ble_eq_true rfl⟩) hm (by decide) rfl rfl rfl (Nat.le_of_ble_eq_true rfl) dX7_joinTold_143 ⟨Nat.zero_le _, Nat.zero_le _⟩) hS (fun v_181 I_175 R_176 J_177 AI_178 AJ_179 AR_180 H locs zv_181 hp_182 hH hS => ?_)
                            dsimp only at hp_182
                            obtain ⟨rfl, rfl, rfl, rfl, rfl, rfl, q_183, q_184⟩ := hp_182
                            replace q_183 := q_183.1
                            refine lv_istore (lv' := [(5, .int (iI v_181)), (3, .int (iI (n + 1))), (4, .int (iI v_174)), (7, .int (iI v_156)), (6, .int (iI v_121)), (2, .int (iI v_79)), (1, .int (iI v_64)), (0, .ref mo)]) F.1 F.2.1 dX7_joinTold_146 hl (by decide) rfl (fun ls hl => ?_)
                            refine lv_iload F.1 F.2.1 dX7_joinTold_148 (lv_at hl 0 rfl) ?_
                            refine z_if_eq (tgt := 157) F dX7_joinTold_150 (by decide) zv_181 (fun c_185 => ?_) (fun c_185 => ?_)
                            · have t_186 := tIz_n q_184 (by omega)
                              have hTs : sPair b nn (cF b nn nr nt cc h) (cF b nn nr nt cc (h + 1)) n 4 hc = (0, hc + 3, pV b nn (hc + 2)) := sPair_ok (by omega) (by omega) (by omega) (by omega)
                              have hp : Hid ((I_150 mo 24).toInt = 0 → (n + 1) ≤ 4 ∧ joinP (AI_167 (gh 53 0)) M (n + 1)) := ((fun hf => ⟨by omega, joinP_step (by omega) (hp (by omega)).2 (hsp (by omega)) (by omega) (by omega)⟩))
                              have hS9 : sJoi b nn nr nt cc h = (0, hc + 3, (cF b nn nr nt cc h) + jC (pV b nn (hc + 2) :: L) (cF b nn nr nt cc (h + 1)).toNat) := sPairs_st hsq (f := (4 - n).toNat) (by omega) hTs.symm rfl (by omega)
                              have hcnt := iL_st hil (by omega) (sPair_h hTs.symm rfl).1 (spC_n (by omega))
                              refine z_goto (tgt := 24) F dX7_joinTold_157 (by decide) ?_
                              refine lv_iload F.1 F.2.1 dX7_joinTold_24 (lv_at hl 0 rfl) ?_
                              refine z_if_eq (tgt := 160) F dX7_joinTold_26 (by decide) zv_181 (fun c_187 => ?_) (fun c_187 => ?_)
                              · have t_188 := tIz_n q_184 (by omega)
                                refine lv_aload_n F.1 F.2.1 dX7_joinTold_160 rfl (lv_at hl 7 rfl) ?_
                                refine lv_iload_n F.1 F.2.1 dX7_joinTold_161 rfl (lv_at hl 6 rfl) ?_
                                refine g_calli (g_runV (As := [.int (iI v_64)]) (rest := []) (ci := 7) F hl.1 hH hS hz (c_X7_columns l g gh T I_150 R J_152 AI_167 AJ AR mo v_64 zv_64 hv hm hT (by omega)) (cwV 1 F.2.2.2.2.1 (good_up gT_X7_columns) rfl rfl rfl hdX7_columns ⟨Nat.le_of_ble_eq_true rfl, Nat.le_of_ble_eq_true rfl⟩) hm (by decide) rfl rfl rfl (Nat.le_of_ble_eq_true rfl) dX7_joinTold_162 ⟨Nat.zero_le _, Nat.zero_le _⟩) hS (fun v_196 I_190 R_191 J_192 AI_193 AJ_194 AR_195 H locs zv_196 hp_197 hH hS => ?_)
                                dsimp only at hp_197
                                obtain ⟨rfl, rfl, rfl, rfl, rfl, rfl, q_189⟩ := hp_197
                                have cvv_196 : v_196 = cF b nn nr nt cc h := q_189.trans ((mQ_c hQ rfl vlr_66.1 vlr_66.2.1).trans vlr_66.2.2)
                                have hca : Hid ((I_150 mo 24).toInt = 0 → 1 ≤ tI (AI_167 (gh 53 0)) (40 * v_64 + 1) ∧ tI (AI_167 (gh 53 0)) (40 * v_64 + 1) ≤ 4) := fun h => mCol hv hm (z := v_64) (by omega) (by omega)
                                have hcb : Hid ((I_150 mo 24).toInt = 0 → 1 ≤ tI (AI_167 (gh 53 0)) (40 * v_79 + 1) ∧ tI (AI_167 (gh 53 0)) (40 * v_79 + 1) ≤ 4) := fun h => mCol hv hm (z := v_79) (by omega) (by omega)
                                refine lv_istore (lv' := [(6, .int (iI v_196)), (5, .int (iI v_181)), (3, .int (iI (n + 1))), (4, .int (iI v_174)), (7, .int (iI v_156)), (2, .int (iI v_79)), (1, .int (iI v_64)), (0, .ref mo)]) F.1 F.2.1 dX7_joinTold_165 hl (by decide) rfl (fun ls hl => ?_)
                                refine z_iconst F dX7_joinTold_167 ?_
                                refine lv_istore (lv' := [(7, .int (iI 0)), (6, .int (iI v_196)), (5, .int (iI v_181)), (3, .int (iI (n + 1))), (4, .int (iI v_174)), (2, .int (iI v_79)), (1, .int (iI v_64)), (0, .ref mo)]) F.1 F.2.1 dX7_joinTold_168 hl (by decide) rfl (fun ls hl => ?_)
                                have cut_170_197 : ∀ (NN : Nat) (cl d : Int) (H : Heap) (locs : List Loc) (ls : Array Slot), zr cl → zr d → (0 ≤ d ∧ ((I_150 mo 24).toInt = 0 → d ≤ 4 ∧ d ≤ tI (AI_167 (gh 53 0)) (40 * v_79 + 1) ∧ cl = tI (AI_167 (gh 53 0)) (40 * v_64 + 1) + mCnt v_174 d.toNat)) → ((tI (AI_167 (gh 53 0)) (40 * v_79 + 1) - d).toNat : Int) < ((NN : Nat) : Int) → gH g I_150 R J_152 AI_167 AJ AR H → va_S (gA g) s.heap H locs → lv_has ls 8 [(7, .int (iI d)), (6, .int (iI cl)), (5, .int (iI v_181)), (3, .int (iI (n + 1))), (4, .int (iI v_174)), (2, .int (iI v_79)), (1, .int (iI v_64)), (0, .ref mo)] → W p l e rmX7_joinToldg s m ([.ref mo] : List Value).toArray below meth c H locs 0 0 (MQ below (gQv g (fun w : gS => R = w.2.1 ∧ AJ = w.2.2.2.2.1 ∧ AR = w.2.2.2.2.2 ∧ (mInv g gh R (w.1) (w.2.2.2.1)) ∧ ((w.2.2.2.1) (gh 50 0) = T) ∧ (qF mo I (w.1)) ∧ (((w.1) mo 20).toInt ≤ 936 ∧ (I mo 24).toInt ≤ ((w.1) mo 24).toInt) ∧ (((w.1) mo 24).toInt = 0 → ((w.1) mo 21).toInt = 4 → ((w.1) mo 23).toInt = 59 → rowOK ((w.2.2.2.1) (gh 53 0)) M) ∧ (((w.1) mo 24).toInt = 0 → tI ((w.2.2.2.1) (gh 53 0)) (40 * M) = 3) ∧ (mQ gh (w.1) (w.2.2.1) (w.2.2.2.1) AJ mo b nn nr nt cc (thn (f, h, 0) (fun t _ => sJoiM b nn nr nt cc t)).1 (thn (f, h, 0) (fun t _ => sJoiM b nn nr nt cc t)).2.1) ∧ (pIc (thn (f, h, 0) (fun t _ => sJoiM b nn nr nt cc t)).1 (pK b nn (thn (f, h, 0) (fun t _ => sJoiM b nn nr nt cc t)).2.1) (tI ((w.2.2.2.1) (gh 53 0)) (40 * (nr : Int) + 1)) (thn (f, h, 0) (fun t _ => sJoiM b nn nr nt cc t)).2.2) ∧ (zIf (thn (f, h, 0) (fun t _ => sJoiM b nn nr nt cc t)).1 (frM M (AI (gh 53 0)) ((w.2.2.2.1) (gh 53 0)))) ∧ (zIf (thn (f, h, 0) (fun t _ => sJoiM b nn nr nt cc t)).1 (mJoi b nn nr nt h ((w.2.2.2.1) (gh 53 0)) M)) ∧ (∀ b, b ≠ gh 53 0 → (w.2.2.2.1) b = AI b))) ([.ref mo] : List Value).toArray s 0 0 (gA g)) (F0 m 170 ls []) := by
                                  intro NN170
                                  induction NN170 with
                                  | zero =>
                                    intro cl d H locs ls zcl zd hcl hm170 hH hS hl
                                    exact absurd hm170 (by omega)
                                  | succ NN170 ih170 =>
                                    intro cl d H locs ls zcl zd hcl hm170 hH hS hl
                                    have hmd := mCnt_0 (x := v_174) (a := d.toNat)
                                    have hmu := mCnt_u (x := v_174) (a := d.toNat)
                                    refine lv_iload F.1 F.2.1 dX7_joinTold_170 (lv_at hl 0 rfl) ?_
                                    refine lv_aload_n F.1 F.2.1 dX7_joinTold_172 rfl (lv_at hl 7 rfl) ?_
                                    refine lv_iload_n F.1 F.2.1 dX7_joinTold_173 rfl (lv_at hl 5 rfl) ?_
                                    refine g_calli (g_runV (As := [.int (iI v_79)]) (rest := [.int (iI d)]) (ci := 7) F hl.1 hH hS hz (c_X7_columns l g gh T I_150 R J_152 AI_167 AJ AR mo v_79 zv_79 hv hm hT (by omega)) (cwV 1 F.2.2.2.2.1 (good_up gT_X7_columns) rfl rfl rfl hdX7_columns ⟨Nat.le_of_ble_eq_true rfl, Nat.le_of_ble_eq_true rfl⟩) hm (by decide) rfl rfl rfl (Nat.le_of_ble_eq_true rfl) dX7_joinTold_174 ⟨Nat.zero_le _, Nat.zero_le _⟩) hS (fun v_206 I_200 R_201 J_202 AI_203 AJ_204 AR_205 H locs zv_206 hp_207 hH hS => ?_)
                                    dsimp only at hp_207
                                    obtain ⟨rfl, rfl, rfl, rfl, rfl, rfl, q_199⟩ := hp_207
                                    have cvv_206 : v_206 = cF b nn nr nt cc (h + 1) := q_199.trans ((mQ_c hQ rfl vlr_81.1 vlr_81.2.1).trans vlr_81.2.2)
                                    refine z_icmp_ge (tgt := 199) F dX7_joinTold_177 (by decide) zd zv_206 (fun c_208 => ?_) (fun c_208 => ?_)
                                    · have hcx : Hid ((I_150 mo 24).toInt = 0 → cl = tI (AI_167 (gh 53 0)) (40 * v_64 + 1) + mCnt v_174 (tI (AI_167 (gh 53 0)) (40 * v_79 + 1)).toNat) := fun hf => by rw [← (show d = tI (AI_167 (gh 53 0)) (40 * v_79 + 1) by have q := hcl.2 hf; omega)]; exact (hcl.2 hf).2.2
                                      obtain ⟨f9, ef9⟩ : ∃ q, q = (I_150 mo 24).toInt := ⟨_, rfl⟩
                                      have hm0 := mCnt_0 (x := v_174) (a := (tI (AI_167 (gh 53 0)) (40 * v_79 + 1)).toNat)
                                      have cA : tI (AI_167 (gh 53 0)) (40 * v_64 + 1) = cF b nn nr nt cc h := (mQ_c hQ rfl vlr_66.1 vlr_66.2.1).trans vlr_66.2.2
                                      have cB : tI (AI_167 (gh 53 0)) (40 * v_79 + 1) = cF b nn nr nt cc (h + 1) := (mQ_c hQ rfl vlr_81.1 vlr_81.2.1).trans vlr_81.2.2
                                      have bB := mQ_cb hQ rfl vlr_81.1 vlr_81.2.1
                                      rw [vlr_81.2.2] at bB
                                      have hcz : cl = (cF b nn nr nt cc h) + jC (pV b nn (hc + 2) :: L) (cF b nn nr nt cc (h + 1)).toNat := by rw [hcx (mQ_0 hQ rfl), cA, cB, mGn_c hcn _ (by omega)]
                                      refine lv_aload_n F.1 F.2.1 dX7_joinTold_199 rfl (lv_at hl 7 rfl) ?_
                                      refine z_bipush F dX7_joinTold_200 (by decide) ?_
                                      refine g_calli (g_runV (As := [.int (iI 59)]) (rest := []) (ci := 7) F hl.1 hH hS hz (c_X7_isSignf l g gh T b nn nr nt cc 0 (hc + 3) I_150 R J_152 AI_167 AJ AR mo 59 ⟨by decide, by decide⟩ hv hm hT h65 hbM hr7 (by omega) hn9 (by omega) (by omega) hQ) (cwV 1 F.2.2.2.2.1 (good_up gT_X7_isSign) rfl rfl rfl hdX7_isSign ⟨Nat.le_of_ble_eq_true rfl, Nat.le_of_ble_eq_true rfl⟩) hm (by decide) rfl rfl rfl (Nat.le_of_ble_eq_true rfl) dX7_joinTold_202 ⟨Nat.zero_le _, Nat.zero_le _⟩) hS (fun v_215 I_209 R_210 J_211 AI_212 AJ_213 AR_214 H locs zv_215 hp_216 hH hS => ?_)
                                      dsimp only at hp_216
                                      obtain ⟨rfl, rfl, rfl, rfl, rfl, rfl, q_217, q_218⟩ := hp_216
                                      replace q_217 := q_217.1
                                      refine z_if_eq (tgt := 219) F dX7_joinTold_205 (by decide) zv_215 (fun c_219 => ?_) (fun c_219 => ?_)
                                      · have t_220 := tIz_n q_218 (by omega)
                                        refine lv_aload_n F.1 F.2.1 dX7_joinTold_219 rfl (lv_at hl 7 rfl) ?_
                                        refine z_iconst F dX7_joinTold_220 ?_
                                        refine lv_iload F.1 F.2.1 dX7_joinTold_221 (lv_at hl 1 rfl) ?_
                                        refine lv_iload_n F.1 F.2.1 dX7_joinTold_223 rfl (lv_at hl 6 rfl) ?_
                                        refine lv_iload_n F.1 F.2.1 dX7_joinTold_224 rfl (lv_at hl 5 rfl) ?_
                                        refine lv_iload_n F.1 F.2.1 dX7_joinTold_225 rfl (lv_at hl 3 rfl) ?_
                                        refine g_callv (g_runV (As := [.int (iI 3), .int (iI cl), .int (iI v_64), .int (iI v_79), .int (iI (n + 1))]) (rest := []) (ci := 7) F hl.1 hH hS hz (c_X7_headerg l g gh T M I_150 R J_152 AI_167 AJ AR mo 3 cl v_64 v_79 (n + 1) ⟨by decide, by decide⟩ zcl zv_64 zv_79 ⟨by omega, by omega⟩ hv hm hT (by omega) (by omega)) (cwV 5 F.2.2.2.2.1 (good_up gT_X7_header) rfl rfl rfl hdX7_header ⟨Nat.le_of_ble_eq_true rfl, Nat.le_of_ble_eq_true rfl⟩) hm (by decide) rfl rfl rfl (Nat.le_of_ble_eq_true rfl) dX7_joinTold_226 ⟨Nat.zero_le _, Nat.zero_le _⟩) hS (fun I_221 R_222 J_223 AI_224 AJ_225 AR_226 H locs hp_227 hH hS => ?_)
                                        dsimp only at hp_227
                                        obtain ⟨rfl, rfl, rfl, rfl, rfl, hv, hT, hhd, q_228⟩ := hp_227
                                        replace hhd := hid hhd
                                        have hQ : mQ gh I_150 J_152 AI_224 AJ mo b nn nr nt cc 0 (hc + 3) := mQ_a hQ (fun hf9 z9 h09 h19 => (hhd hf9).1 z9 h09 (Or.inl (by omega)))
                                        have hfr := frM_h hfr (hhd (mQ_0 hQ rfl))
                                        have hqa := rAll_h rPair_l (by omega) (Int.le_refl 0) (hhd (mQ_0 hQ rfl)) hqa
                                        refine lv_aload_n F.1 F.2.1 dX7_joinTold_229 rfl (lv_at hl 7 rfl) ?_
                                        refine z_iconst F dX7_joinTold_230 ?_
                                        refine lv_iload F.1 F.2.1 dX7_joinTold_231 (lv_at hl 4 rfl) ?_
                                        refine g_callv (g_runV (As := [.int (iI 5), .int (iI v_174)]) (rest := []) (ci := 7) F hl.1 hH hS hz (c_X7_setsg l g gh T M I_150 R J_152 AI_224 AJ AR mo 5 v_174 ⟨by decide, by decide⟩ zv_174 hv hm hT (by omega) (by omega) (by omega)) (cwV 2 F.2.2.2.2.1 (good_up gT_X7_sets) rfl rfl rfl hdX7_sets ⟨Nat.le_of_ble_eq_true rfl, Nat.le_of_ble_eq_true rfl⟩) hm (by decide) rfl rfl rfl (Nat.le_of_ble_eq_true rfl) dX7_joinTold_233 ⟨Nat.zero_le _, Nat.zero_le _⟩) hS (fun I_229 R_230 J_231 AI_232 AJ_233 AR_234 H locs hp_235 hH hS => ?_)
                                        dsimp only at hp_235
                                        obtain ⟨rfl, rfl, rfl, rfl, rfl, hv, hT, hs1, q_236⟩ := hp_235
                                        replace hs1 := hid hs1
                                        have hQ : mQ gh I_150 J_152 AI_232 AJ mo b nn nr nt cc 0 (hc + 3) := mQ_a hQ (fun hf9 z9 h09 h19 => (hs1 hf9).1 z9 h09 (by omega))
                                        have hfr := frM_5 hfr (hs1 (mQ_0 hQ rfl))
                                        have hqa := rAll_5 rPair_l (by omega) (Int.le_refl 0) (hs1 (mQ_0 hQ rfl)) hqa
                                        have h5q := hP_s5 (by omega) (hhd (mQ_0 hQ rfl)) (hs1 (mQ_0 hQ rfl))
                                        have hfin : thn (f, h, 0) (fun t _ => sJoiM b nn nr nt cc t) = (0, hc + 3, (cF b nn nr nt cc h) + jC (pV b nn (hc + 2) :: L) (cF b nn nr nt cc (h + 1)).toNat) := (thn_k q0).trans (by show sJoiM b nn nr nt cc h = _; unfold sJoiM; exact thn_t hS9 rfl (show sEnd b nn ((cF b nn nr nt cc h) + jC (pV b nn (hc + 2) :: L) (cF b nn nr nt cc (h + 1)).toNat) (hc + 3) = _ from ite_n (by omega) rfl))
                                        exact g_vret F hr hlk hH hS hz ⟨rfl, rfl, rfl, hv, hT, pf, by first | (dsimp only; omega) | omega | rfl, by (try dsimp only); intro hf ht hn; have e59 := (mQ_s hQ rfl (c := 59) (by decide)).mp ⟨ht, hn⟩; have qa := hca (by omega); have qb := hcb (by omega); have qc := hcx (by omega); have q5 := hP_s5 (by omega) (hhd (by omega)) (hs1 (by omega)); exact row_mk (by omega) q5.1 (by omega) (by omega) (by omega) (by omega) (fun h => absurd h (by omega)) (fun h => absurd h (by omega)) (fun h => absurd h (by omega)) (fun _ => ⟨by omega, by omega, (hp (by omega)).2, by rw [q5.2]; omega⟩) (fun h => absurd h (by omega)) (fun h => absurd h (by omega)) (fun h => absurd h (by omega)), by (try dsimp only); intro hf; exact (hP_s5 (by omega) (hhd (by omega)) (hs1 (by omega))).1.2.1, by (try dsimp only); rw [hfin]; exact hQ, by (try dsimp only); rw [hfin]; have q9 := (hhd (mQ_0 hQ rfl)).2.2.1; have q8 := (hs1 (mQ_0 hQ rfl)).1 (40 * M + 1) (by omega) (by omega); rw [show M = (nr : Int) by omega] at q9 q8; (try dsimp only); exact pIc_y (by omega), by (try dsimp only); rw [hfin]; exact zIf_y (hfr), by (try dsimp only); rw [hfin]; exact zIf_y (⟨⟨h5q.1.2.2.2.1.trans vfr_66, h5q.1.2.2.2.2.1.trans vfr_81⟩, h5q.1.2.2.2.2.2.trans (by omega), by rw [hcnt]; exact hqa, by rw [h5q.2]; exact rGn_mk hcn hlm hcnt⟩), fun b hb => (((q_236 b hb).trans (q_228 b hb)).trans (q_171 b hb)).trans (fA9 b hb)⟩ dX7_joinTold_236
                                      · have t_237 := tIz_y q_218 (by omega)
                                        refine lv_iload F.1 F.2.1 dX7_joinTold_208 (lv_at hl 1 rfl) ?_
                                        refine z_iconst F dX7_joinTold_210 ?_
                                        refine z_icmp_le (tgt := 219) F dX7_joinTold_211 (by decide) zcl ⟨by decide, by decide⟩ (fun c_238 => ?_) (fun c_238 => ?_)
                                        · refine lv_aload_n F.1 F.2.1 dX7_joinTold_219 rfl (lv_at hl 7 rfl) ?_
                                          refine z_iconst F dX7_joinTold_220 ?_
                                          refine lv_iload F.1 F.2.1 dX7_joinTold_221 (lv_at hl 1 rfl) ?_
                                          refine lv_iload_n F.1 F.2.1 dX7_joinTold_223 rfl (lv_at hl 6 rfl) ?_
                                          refine lv_iload_n F.1 F.2.1 dX7_joinTold_224 rfl (lv_at hl 5 rfl) ?_
                                          refine lv_iload_n F.1 F.2.1 dX7_joinTold_225 rfl (lv_at hl 3 rfl) ?_
                                          refine g_callv (g_runV (As := [.int (iI 3), .int (iI cl), .int (iI v_64), .int (iI v_79), .int (iI (n + 1))]) (rest := []) (ci := 7) F hl.1 hH hS hz (c_X7_headerg l g gh T M I_150 R J_152 AI_167 AJ AR mo 3 cl v_64 v_79 (n + 1) ⟨by decide, by decide⟩ zcl zv_64 zv_79 ⟨by omega, by omega⟩ hv hm hT (by omega) (by omega)) (cwV 5 F.2.2.2.2.1 (good_up gT_X7_header) rfl rfl rfl hdX7_header ⟨Nat.le_of_ble_eq_true rfl, Nat.le_of_ble_eq_true rfl⟩) hm (by decide) rfl rfl rfl (Nat.le_of_ble_eq_true rfl) dX7_joinTold_226 ⟨Nat.zero_le _, Nat.zero_le _⟩) hS (fun I_239 R_240 J_241 AI_242 AJ_243 AR_244 H locs hp_245 hH hS => ?_)
                                          dsimp only at hp_245
                                          obtain ⟨rfl, rfl, rfl, rfl, rfl, hv, hT, hhd, q_246⟩ := hp_245
                                          replace hhd := hid hhd
                                          have hQ : mQ gh I_150 J_152 AI_242 AJ mo b nn nr nt cc 0 (hc + 3) := mQ_a hQ (fun hf9 z9 h09 h19 => (hhd hf9).1 z9 h09 (Or.inl (by omega)))
                                          have hfr := frM_h hfr (hhd (mQ_0 hQ rfl))
                                          have hqa := rAll_h rPair_l (by omega) (Int.le_refl 0) (hhd (mQ_0 hQ rfl)) hqa
                                          refine lv_aload_n F.1 F.2.1 dX7_joinTold_229 rfl (lv_at hl 7 rfl) ?_
                                          refine z_iconst F dX7_joinTold_230 ?_
                                          refine lv_iload F.1 F.2.1 dX7_joinTold_231 (lv_at hl 4 rfl) ?_
                                          refine g_callv (g_runV (As := [.int (iI 5), .int (iI v_174)]) (rest := []) (ci := 7) F hl.1 hH hS hz (c_X7_setsg l g gh T M I_150 R J_152 AI_242 AJ AR mo 5 v_174 ⟨by decide, by decide⟩ zv_174 hv hm hT (by omega) (by omega) (by omega)) (cwV 2 F.2.2.2.2.1 (good_up gT_X7_sets) rfl rfl rfl hdX7_sets ⟨Nat.le_of_ble_eq_true rfl, Nat.le_of_ble_eq_true rfl⟩) hm (by decide) rfl rfl rfl (Nat.le_of_ble_eq_true rfl) dX7_joinTold_233 ⟨Nat.zero_le _, Nat.zero_le _⟩) hS (fun I_247 R_248 J_249 AI_250 AJ_251 AR_252 H locs hp_253 hH hS => ?_)
                                          dsimp only at hp_253
                                          obtain ⟨rfl, rfl, rfl, rfl, rfl, hv, hT, hs1, q_254⟩ := hp_253
                                          replace hs1 := hid hs1
                                          have hQ : mQ gh I_150 J_152 AI_250 AJ mo b nn nr nt cc 0 (hc + 3) := mQ_a hQ (fun hf9 z9 h09 h19 => (hs1 hf9).1 z9 h09 (by omega))
                                          have hfr := frM_5 hfr (hs1 (mQ_0 hQ rfl))
                                          have hqa := rAll_5 rPair_l (by omega) (Int.le_refl 0) (hs1 (mQ_0 hQ rfl)) hqa
                                          have h5q := hP_s5 (by omega) (hhd (mQ_0 hQ rfl)) (hs1 (mQ_0 hQ rfl))
                                          have hfin : thn (f, h, 0) (fun t _ => sJoiM b nn nr nt cc t) = (0, hc + 3, (cF b nn nr nt cc h) + jC (pV b nn (hc + 2) :: L) (cF b nn nr nt cc (h + 1)).toNat) := (thn_k q0).trans (by show sJoiM b nn nr nt cc h = _; unfold sJoiM; exact thn_t hS9 rfl (show sEnd b nn ((cF b nn nr nt cc h) + jC (pV b nn (hc + 2) :: L) (cF b nn nr nt cc (h + 1)).toNat) (hc + 3) = _ from ite_n (by omega) rfl))
                                          exact g_vret F hr hlk hH hS hz ⟨rfl, rfl, rfl, hv, hT, pf, by first | (dsimp only; omega) | omega | rfl, by (try dsimp only); intro hf ht hn; have e59 := (mQ_s hQ rfl (c := 59) (by decide)).mp ⟨ht, hn⟩; have qa := hca (by omega); have qb := hcb (by omega); have qc := hcx (by omega); have q5 := hP_s5 (by omega) (hhd (by omega)) (hs1 (by omega)); exact row_mk (by omega) q5.1 (by omega) (by omega) (by omega) (by omega) (fun h => absurd h (by omega)) (fun h => absurd h (by omega)) (fun h => absurd h (by omega)) (fun _ => ⟨by omega, by omega, (hp (by omega)).2, by rw [q5.2]; omega⟩) (fun h => absurd h (by omega)) (fun h => absurd h (by omega)) (fun h => absurd h (by omega)), by (try dsimp only); intro hf; exact (hP_s5 (by omega) (hhd (by omega)) (hs1 (by omega))).1.2.1, by (try dsimp only); rw [hfin]; exact hQ, by (try dsimp only); rw [hfin]; have q9 := (hhd (mQ_0 hQ rfl)).2.2.1; have q8 := (hs1 (mQ_0 hQ rfl)).1 (40 * M + 1) (by omega) (by omega); rw [show M = (nr : Int) by omega] at q9 q8; (try dsimp only); exact pIc_y (by omega), by (try dsimp only); rw [hfin]; exact zIf_y (hfr), by (try dsimp only); rw [hfin]; exact zIf_y (⟨⟨h5q.1.2.2.2.1.trans vfr_66, h5q.1.2.2.2.2.1.trans vfr_81⟩, h5q.1.2.2.2.2.2.trans (by omega), by rw [hcnt]; exact hqa, by rw [h5q.2]; exact rGn_mk hcn hlm hcnt⟩), fun b hb => (((q_254 b hb).trans (q_246 b hb)).trans (q_171 b hb)).trans (fA9 b hb)⟩ dX7_joinTold_236
                                        · refine lv_aload_n F.1 F.2.1 dX7_joinTold_214 rfl (lv_at hl 7 rfl) ?_
                                          refine z_iconst F dX7_joinTold_215 ?_
                                          refine g_callv (g_runV (As := [.int (iI 5)]) (rest := []) (ci := 7) F hl.1 hH hS hz (c_X7_wrongf l g gh T b nn nr nt cc 0 (hc + 3) I_150 R J_152 AI_167 AJ AR mo 5 ⟨by decide, by decide⟩ hv hm hT (by omega) h65 hbM hr7 (by omega) hn9 (by omega) hQ) (cwV 1 F.2.2.2.2.1 (good_up gT_X7_wrong) rfl rfl rfl hdX7_wrong ⟨Nat.le_of_ble_eq_true rfl, Nat.le_of_ble_eq_true rfl⟩) hm (by decide) rfl rfl rfl (Nat.le_of_ble_eq_true rfl) dX7_joinTold_216 ⟨Nat.zero_le _, Nat.zero_le _⟩) hS (fun I_255 R_256 J_257 AI_258 AJ_259 AR_260 H locs hp_261 hH hS => ?_)
                                          dsimp only at hp_261
                                          obtain ⟨r_262, er_262⟩ : ∃ qQ : pR, qQ = thn (0, (hc + 3), 0) (fun t _ => (5, t, 0)) := ⟨_, rfl⟩
                                          rw [← er_262] at hp_261
                                          obtain ⟨rfl, rfl, rfl, rfl, rfl, hv, pfq, q_263, hQ⟩ := hp_261
                                          have pf := qF_t pf pfq
                                          have u_264_2 : (I_255 mo 2).toInt = (I mo 2).toInt := by rw [pf 2 (by decide) (by decide) (by decide) (by decide) (by decide)]
                                          have u_264_5 : (I_255 mo 5).toInt = (I mo 5).toInt := by rw [pf 5 (by decide) (by decide) (by decide) (by decide) (by decide)]
                                          have u_264_14 : (I_255 mo 14).toInt = (I mo 14).toInt := by rw [pf 14 (by decide) (by decide) (by decide) (by decide) (by decide)]
                                          have u_264_16 : (I_255 mo 16).toInt = (I mo 16).toInt := by rw [pf 16 (by decide) (by decide) (by decide) (by decide) (by decide)]
                                          have u_264_18 : (I_255 mo 18).toInt = (I mo 18).toInt := by rw [pf 18 (by decide) (by decide) (by decide) (by decide) (by decide)]
                                          have er_262 : r_262 = (5, (hc + 3), 0) := er_262
                                          have hQ : mQ gh I_255 J_152 AI_167 AJ mo b nn nr nt cc 5 (hc + 3) := by rw [er_262] at hQ; exact hQ
                                          have q9_r_262 : (5 : Int) ≠ 0 := by omega
                                          have g9_r_262 := mQ_f hQ q9_r_262
                                          refine lv_aload_n F.1 F.2.1 dX7_joinTold_219 rfl (lv_at hl 7 rfl) ?_
                                          refine z_iconst F dX7_joinTold_220 ?_
                                          refine lv_iload F.1 F.2.1 dX7_joinTold_221 (lv_at hl 1 rfl) ?_
                                          refine lv_iload_n F.1 F.2.1 dX7_joinTold_223 rfl (lv_at hl 6 rfl) ?_
                                          refine lv_iload_n F.1 F.2.1 dX7_joinTold_224 rfl (lv_at hl 5 rfl) ?_
                                          refine lv_iload_n F.1 F.2.1 dX7_joinTold_225 rfl (lv_at hl 3 rfl) ?_
                                          have b_265 := mJ hv hm
                                          unfold mNum1 at b_265
                                          refine g_callv (g_runV (As := [.int (iI 3), .int (iI cl), .int (iI v_64), .int (iI v_79), .int (iI (n + 1))]) (rest := []) (ci := 7) F hl.1 hH hS hz (c_X7_headerg l g gh T M I_255 R J_152 AI_167 AJ AR mo 3 cl v_64 v_79 (n + 1) ⟨by decide, by decide⟩ zcl zv_64 zv_79 ⟨by omega, by omega⟩ hv hm hT (by omega) (by omega)) (cwV 5 F.2.2.2.2.1 (good_up gT_X7_header) rfl rfl rfl hdX7_header ⟨Nat.le_of_ble_eq_true rfl, Nat.le_of_ble_eq_true rfl⟩) hm (by decide) rfl rfl rfl (Nat.le_of_ble_eq_true rfl) dX7_joinTold_226 ⟨Nat.zero_le _, Nat.zero_le _⟩) hS (fun I_266 R_267 J_268 AI_269 AJ_270 AR_271 H locs hp_272 hH hS => ?_)
                                          dsimp only at hp_272
                                          obtain ⟨rfl, rfl, rfl, rfl, rfl, hv, hT, hhd, q_273⟩ := hp_272
                                          replace hhd := hid hhd
                                          have hQ : mQ gh I_255 J_152 AI_269 AJ mo b nn nr nt cc 5 (hc + 3) := mQ_bad hQ (by omega) rfl
                                          refine lv_aload_n F.1 F.2.1 dX7_joinTold_229 rfl (lv_at hl 7 rfl) ?_
                                          refine z_iconst F dX7_joinTold_230 ?_
                                          refine lv_iload F.1 F.2.1 dX7_joinTold_231 (lv_at hl 4 rfl) ?_
                                          refine g_callv (g_runV (As := [.int (iI 5), .int (iI v_174)]) (rest := []) (ci := 7) F hl.1 hH hS hz (c_X7_setsg l g gh T M I_255 R J_152 AI_269 AJ AR mo 5 v_174 ⟨by decide, by decide⟩ zv_174 hv hm hT (by omega) (by omega) (by omega)) (cwV 2 F.2.2.2.2.1 (good_up gT_X7_sets) rfl rfl rfl hdX7_sets ⟨Nat.le_of_ble_eq_true rfl, Nat.le_of_ble_eq_true rfl⟩) hm (by decide) rfl rfl rfl (Nat.le_of_ble_eq_true rfl) dX7_joinTold_233 ⟨Nat.zero_le _, Nat.zero_le _⟩) hS (fun I_274 R_275 J_276 AI_277 AJ_278 AR_279 H locs hp_280 hH hS => ?_)
                                          dsimp only at hp_280
                                          obtain ⟨rfl, rfl, rfl, rfl, rfl, hv, hT, hs1, q_281⟩ := hp_280
                                          replace hs1 := hid hs1
                                          have hQ : mQ gh I_255 J_152 AI_277 AJ mo b nn nr nt cc 5 (hc + 3) := mQ_bad hQ (by omega) rfl
                                          have hfin : thn (f, h, 0) (fun t _ => sJoiM b nn nr nt cc t) = (5, hc + 3, 0) := (thn_k q0).trans (by show sJoiM b nn nr nt cc h = _; unfold sJoiM; exact thn_t hS9 rfl (show sEnd b nn ((cF b nn nr nt cc h) + jC (pV b nn (hc + 2) :: L) (cF b nn nr nt cc (h + 1)).toNat) (hc + 3) = _ from ite_y (by omega) rfl))
                                          exact g_vret F hr hlk hH hS hz ⟨rfl, rfl, rfl, hv, hT, pf, by first | (dsimp only; omega) | omega | rfl, by (try dsimp only); exact (fun hf => absurd hf (by omega)), by (try dsimp only); exact (fun hf => absurd hf (by omega)), by (try dsimp only); rw [hfin]; exact hQ, by (try dsimp only); rw [hfin]; exact pIc_n (by omega), by (try dsimp only); rw [hfin]; exact zIf_n (by omega), by (try dsimp only); rw [hfin]; exact zIf_n (by omega), fun b hb => (((q_281 b hb).trans (q_273 b hb)).trans (q_171 b hb)).trans (fA9 b hb)⟩ dX7_joinTold_236
                                    · refine lv_iload F.1 F.2.1 dX7_joinTold_180 (lv_at hl 4 rfl) ?_
                                      refine lv_iload F.1 F.2.1 dX7_joinTold_182 (lv_at hl 0 rfl) ?_
                                      refine lv_ishr F.1 F.2.1 dX7_joinTold_184 ?_
                                      refine z_top (fun v_282 zv_282 ev_282 => ?_)
                                      refine z_iconst F dX7_joinTold_185 ?_
                                      refine lv_iand F.1 F.2.1 dX7_joinTold_186 ?_
                                      refine z_top (fun v_283 zv_283 ev_283 => ?_)
                                      have hb : v_283 = mBit v_174 d := by rw [ev_283, ev_282]; rfl
                                      have hb01 := mBit01 v_174 d
                                      refine z_if_ne (tgt := 193) F dX7_joinTold_187 (by decide) zv_283 (fun c_284 => ?_) (fun c_284 => ?_)
                                      · refine z_iinc (lv' := [(7, .int (iI (d + 1))), (6, .int (iI cl)), (5, .int (iI v_181)), (3, .int (iI (n + 1))), (4, .int (iI v_174)), (2, .int (iI v_79)), (1, .int (iI v_64)), (0, .ref mo)]) F dX7_joinTold_193 hl (k := 0) rfl (by decide) rfl (fun ls hl => ?_)
                                        refine z_goto (tgt := 170) F dX7_joinTold_196 (by decide) ?_
                                        exact ih170 cl (d + 1) H locs ls zcl ⟨by omega, by omega⟩ (⟨by omega, fun hf => ⟨by have q := hcb hf; omega, by omega, by have q := hcl.2 hf; rw [mCnt_z (by omega) (by omega)]; omega⟩⟩) (by omega) hH hS (lv_sub hl [0, 1, 2, 3, 4, 5, 6, 7] rfl)
                                      · refine z_iinc (lv' := [(6, .int (iI (cl + 1))), (7, .int (iI d)), (5, .int (iI v_181)), (3, .int (iI (n + 1))), (4, .int (iI v_174)), (2, .int (iI v_79)), (1, .int (iI v_64)), (0, .ref mo)]) F dX7_joinTold_190 hl (k := 1) rfl (by decide) rfl (fun ls hl => ?_)
                                        obtain ⟨c9, zc9, ec9, fc9⟩ := z_wrap (cl + 1)
                                        rw [ec9] at hl
                                        refine z_iinc (lv' := [(7, .int (iI (d + 1))), (6, .int (iI c9)), (5, .int (iI v_181)), (3, .int (iI (n + 1))), (4, .int (iI v_174)), (2, .int (iI v_79)), (1, .int (iI v_64)), (0, .ref mo)]) F dX7_joinTold_193 hl (k := 1) rfl (by decide) rfl (fun ls hl => ?_)
                                        refine z_goto (tgt := 170) F dX7_joinTold_196 (by decide) ?_
                                        exact ih170 c9 (d + 1) H locs ls zc9 ⟨by omega, by omega⟩ (⟨by omega, fun hf => ⟨by have q := hcb hf; omega, by omega, by have q := hcl.2 hf; have q1 := hca hf; have q2 := fc9 (by omega); rw [mCnt_s (by omega) (by omega)]; omega⟩⟩) (by omega) hH hS (lv_sub hl [0, 1, 2, 3, 4, 5, 6, 7] rfl)
                                exact cut_170_197 ((((tI (AI_167 (gh 53 0)) (40 * v_79 + 1) - 0).toNat : Int) + 1 : Int).toNat) v_196 0 H locs ls zv_196 ⟨by decide, by decide⟩ (⟨by omega, fun hf => ⟨by omega, by have q := hcb hf; omega, by show _ = _ + (0 : Int); omega⟩⟩) (by omega) hH hS (lv_sub hl [0, 1, 2, 3, 4, 5, 6, 7] rfl)
                              · exact absurd trivial (by omega)
                            · have t_285 := tIz_y q_184 (by omega)
                              refine lv_aload_n F.1 F.2.1 dX7_joinTold_153 rfl (lv_at hl 7 rfl) ?_
                              refine g_callv (g_runV (As := []) (rest := []) (ci := 7) F hl.1 hH hS hz (c_X7_nextf l g gh T b nn (tNd b nn (tPs b nn (hc + 3))) I_150 R J_152 AI_167 AJ AR mo hv hm hT (by omega) (mTp hv h65 hbM) hr7 (by omega) (by omega) (mQ_e0 hQ) tNd_le.1) (cwV 0 F.2.2.2.2.1 (good_up gT_X7_next) rfl rfl rfl hdX7_next ⟨Nat.le_of_ble_eq_true rfl, Nat.le_of_ble_eq_true rfl⟩) hm (by decide) rfl rfl rfl (Nat.le_of_ble_eq_true rfl) dX7_joinTold_154 ⟨Nat.zero_le _, Nat.zero_le _⟩) hS (fun I_286 R_287 J_288 AI_289 AJ_290 AR_291 H locs hp_292 hH hS => ?_)
                              dsimp only at hp_292
                              obtain ⟨rfl, rfl, rfl, rfl, hv, pfq, q_293, nx4, nxa, nxb⟩ := hp_292
                              have pf := qF_t pf pfq
                              have u_294_2 : (I_286 mo 2).toInt = (I mo 2).toInt := by rw [pf 2 (by decide) (by decide) (by decide) (by decide) (by decide)]
                              have u_294_5 : (I_286 mo 5).toInt = (I mo 5).toInt := by rw [pf 5 (by decide) (by decide) (by decide) (by decide) (by decide)]
                              have u_294_14 : (I_286 mo 14).toInt = (I mo 14).toInt := by rw [pf 14 (by decide) (by decide) (by decide) (by decide) (by decide)]
                              have u_294_16 : (I_286 mo 16).toInt = (I mo 16).toInt := by rw [pf 16 (by decide) (by decide) (by decide) (by decide) (by decide)]
                              have u_294_18 : (I_286 mo 18).toInt = (I mo 18).toInt := by rw [pf 18 (by decide) (by decide) (by decide) (by decide) (by decide)]
                              have hQ : mQ gh I_286 J_288 AI_167 AJ mo b nn nr nt cc 0 (hc + 4) := mQ_nx hQ nx4 nxa
                              clear nxa nxb
                              have hTs : sPair b nn (cF b nn nr nt cc h) (cF b nn nr nt cc (h + 1)) n 4 hc = (0, hc + 3, pV b nn (hc + 2)) := sPair_ok (by omega) (by omega) (by omega) (by omega)
                              have hsq := sPairs_go hsq (f := (4 - n).toNat) (by omega) hTs.symm rfl (by omega)
                              have hil := iL_go hil (by omega) (sPair_h hTs.symm rfl).1 (spC_y (by omega))
                              refine z_goto (tgt := 24) F dX7_joinTold_157 (by decide) ?_
                              exact ih24 (n + 1) v_174 v_181 I_286 J_288 AI_167 H locs ls ⟨by omega, by omega⟩ zv_174 zv_181 hv hT pf (by omega) ((fun hf => ⟨by omega, joinP_step (by omega) (hp (by omega)).2 (hsp (by omega)) (by omega) (by omega)⟩)) ⟨_, _, hQ, by rw [show (5 - (n + 1)).toNat = (4 - n).toNat by omega]; exact hsq, hcn, hil, hqa, hlm⟩ (by omega) hfr (fun b hb => (q_171 b hb).trans (fA9 b hb)) (by omega) hH hS (lv_sub hl [0, 2, 1, 5, 6, 7] rfl)
                        · have hQ : mQ gh I_150 J_152 AI_100 AJ mo b nn nr nt cc (pCf b nn (cF b nn nr nt cc (h + 1)) (hc + 2)) (hc + 2) := by rw [er_158] at hQ; exact hQ
                          have sr_158 := sr_158.symm.trans er_158
                          have g9r_158 := mQ_f hQ (by omega)
                          replace q_160 := hid q_160
                          obtain ⟨f2, ef2⟩ : ∃ q, q = (I_150 mo 24).toInt := ⟨_, rfl⟩
                          have hd1 : Hid (f2 = 0 → 0 ≤ v_156 ∧ v_156 ≤ 3) := fun h9 => by omega
                          refine lv_istore (lv' := [(7, .int (iI v_156)), (6, .int (iI v_121)), (5, .int (iI mr)), (4, .int (iI gn)), (3, .int (iI n)), (2, .int (iI v_79)), (1, .int (iI v_64)), (0, .ref mo)]) F.1 F.2.1 dX7_joinTold_108 hl (by decide) rfl (fun ls hl => ?_)
                          refine lv_aload_n F.1 F.2.1 dX7_joinTold_110 rfl (lv_at hl 7 rfl) ?_
                          refine lv_iload_n F.1 F.2.1 dX7_joinTold_111 rfl (lv_at hl 4 rfl) ?_
                          refine lv_iload F.1 F.2.1 dX7_joinTold_112 (lv_at hl 1 rfl) ?_
                          refine lv_iload F.1 F.2.1 dX7_joinTold_114 (lv_at hl 0 rfl) ?_
                          refine z_iconst F dX7_joinTold_116 ?_
                          refine z_iconst F dX7_joinTold_117 ?_
                          have b_295 := mJ hv hm
                          unfold mNum1 at b_295
                          refine g_callv (g_runV (As := [.int (iI n), .int (iI v_121), .int (iI v_156), .int (iI 0), .int (iI 0)]) (rest := []) (ci := 7) F hl.1 hH hS hz (c_X7_setsPartg l g gh T M I_150 R J_152 AI_100 AJ AR mo n v_121 v_156 0 0 zn zv_121 zv_156 ⟨by decide, by decide⟩ ⟨by decide, by decide⟩ hv hm hT (by omega) (by omega) (by omega)) (cwV 5 F.2.2.2.2.1 (good_up gT_X7_setsPart) rfl rfl rfl hdX7_setsPart ⟨Nat.le_of_ble_eq_true rfl, Nat.le_of_ble_eq_true rfl⟩) hm (by decide) rfl rfl rfl (Nat.le_of_ble_eq_true rfl) dX7_joinTold_118 ⟨Nat.zero_le _, Nat.zero_le _⟩) hS (fun I_296 R_297 J_298 AI_299 AJ_300 AR_301 H locs hp_302 hH hS => ?_)
                          dsimp only at hp_302
                          obtain ⟨rfl, rfl, rfl, rfl, rfl, hv, hT, hsp, q_303⟩ := hp_302
                          replace hsp := hid hsp
                          have hQ : mQ gh I_150 J_152 AI_299 AJ mo b nn nr nt cc (pCf b nn (cF b nn nr nt cc (h + 1)) (hc + 2)) (hc + 2) := mQ_bad hQ (by omega) rfl
                          refine lv_aload_n F.1 F.2.1 dX7_joinTold_121 rfl (lv_at hl 7 rfl) ?_
                          refine g_getI (ci := 7) (k := 24) F hH rfl (by decide) iX7 hm (by decide) rfl k81 dX7_joinTold_122 ?_
                          refine z_if_ne (tgt := 137) F dX7_joinTold_125 (by decide) (zr_t _) (fun c_304 => ?_) (fun c_304 => ?_)
                          · refine z_iinc (lv' := [(3, .int (iI (n + 1))), (7, .int (iI v_156)), (6, .int (iI v_121)), (5, .int (iI mr)), (4, .int (iI gn)), (2, .int (iI v_79)), (1, .int (iI v_64)), (0, .ref mo)]) F dX7_joinTold_137 hl (k := 4) rfl (by decide) rfl (fun ls hl => ?_)
                            refine lv_aload_n F.1 F.2.1 dX7_joinTold_140 rfl (lv_at hl 7 rfl) ?_
                            refine z_bipush F dX7_joinTold_141 (by decide) ?_
                            refine g_calli (g_runV (As := [.int (iI 44)]) (rest := []) (ci := 7) F hl.1 hH hS hz (c_X7_isSignf l g gh T b nn nr nt cc (pCf b nn (cF b nn nr nt cc (h + 1)) (hc + 2)) (hc + 2) I_150 R J_152 AI_299 AJ AR mo 44 ⟨by decide, by decide⟩ hv hm hT h65 hbM hr7 (by omega) hn9 (by omega) (by omega) hQ) (cwV 1 F.2.2.2.2.1 (good_up gT_X7_isSign) rfl rfl rfl hdX7_isSign ⟨Nat.le_of_ble_eq_true rfl, Nat.le_of_ble_eq_true rfl⟩) hm (by decide) rfl rfl rfl (Nat.le_of_ble_eq_true rfl) dX7_joinTold_143 ⟨Nat.zero_le _, Nat.zero_le _⟩) hS (fun v_311 I_305 R_306 J_307 AI_308 AJ_309 AR_310 H locs zv_311 hp_312 hH hS => ?_)
                            dsimp only at hp_312
                            obtain ⟨rfl, rfl, rfl, rfl, rfl, rfl, q_313, q_314⟩ := hp_312
                            replace q_313 := q_313.1
                            refine lv_istore (lv' := [(5, .int (iI v_311)), (3, .int (iI (n + 1))), (7, .int (iI v_156)), (6, .int (iI v_121)), (4, .int (iI gn)), (2, .int (iI v_79)), (1, .int (iI v_64)), (0, .ref mo)]) F.1 F.2.1 dX7_joinTold_146 hl (by decide) rfl (fun ls hl => ?_)
                            refine lv_iload F.1 F.2.1 dX7_joinTold_148 (lv_at hl 0 rfl) ?_
                            refine z_if_eq (tgt := 157) F dX7_joinTold_150 (by decide) zv_311 (fun c_315 => ?_) (fun c_315 => ?_)
                            · have t_316 := tIz_0 q_314 (by omega)
                              refine z_goto (tgt := 24) F dX7_joinTold_157 (by decide) ?_
                              refine lv_iload F.1 F.2.1 dX7_joinTold_24 (lv_at hl 0 rfl) ?_
                              refine z_if_eq (tgt := 160) F dX7_joinTold_26 (by decide) zv_311 (fun c_317 => ?_) (fun c_317 => ?_)
                              · have t_318 := tIz_0 q_314 (by omega)
                                have hTs : sPair b nn (cF b nn nr nt cc h) (cF b nn nr nt cc (h + 1)) n 4 hc = (pCf b nn (cF b nn nr nt cc (h + 1)) (hc + 2), hc + 2, 0) := sPair_v (by omega) (by omega) (by omega) (by omega)
                                have hS9 : sJoi b nn nr nt cc h = (pCf b nn (cF b nn nr nt cc (h + 1)) (hc + 2), hc + 2, 0) := sPairs_no hsq (f := (4 - n).toNat) (by omega) hTs.symm (by omega)
                                have hfin : thn (f, h, 0) (fun t _ => sJoiM b nn nr nt cc t) = (pCf b nn (cF b nn nr nt cc (h + 1)) (hc + 2), hc + 2, 0) := (thn_k q0).trans (by show sJoiM b nn nr nt cc h = _; unfold sJoiM; exact thn_x hS9.symm (by omega))
                                exact cut_160_3 v_64 v_79 (n + 1) gn I_150 J_152 AI_299 H locs ls zv_64 zv_79 ⟨by omega, by omega⟩ zgn hv hT pf ⟨_, _, by omega, hQ, hfin⟩ (by omega) (by omega) (fun b hb => (q_303 b hb).trans (fA9 b hb)) hH hS (lv_sub hl [7, 6, 5, 1, 4] rfl)
                              · exact absurd trivial (by omega)
                            · exact absurd (tIz_1 q_314 (by omega)).1 (by omega)
                          · exact absurd (mQ_z hQ (by omega)) (by omega)
                      · have hQ : mQ gh I_129 J_131 AI_100 AJ mo b nn nr nt cc 1 (hc + 1) := by rw [er_136] at hQ; exact hQ
                        have sr_136 := sr_136.symm.trans er_136
                        have g9r_136 := mQ_f hQ (by omega)
                        replace q_138 := hid q_138
                        refine lv_aload_n F.1 F.2.1 dX7_joinTold_99 rfl (lv_at hl 6 rfl) ?_
                        refine lv_aload_n F.1 F.2.1 dX7_joinTold_100 rfl (lv_at hl 6 rfl) ?_
                        refine lv_iload_n F.1 F.2.1 dX7_joinTold_101 rfl (lv_at hl 4 rfl) ?_
                        have b_320 := mJ hv hm
                        unfold mNum1 at b_320
                        refine g_calli (g_runV (As := [.int (iI v_79)]) (rest := [.ref mo]) (ci := 7) F hl.1 hH hS hz (c_X7_columns l g gh T I_129 R J_131 AI_100 AJ AR mo v_79 zv_79 hv hm hT (by omega)) (cwV 1 F.2.2.2.2.1 (good_up gT_X7_columns) rfl rfl rfl hdX7_columns ⟨Nat.le_of_ble_eq_true rfl, Nat.le_of_ble_eq_true rfl⟩) hm (by decide) rfl rfl rfl (Nat.le_of_ble_eq_true rfl) dX7_joinTold_102 ⟨Nat.zero_le _, Nat.zero_le _⟩) hS (fun v_327 I_321 R_322 J_323 AI_324 AJ_325 AR_326 H locs zv_327 hp_328 hH hS => ?_)
                        dsimp only at hp_328
                        obtain ⟨rfl, rfl, rfl, rfl, rfl, rfl, q_319⟩ := hp_328
                        refine g_calli (g_runV (As := [.int (iI v_327)]) (rest := []) (ci := 7) F hl.1 hH hS hz (c_X7_columnf l g gh T b nn nr nt cc 1 (hc + 1) I_129 R J_131 AI_100 AJ AR mo v_327 zv_327 hv hm hT (by omega) h65 hbM hr7 (by omega) hn9 (by omega) hQ) (cwV 1 F.2.2.2.2.1 (good_up gT_X7_column) rfl rfl rfl hdX7_column ⟨Nat.le_of_ble_eq_true rfl, Nat.le_of_ble_eq_true rfl⟩) hm (by decide) rfl rfl rfl (Nat.le_of_ble_eq_true rfl) dX7_joinTold_105 ⟨Nat.zero_le _, Nat.zero_le _⟩) hS (fun v_335 I_329 R_330 J_331 AI_332 AJ_333 AR_334 H locs zv_335 hp_336 hH hS => ?_)
                        dsimp only at hp_336
                        obtain ⟨r_337, er_337⟩ : ∃ qQ : pR, qQ = thn (1, (hc + 1), 0) (fun t _ => sCol b nn v_327 t) := ⟨_, rfl⟩
                        rw [← er_337] at hp_336
                        obtain ⟨rfl, rfl, rfl, rfl, hv, pfq, q_338, q_339, hQ, q_340⟩ := hp_336
                        have pf := qF_t pf pfq
                        have u_341_2 : (I_329 mo 2).toInt = (I mo 2).toInt := by rw [pf 2 (by decide) (by decide) (by decide) (by decide) (by decide)]
                        have u_341_5 : (I_329 mo 5).toInt = (I mo 5).toInt := by rw [pf 5 (by decide) (by decide) (by decide) (by decide) (by decide)]
                        have u_341_14 : (I_329 mo 14).toInt = (I mo 14).toInt := by rw [pf 14 (by decide) (by decide) (by decide) (by decide) (by decide)]
                        have u_341_16 : (I_329 mo 16).toInt = (I mo 16).toInt := by rw [pf 16 (by decide) (by decide) (by decide) (by decide) (by decide)]
                        have u_341_18 : (I_329 mo 18).toInt = (I mo 18).toInt := by rw [pf 18 (by decide) (by decide) (by decide) (by decide) (by decide)]
                        rw [thn_b (by omega)] at er_337
                        have hQ : mQ gh I_329 J_331 AI_100 AJ mo b nn nr nt cc 1 (hc + 1) := by rw [er_337] at hQ; exact hQ
                        replace q_339 := hid q_339
                        obtain ⟨f2, ef2⟩ : ∃ q, q = (I_329 mo 24).toInt := ⟨_, rfl⟩
                        have hd1 : Hid (f2 = 0 → 0 ≤ v_335 ∧ v_335 ≤ 3) := fun h9 => by omega
                        refine lv_istore (lv' := [(7, .int (iI v_335)), (6, .int (iI v_121)), (5, .int (iI mr)), (4, .int (iI gn)), (3, .int (iI n)), (2, .int (iI v_79)), (1, .int (iI v_64)), (0, .ref mo)]) F.1 F.2.1 dX7_joinTold_108 hl (by decide) rfl (fun ls hl => ?_)
                        refine lv_aload_n F.1 F.2.1 dX7_joinTold_110 rfl (lv_at hl 7 rfl) ?_
                        refine lv_iload_n F.1 F.2.1 dX7_joinTold_111 rfl (lv_at hl 4 rfl) ?_
                        refine lv_iload F.1 F.2.1 dX7_joinTold_112 (lv_at hl 1 rfl) ?_
                        refine lv_iload F.1 F.2.1 dX7_joinTold_114 (lv_at hl 0 rfl) ?_
                        refine z_iconst F dX7_joinTold_116 ?_
                        refine z_iconst F dX7_joinTold_117 ?_
                        have b_342 := mJ hv hm
                        unfold mNum1 at b_342
                        refine g_callv (g_runV (As := [.int (iI n), .int (iI v_121), .int (iI v_335), .int (iI 0), .int (iI 0)]) (rest := []) (ci := 7) F hl.1 hH hS hz (c_X7_setsPartg l g gh T M I_329 R J_331 AI_100 AJ AR mo n v_121 v_335 0 0 zn zv_121 zv_335 ⟨by decide, by decide⟩ ⟨by decide, by decide⟩ hv hm hT (by omega) (by omega) (by omega)) (cwV 5 F.2.2.2.2.1 (good_up gT_X7_setsPart) rfl rfl rfl hdX7_setsPart ⟨Nat.le_of_ble_eq_true rfl, Nat.le_of_ble_eq_true rfl⟩) hm (by decide) rfl rfl rfl (Nat.le_of_ble_eq_true rfl) dX7_joinTold_118 ⟨Nat.zero_le _, Nat.zero_le _⟩) hS (fun I_343 R_344 J_345 AI_346 AJ_347 AR_348 H locs hp_349 hH hS => ?_)
                        dsimp only at hp_349
                        obtain ⟨rfl, rfl, rfl, rfl, rfl, hv, hT, hsp, q_350⟩ := hp_349
                        replace hsp := hid hsp
                        have hQ : mQ gh I_329 J_331 AI_346 AJ mo b nn nr nt cc 1 (hc + 1) := mQ_bad hQ (by omega) rfl
                        refine lv_aload_n F.1 F.2.1 dX7_joinTold_121 rfl (lv_at hl 7 rfl) ?_
                        refine g_getI (ci := 7) (k := 24) F hH rfl (by decide) iX7 hm (by decide) rfl k81 dX7_joinTold_122 ?_
                        refine z_if_ne (tgt := 137) F dX7_joinTold_125 (by decide) (zr_t _) (fun c_351 => ?_) (fun c_351 => ?_)
                        · refine z_iinc (lv' := [(3, .int (iI (n + 1))), (7, .int (iI v_335)), (6, .int (iI v_121)), (5, .int (iI mr)), (4, .int (iI gn)), (2, .int (iI v_79)), (1, .int (iI v_64)), (0, .ref mo)]) F dX7_joinTold_137 hl (k := 4) rfl (by decide) rfl (fun ls hl => ?_)
                          refine lv_aload_n F.1 F.2.1 dX7_joinTold_140 rfl (lv_at hl 7 rfl) ?_
                          refine z_bipush F dX7_joinTold_141 (by decide) ?_
                          refine g_calli (g_runV (As := [.int (iI 44)]) (rest := []) (ci := 7) F hl.1 hH hS hz (c_X7_isSignf l g gh T b nn nr nt cc 1 (hc + 1) I_329 R J_331 AI_346 AJ AR mo 44 ⟨by decide, by decide⟩ hv hm hT h65 hbM hr7 (by omega) hn9 (by omega) (by omega) hQ) (cwV 1 F.2.2.2.2.1 (good_up gT_X7_isSign) rfl rfl rfl hdX7_isSign ⟨Nat.le_of_ble_eq_true rfl, Nat.le_of_ble_eq_true rfl⟩) hm (by decide) rfl rfl rfl (Nat.le_of_ble_eq_true rfl) dX7_joinTold_143 ⟨Nat.zero_le _, Nat.zero_le _⟩) hS (fun v_358 I_352 R_353 J_354 AI_355 AJ_356 AR_357 H locs zv_358 hp_359 hH hS => ?_)
                          dsimp only at hp_359
                          obtain ⟨rfl, rfl, rfl, rfl, rfl, rfl, q_360, q_361⟩ := hp_359
                          replace q_360 := q_360.1
                          refine lv_istore (lv' := [(5, .int (iI v_358)), (3, .int (iI (n + 1))), (7, .int (iI v_335)), (6, .int (iI v_121)), (4, .int (iI gn)), (2, .int (iI v_79)), (1, .int (iI v_64)), (0, .ref mo)]) F.1 F.2.1 dX7_joinTold_146 hl (by decide) rfl (fun ls hl => ?_)
                          refine lv_iload F.1 F.2.1 dX7_joinTold_148 (lv_at hl 0 rfl) ?_
                          refine z_if_eq (tgt := 157) F dX7_joinTold_150 (by decide) zv_358 (fun c_362 => ?_) (fun c_362 => ?_)
                          · have t_363 := tIz_0 q_361 (by omega)
                            refine z_goto (tgt := 24) F dX7_joinTold_157 (by decide) ?_
                            refine lv_iload F.1 F.2.1 dX7_joinTold_24 (lv_at hl 0 rfl) ?_
                            refine z_if_eq (tgt := 160) F dX7_joinTold_26 (by decide) zv_358 (fun c_364 => ?_) (fun c_364 => ?_)
                            · have t_365 := tIz_0 q_361 (by omega)
                              have hTs : sPair b nn (cF b nn nr nt cc h) (cF b nn nr nt cc (h + 1)) n 4 hc = (1, hc + 1, 0) := sPair_1 (by omega) (by omega) (by omega)
                              have hS9 : sJoi b nn nr nt cc h = (1, hc + 1, 0) := sPairs_no hsq (f := (4 - n).toNat) (by omega) hTs.symm (by omega)
                              have hfin : thn (f, h, 0) (fun t _ => sJoiM b nn nr nt cc t) = (1, hc + 1, 0) := (thn_k q0).trans (by show sJoiM b nn nr nt cc h = _; unfold sJoiM; exact thn_x hS9.symm (by omega))
                              exact cut_160_3 v_64 v_79 (n + 1) gn I_329 J_331 AI_346 H locs ls zv_64 zv_79 ⟨by omega, by omega⟩ zgn hv hT pf ⟨_, _, by omega, hQ, hfin⟩ (by omega) (by omega) (fun b hb => (q_350 b hb).trans (fA9 b hb)) hH hS (lv_sub hl [7, 6, 5, 1, 4] rfl)
                            · exact absurd trivial (by omega)
                          · exact absurd (tIz_1 q_361 (by omega)).1 (by omega)
                        · exact absurd (mQ_z hQ (by omega)) (by omega)
                    · have hQ : mQ gh I_115 J_117 AI_100 AJ mo b nn nr nt cc (pCf b nn (cF b nn nr nt cc h) hc) hc := by rw [er_123] at hQ; exact hQ
                      have sr_123 := sr_123.symm.trans er_123
                      have g9r_123 := mQ_f hQ (by omega)
                      replace q_125 := hid q_125
                      obtain ⟨f1, ef1⟩ : ∃ q, q = (I_115 mo 24).toInt := ⟨_, rfl⟩
                      have hc1 : Hid (f1 = 0 → 0 ≤ v_121 ∧ v_121 ≤ 3) := fun h9 => by omega
                      refine lv_istore (lv' := [(6, .int (iI v_121)), (5, .int (iI mr)), (4, .int (iI gn)), (3, .int (iI n)), (2, .int (iI v_79)), (1, .int (iI v_64)), (0, .ref mo)]) F.1 F.2.1 dX7_joinTold_91 hl (by decide) rfl (fun ls hl => ?_)
                      refine lv_aload_n F.1 F.2.1 dX7_joinTold_93 rfl (lv_at hl 6 rfl) ?_
                      refine z_bipush F dX7_joinTold_94 (by decide) ?_
                      have b_366 := mJ hv hm
                      unfold mNum1 at b_366
                      refine g_callv (g_runV (As := [.int (iI 61)]) (rest := []) (ci := 7) F hl.1 hH hS hz (c_X7_mustSignf l g gh T b nn nr nt cc (pCf b nn (cF b nn nr nt cc h) hc) hc I_115 R J_117 AI_100 AJ AR mo 61 ⟨by decide, by decide⟩ hv hm hT (by omega) h65 hbM hr7 (by omega) hn9 (by omega) (by omega) hQ) (cwV 1 F.2.2.2.2.1 (good_up gT_X7_mustSign) rfl rfl rfl hdX7_mustSign ⟨Nat.le_of_ble_eq_true rfl, Nat.le_of_ble_eq_true rfl⟩) hm (by decide) rfl rfl rfl (Nat.le_of_ble_eq_true rfl) dX7_joinTold_96 ⟨Nat.zero_le _, Nat.zero_le _⟩) hS (fun I_367 R_368 J_369 AI_370 AJ_371 AR_372 H locs hp_373 hH hS => ?_)
                      dsimp only at hp_373
                      obtain ⟨r_374, er_374⟩ : ∃ qQ : pR, qQ = thn ((pCf b nn (cF b nn nr nt cc h) hc), hc, 0) (fun t _ => sTk b nn 61 t) := ⟨_, rfl⟩
                      rw [← er_374] at hp_373
                      obtain ⟨rfl, rfl, rfl, rfl, hv, pfq, q_375, q_376, hQ⟩ := hp_373
                      have pf := qF_t pf pfq
                      have u_377_2 : (I_367 mo 2).toInt = (I mo 2).toInt := by rw [pf 2 (by decide) (by decide) (by decide) (by decide) (by decide)]
                      have u_377_5 : (I_367 mo 5).toInt = (I mo 5).toInt := by rw [pf 5 (by decide) (by decide) (by decide) (by decide) (by decide)]
                      have u_377_14 : (I_367 mo 14).toInt = (I mo 14).toInt := by rw [pf 14 (by decide) (by decide) (by decide) (by decide) (by decide)]
                      have u_377_16 : (I_367 mo 16).toInt = (I mo 16).toInt := by rw [pf 16 (by decide) (by decide) (by decide) (by decide) (by decide)]
                      have u_377_18 : (I_367 mo 18).toInt = (I mo 18).toInt := by rw [pf 18 (by decide) (by decide) (by decide) (by decide) (by decide)]
                      rw [thn_b (by omega)] at er_374
                      have hQ : mQ gh I_367 J_369 AI_100 AJ mo b nn nr nt cc (pCf b nn (cF b nn nr nt cc h) hc) hc := by rw [er_374] at hQ; exact hQ
                      replace q_376 := hid q_376
                      refine lv_aload_n F.1 F.2.1 dX7_joinTold_99 rfl (lv_at hl 6 rfl) ?_
                      refine lv_aload_n F.1 F.2.1 dX7_joinTold_100 rfl (lv_at hl 6 rfl) ?_
                      refine lv_iload_n F.1 F.2.1 dX7_joinTold_101 rfl (lv_at hl 4 rfl) ?_
                      have b_379 := mJ hv hm
                      unfold mNum1 at b_379
                      refine g_calli (g_runV (As := [.int (iI v_79)]) (rest := [.ref mo]) (ci := 7) F hl.1 hH hS hz (c_X7_columns l g gh T I_367 R J_369 AI_100 AJ AR mo v_79 zv_79 hv hm hT (by omega)) (cwV 1 F.2.2.2.2.1 (good_up gT_X7_columns) rfl rfl rfl hdX7_columns ⟨Nat.le_of_ble_eq_true rfl, Nat.le_of_ble_eq_true rfl⟩) hm (by decide) rfl rfl rfl (Nat.le_of_ble_eq_true rfl) dX7_joinTold_102 ⟨Nat.zero_le _, Nat.zero_le _⟩) hS (fun v_386 I_380 R_381 J_382 AI_383 AJ_384 AR_385 H locs zv_386 hp_387 hH hS => ?_)
                      dsimp only at hp_387
                      obtain ⟨rfl, rfl, rfl, rfl, rfl, rfl, q_378⟩ := hp_387
                      refine g_calli (g_runV (As := [.int (iI v_386)]) (rest := []) (ci := 7) F hl.1 hH hS hz (c_X7_columnf l g gh T b nn nr nt cc (pCf b nn (cF b nn nr nt cc h) hc) hc I_367 R J_369 AI_100 AJ AR mo v_386 zv_386 hv hm hT (by omega) h65 hbM hr7 (by omega) hn9 (by omega) hQ) (cwV 1 F.2.2.2.2.1 (good_up gT_X7_column) rfl rfl rfl hdX7_column ⟨Nat.le_of_ble_eq_true rfl, Nat.le_of_ble_eq_true rfl⟩) hm (by decide) rfl rfl rfl (Nat.le_of_ble_eq_true rfl) dX7_joinTold_105 ⟨Nat.zero_le _, Nat.zero_le _⟩) hS (fun v_394 I_388 R_389 J_390 AI_391 AJ_392 AR_393 H locs zv_394 hp_395 hH hS => ?_)
                      dsimp only at hp_395
                      obtain ⟨r_396, er_396⟩ : ∃ qQ : pR, qQ = thn ((pCf b nn (cF b nn nr nt cc h) hc), hc, 0) (fun t _ => sCol b nn v_386 t) := ⟨_, rfl⟩
                      rw [← er_396] at hp_395
                      obtain ⟨rfl, rfl, rfl, rfl, hv, pfq, q_397, q_398, hQ, q_399⟩ := hp_395
                      have pf := qF_t pf pfq
                      have u_400_2 : (I_388 mo 2).toInt = (I mo 2).toInt := by rw [pf 2 (by decide) (by decide) (by decide) (by decide) (by decide)]
                      have u_400_5 : (I_388 mo 5).toInt = (I mo 5).toInt := by rw [pf 5 (by decide) (by decide) (by decide) (by decide) (by decide)]
                      have u_400_14 : (I_388 mo 14).toInt = (I mo 14).toInt := by rw [pf 14 (by decide) (by decide) (by decide) (by decide) (by decide)]
                      have u_400_16 : (I_388 mo 16).toInt = (I mo 16).toInt := by rw [pf 16 (by decide) (by decide) (by decide) (by decide) (by decide)]
                      have u_400_18 : (I_388 mo 18).toInt = (I mo 18).toInt := by rw [pf 18 (by decide) (by decide) (by decide) (by decide) (by decide)]
                      rw [thn_b (by omega)] at er_396
                      have hQ : mQ gh I_388 J_390 AI_100 AJ mo b nn nr nt cc (pCf b nn (cF b nn nr nt cc h) hc) hc := by rw [er_396] at hQ; exact hQ
                      replace q_398 := hid q_398
                      obtain ⟨f2, ef2⟩ : ∃ q, q = (I_388 mo 24).toInt := ⟨_, rfl⟩
                      have hd1 : Hid (f2 = 0 → 0 ≤ v_394 ∧ v_394 ≤ 3) := fun h9 => by omega
                      refine lv_istore (lv' := [(7, .int (iI v_394)), (6, .int (iI v_121)), (5, .int (iI mr)), (4, .int (iI gn)), (3, .int (iI n)), (2, .int (iI v_79)), (1, .int (iI v_64)), (0, .ref mo)]) F.1 F.2.1 dX7_joinTold_108 hl (by decide) rfl (fun ls hl => ?_)
                      refine lv_aload_n F.1 F.2.1 dX7_joinTold_110 rfl (lv_at hl 7 rfl) ?_
                      refine lv_iload_n F.1 F.2.1 dX7_joinTold_111 rfl (lv_at hl 4 rfl) ?_
                      refine lv_iload F.1 F.2.1 dX7_joinTold_112 (lv_at hl 1 rfl) ?_
                      refine lv_iload F.1 F.2.1 dX7_joinTold_114 (lv_at hl 0 rfl) ?_
                      refine z_iconst F dX7_joinTold_116 ?_
                      refine z_iconst F dX7_joinTold_117 ?_
                      have b_401 := mJ hv hm
                      unfold mNum1 at b_401
                      refine g_callv (g_runV (As := [.int (iI n), .int (iI v_121), .int (iI v_394), .int (iI 0), .int (iI 0)]) (rest := []) (ci := 7) F hl.1 hH hS hz (c_X7_setsPartg l g gh T M I_388 R J_390 AI_100 AJ AR mo n v_121 v_394 0 0 zn zv_121 zv_394 ⟨by decide, by decide⟩ ⟨by decide, by decide⟩ hv hm hT (by omega) (by omega) (by omega)) (cwV 5 F.2.2.2.2.1 (good_up gT_X7_setsPart) rfl rfl rfl hdX7_setsPart ⟨Nat.le_of_ble_eq_true rfl, Nat.le_of_ble_eq_true rfl⟩) hm (by decide) rfl rfl rfl (Nat.le_of_ble_eq_true rfl) dX7_joinTold_118 ⟨Nat.zero_le _, Nat.zero_le _⟩) hS (fun I_402 R_403 J_404 AI_405 AJ_406 AR_407 H locs hp_408 hH hS => ?_)
                      dsimp only at hp_408
                      obtain ⟨rfl, rfl, rfl, rfl, rfl, hv, hT, hsp, q_409⟩ := hp_408
                      replace hsp := hid hsp
                      have hQ : mQ gh I_388 J_390 AI_405 AJ mo b nn nr nt cc (pCf b nn (cF b nn nr nt cc h) hc) hc := mQ_bad hQ (by omega) rfl
                      refine lv_aload_n F.1 F.2.1 dX7_joinTold_121 rfl (lv_at hl 7 rfl) ?_
                      refine g_getI (ci := 7) (k := 24) F hH rfl (by decide) iX7 hm (by decide) rfl k81 dX7_joinTold_122 ?_
                      refine z_if_ne (tgt := 137) F dX7_joinTold_125 (by decide) (zr_t _) (fun c_410 => ?_) (fun c_410 => ?_)
                      · refine z_iinc (lv' := [(3, .int (iI (n + 1))), (7, .int (iI v_394)), (6, .int (iI v_121)), (5, .int (iI mr)), (4, .int (iI gn)), (2, .int (iI v_79)), (1, .int (iI v_64)), (0, .ref mo)]) F dX7_joinTold_137 hl (k := 4) rfl (by decide) rfl (fun ls hl => ?_)
                        refine lv_aload_n F.1 F.2.1 dX7_joinTold_140 rfl (lv_at hl 7 rfl) ?_
                        refine z_bipush F dX7_joinTold_141 (by decide) ?_
                        refine g_calli (g_runV (As := [.int (iI 44)]) (rest := []) (ci := 7) F hl.1 hH hS hz (c_X7_isSignf l g gh T b nn nr nt cc (pCf b nn (cF b nn nr nt cc h) hc) hc I_388 R J_390 AI_405 AJ AR mo 44 ⟨by decide, by decide⟩ hv hm hT h65 hbM hr7 (by omega) hn9 (by omega) (by omega) hQ) (cwV 1 F.2.2.2.2.1 (good_up gT_X7_isSign) rfl rfl rfl hdX7_isSign ⟨Nat.le_of_ble_eq_true rfl, Nat.le_of_ble_eq_true rfl⟩) hm (by decide) rfl rfl rfl (Nat.le_of_ble_eq_true rfl) dX7_joinTold_143 ⟨Nat.zero_le _, Nat.zero_le _⟩) hS (fun v_417 I_411 R_412 J_413 AI_414 AJ_415 AR_416 H locs zv_417 hp_418 hH hS => ?_)
                        dsimp only at hp_418
                        obtain ⟨rfl, rfl, rfl, rfl, rfl, rfl, q_419, q_420⟩ := hp_418
                        replace q_419 := q_419.1
                        refine lv_istore (lv' := [(5, .int (iI v_417)), (3, .int (iI (n + 1))), (7, .int (iI v_394)), (6, .int (iI v_121)), (4, .int (iI gn)), (2, .int (iI v_79)), (1, .int (iI v_64)), (0, .ref mo)]) F.1 F.2.1 dX7_joinTold_146 hl (by decide) rfl (fun ls hl => ?_)
                        refine lv_iload F.1 F.2.1 dX7_joinTold_148 (lv_at hl 0 rfl) ?_
                        refine z_if_eq (tgt := 157) F dX7_joinTold_150 (by decide) zv_417 (fun c_421 => ?_) (fun c_421 => ?_)
                        · have t_422 := tIz_0 q_420 (by omega)
                          refine z_goto (tgt := 24) F dX7_joinTold_157 (by decide) ?_
                          refine lv_iload F.1 F.2.1 dX7_joinTold_24 (lv_at hl 0 rfl) ?_
                          refine z_if_eq (tgt := 160) F dX7_joinTold_26 (by decide) zv_417 (fun c_423 => ?_) (fun c_423 => ?_)
                          · have t_424 := tIz_0 q_420 (by omega)
                            have hTs : sPair b nn (cF b nn nr nt cc h) (cF b nn nr nt cc (h + 1)) n 4 hc = (pCf b nn (cF b nn nr nt cc h) hc, hc, 0) := sPair_x (by omega)
                            have hS9 : sJoi b nn nr nt cc h = (pCf b nn (cF b nn nr nt cc h) hc, hc, 0) := sPairs_no hsq (f := (4 - n).toNat) (by omega) hTs.symm (by omega)
                            have hfin : thn (f, h, 0) (fun t _ => sJoiM b nn nr nt cc t) = (pCf b nn (cF b nn nr nt cc h) hc, hc, 0) := (thn_k q0).trans (by show sJoiM b nn nr nt cc h = _; unfold sJoiM; exact thn_x hS9.symm (by omega))
                            exact cut_160_3 v_64 v_79 (n + 1) gn I_388 J_390 AI_405 H locs ls zv_64 zv_79 ⟨by omega, by omega⟩ zgn hv hT pf ⟨_, _, by omega, hQ, hfin⟩ (by omega) (by omega) (fun b hb => (q_409 b hb).trans (fA9 b hb)) hH hS (lv_sub hl [7, 6, 5, 1, 4] rfl)
                          · exact absurd trivial (by omega)
                        · exact absurd (tIz_1 q_420 (by omega)).1 (by omega)
                      · exact absurd (mQ_z hQ (by omega)) (by omega)
                  · refine lv_aload_n F.1 F.2.1 dX7_joinTold_41 rfl (lv_at hl 5 rfl) ?_
                    refine lv_aload_n F.1 F.2.1 dX7_joinTold_42 rfl (lv_at hl 5 rfl) ?_
                    refine g_getI (ci := 7) (k := 21) F hH rfl (by decide) iX7 hm (by decide) rfl k94 dX7_joinTold_43 ?_
                    refine z_iconst F dX7_joinTold_46 ?_
                    refine z_icmp_ne (tgt := 66) F dX7_joinTold_47 (by decide) (zr_t _) ⟨by decide, by decide⟩ (fun c_425 => ?_) (fun c_425 => ?_)
                    · have t_426 : pK b nn hc ≠ 2 := mQ_kn hQ rfl (c := 1) rfl (by omega)
                      refine lv_aload_n F.1 F.2.1 dX7_joinTold_66 rfl (lv_at hl 5 rfl) ?_
                      refine g_getI (ci := 7) (k := 21) F hH rfl (by decide) iX7 hm (by decide) rfl k94 dX7_joinTold_67 ?_
                      refine z_iconst F dX7_joinTold_70 ?_
                      refine z_icmp_ne (tgt := 78) F dX7_joinTold_71 (by decide) (zr_t _) ⟨by decide, by decide⟩ (fun c_427 => ?_) (fun c_427 => ?_)
                      · have t_428 : pK b nn hc ≠ 2 := mQ_kn hQ rfl (c := 1) rfl (by omega)
                        refine z_iconst F dX7_joinTold_78 ?_
                        refine g_callv (g_runV (As := [.int (iI 1)]) (rest := []) (ci := 7) F hl.1 hH hS hz (c_X7_wrongf l g gh T b nn nr nt cc 0 hc I_98 R J_99 AI_100 AJ AR mo 1 ⟨by decide, by decide⟩ hv hm hT (by omega) h65 hbM hr7 (by omega) hn9 (by omega) hQ) (cwV 1 F.2.2.2.2.1 (good_up gT_X7_wrong) rfl rfl rfl hdX7_wrong ⟨Nat.le_of_ble_eq_true rfl, Nat.le_of_ble_eq_true rfl⟩) hm (by decide) rfl rfl rfl (Nat.le_of_ble_eq_true rfl) dX7_joinTold_79 ⟨Nat.zero_le _, Nat.zero_le _⟩) hS (fun I_429 R_430 J_431 AI_432 AJ_433 AR_434 H locs hp_435 hH hS => ?_)
                        dsimp only at hp_435
                        obtain ⟨r_436, er_436⟩ : ∃ qQ : pR, qQ = thn (0, hc, 0) (fun t _ => (1, t, 0)) := ⟨_, rfl⟩
                        rw [← er_436] at hp_435
                        obtain ⟨rfl, rfl, rfl, rfl, rfl, hv, pfq, q_437, hQ⟩ := hp_435
                        have pf := qF_t pf pfq
                        have u_438_2 : (I_429 mo 2).toInt = (I mo 2).toInt := by rw [pf 2 (by decide) (by decide) (by decide) (by decide) (by decide)]
                        have u_438_5 : (I_429 mo 5).toInt = (I mo 5).toInt := by rw [pf 5 (by decide) (by decide) (by decide) (by decide) (by decide)]
                        have u_438_14 : (I_429 mo 14).toInt = (I mo 14).toInt := by rw [pf 14 (by decide) (by decide) (by decide) (by decide) (by decide)]
                        have u_438_16 : (I_429 mo 16).toInt = (I mo 16).toInt := by rw [pf 16 (by decide) (by decide) (by decide) (by decide) (by decide)]
                        have u_438_18 : (I_429 mo 18).toInt = (I mo 18).toInt := by rw [pf 18 (by decide) (by decide) (by decide) (by decide) (by decide)]
                        have er_436 : r_436 = (1, hc, 0) := er_436
                        have hQ : mQ gh I_429 J_99 AI_100 AJ mo b nn nr nt cc 1 hc := by rw [er_436] at hQ; exact hQ
                        have q9_r_436 : (1 : Int) ≠ 0 := by omega
                        have g9_r_436 := mQ_f hQ q9_r_436
                        refine lv_aload_n F.1 F.2.1 dX7_joinTold_82 rfl (lv_at hl 5 rfl) ?_
                        refine lv_aload_n F.1 F.2.1 dX7_joinTold_83 rfl (lv_at hl 5 rfl) ?_
                        refine lv_iload_n F.1 F.2.1 dX7_joinTold_84 rfl (lv_at hl 4 rfl) ?_
                        have b_440 := mJ hv hm
                        unfold mNum1 at b_440
                        refine g_calli (g_runV (As := [.int (iI v_64)]) (rest := [.ref mo]) (ci := 7) F hl.1 hH hS hz (c_X7_columns l g gh T I_429 R J_99 AI_100 AJ AR mo v_64 zv_64 hv hm hT (by omega)) (cwV 1 F.2.2.2.2.1 (good_up gT_X7_columns) rfl rfl rfl hdX7_columns ⟨Nat.le_of_ble_eq_true rfl, Nat.le_of_ble_eq_true rfl⟩) hm (by decide) rfl rfl rfl (Nat.le_of_ble_eq_true rfl) dX7_joinTold_85 ⟨Nat.zero_le _, Nat.zero_le _⟩) hS (fun v_447 I_441 R_442 J_443 AI_444 AJ_445 AR_446 H locs zv_447 hp_448 hH hS => ?_)
                        dsimp only at hp_448
                        obtain ⟨rfl, rfl, rfl, rfl, rfl, rfl, q_439⟩ := hp_448
                        refine g_calli (g_runV (As := [.int (iI v_447)]) (rest := []) (ci := 7) F hl.1 hH hS hz (c_X7_columnf l g gh T b nn nr nt cc 1 hc I_429 R J_99 AI_100 AJ AR mo v_447 zv_447 hv hm hT (by omega) h65 hbM hr7 (by omega) hn9 (by omega) hQ) (cwV 1 F.2.2.2.2.1 (good_up gT_X7_column) rfl rfl rfl hdX7_column ⟨Nat.le_of_ble_eq_true rfl, Nat.le_of_ble_eq_true rfl⟩) hm (by decide) rfl rfl rfl (Nat.le_of_ble_eq_true rfl) dX7_joinTold_88 ⟨Nat.zero_le _, Nat.zero_le _⟩) hS (fun v_455 I_449 R_450 J_451 AI_452 AJ_453 AR_454 H locs zv_455 hp_456 hH hS => ?_)
                        dsimp only at hp_456
                        obtain ⟨r_457, er_457⟩ : ∃ qQ : pR, qQ = thn (1, hc, 0) (fun t _ => sCol b nn v_447 t) := ⟨_, rfl⟩
                        rw [← er_457] at hp_456
                        obtain ⟨rfl, rfl, rfl, rfl, hv, pfq, q_458, q_459, hQ, q_460⟩ := hp_456
                        have pf := qF_t pf pfq
                        have u_461_2 : (I_449 mo 2).toInt = (I mo 2).toInt := by rw [pf 2 (by decide) (by decide) (by decide) (by decide) (by decide)]
                        have u_461_5 : (I_449 mo 5).toInt = (I mo 5).toInt := by rw [pf 5 (by decide) (by decide) (by decide) (by decide) (by decide)]
                        have u_461_14 : (I_449 mo 14).toInt = (I mo 14).toInt := by rw [pf 14 (by decide) (by decide) (by decide) (by decide) (by decide)]
                        have u_461_16 : (I_449 mo 16).toInt = (I mo 16).toInt := by rw [pf 16 (by decide) (by decide) (by decide) (by decide) (by decide)]
                        have u_461_18 : (I_449 mo 18).toInt = (I mo 18).toInt := by rw [pf 18 (by decide) (by decide) (by decide) (by decide) (by decide)]
                        rw [thn_b (by omega)] at er_457
                        have hQ : mQ gh I_449 J_451 AI_100 AJ mo b nn nr nt cc 1 hc := by rw [er_457] at hQ; exact hQ
                        replace q_459 := hid q_459
                        obtain ⟨f1, ef1⟩ : ∃ q, q = (I_449 mo 24).toInt := ⟨_, rfl⟩
                        have hc1 : Hid (f1 = 0 → 0 ≤ v_455 ∧ v_455 ≤ 3) := fun h9 => by omega
                        refine lv_istore (lv' := [(6, .int (iI v_455)), (5, .int (iI mr)), (4, .int (iI gn)), (3, .int (iI n)), (2, .int (iI v_79)), (1, .int (iI v_64)), (0, .ref mo)]) F.1 F.2.1 dX7_joinTold_91 hl (by decide) rfl (fun ls hl => ?_)
                        refine lv_aload_n F.1 F.2.1 dX7_joinTold_93 rfl (lv_at hl 6 rfl) ?_
                        refine z_bipush F dX7_joinTold_94 (by decide) ?_
                        have b_462 := mJ hv hm
                        unfold mNum1 at b_462
                        refine g_callv (g_runV (As := [.int (iI 61)]) (rest := []) (ci := 7) F hl.1 hH hS hz (c_X7_mustSignf l g gh T b nn nr nt cc 1 hc I_449 R J_451 AI_100 AJ AR mo 61 ⟨by decide, by decide⟩ hv hm hT (by omega) h65 hbM hr7 (by omega) hn9 (by omega) (by omega) hQ) (cwV 1 F.2.2.2.2.1 (good_up gT_X7_mustSign) rfl rfl rfl hdX7_mustSign ⟨Nat.le_of_ble_eq_true rfl, Nat.le_of_ble_eq_true rfl⟩) hm (by decide) rfl rfl rfl (Nat.le_of_ble_eq_true rfl) dX7_joinTold_96 ⟨Nat.zero_le _, Nat.zero_le _⟩) hS (fun I_463 R_464 J_465 AI_466 AJ_467 AR_468 H locs hp_469 hH hS => ?_)
                        dsimp only at hp_469
                        obtain ⟨r_470, er_470⟩ : ∃ qQ : pR, qQ = thn (1, hc, 0) (fun t _ => sTk b nn 61 t) := ⟨_, rfl⟩
                        rw [← er_470] at hp_469
                        obtain ⟨rfl, rfl, rfl, rfl, hv, pfq, q_471, q_472, hQ⟩ := hp_469
                        have pf := qF_t pf pfq
                        have u_473_2 : (I_463 mo 2).toInt = (I mo 2).toInt := by rw [pf 2 (by decide) (by decide) (by decide) (by decide) (by decide)]
                        have u_473_5 : (I_463 mo 5).toInt = (I mo 5).toInt := by rw [pf 5 (by decide) (by decide) (by decide) (by decide) (by decide)]
                        have u_473_14 : (I_463 mo 14).toInt = (I mo 14).toInt := by rw [pf 14 (by decide) (by decide) (by decide) (by decide) (by decide)]
                        have u_473_16 : (I_463 mo 16).toInt = (I mo 16).toInt := by rw [pf 16 (by decide) (by decide) (by decide) (by decide) (by decide)]
                        have u_473_18 : (I_463 mo 18).toInt = (I mo 18).toInt := by rw [pf 18 (by decide) (by decide) (by decide) (by decide) (by decide)]
                        rw [thn_b (by omega)] at er_470
                        have hQ : mQ gh I_463 J_465 AI_100 AJ mo b nn nr nt cc 1 hc := by rw [er_470] at hQ; exact hQ
                        replace q_472 := hid q_472
                        refine lv_aload_n F.1 F.2.1 dX7_joinTold_99 rfl (lv_at hl 6 rfl) ?_
                        refine lv_aload_n F.1 F.2.1 dX7_joinTold_100 rfl (lv_at hl 6 rfl) ?_
                        refine lv_iload_n F.1 F.2.1 dX7_joinTold_101 rfl (lv_at hl 4 rfl) ?_
                        have b_475 := mJ hv hm
                        unfold mNum1 at b_475
                        refine g_calli (g_runV (As := [.int (iI v_79)]) (rest := [.ref mo]) (ci := 7) F hl.1 hH hS hz (c_X7_columns l g gh T I_463 R J_465 AI_100 AJ AR mo v_79 zv_79 hv hm hT (by omega)) (cwV 1 F.2.2.2.2.1 (good_up gT_X7_columns) rfl rfl rfl hdX7_columns ⟨Nat.le_of_ble_eq_true rfl, Nat.le_of_ble_eq_true rfl⟩) hm (by decide) rfl rfl rfl (Nat.le_of_ble_eq_true rfl) dX7_joinTold_102 ⟨Nat.zero_le _, Nat.zero_le _⟩) hS (fun v_482 I_476 R_477 J_478 AI_479 AJ_480 AR_481 H locs zv_482 hp_483 hH hS => ?_)
                        dsimp only at hp_483
                        obtain ⟨rfl, rfl, rfl, rfl, rfl, rfl, q_474⟩ := hp_483
                        refine g_calli (g_runV (As := [.int (iI v_482)]) (rest := []) (ci := 7) F hl.1 hH hS hz (c_X7_columnf l g gh T b nn nr nt cc 1 hc I_463 R J_465 AI_100 AJ AR mo v_482 zv_482 hv hm hT (by omega) h65 hbM hr7 (by omega) hn9 (by omega) hQ) (cwV 1 F.2.2.2.2.1 (good_up gT_X7_column) rfl rfl rfl hdX7_column ⟨Nat.le_of_ble_eq_true rfl, Nat.le_of_ble_eq_true rfl⟩) hm (by decide) rfl rfl rfl (Nat.le_of_ble_eq_true rfl) dX7_joinTold_105 ⟨Nat.zero_le _, Nat.zero_le _⟩) hS (fun v_490 I_484 R_485 J_486 AI_487 AJ_488 AR_489 H locs zv_490 hp_491 hH hS => ?_)
                        dsimp only at hp_491
                        obtain ⟨r_492, er_492⟩ : ∃ qQ : pR, qQ = thn (1, hc, 0) (fun t _ => sCol b nn v_482 t) := ⟨_, rfl⟩
                        rw [← er_492] at hp_491
                        obtain ⟨rfl, rfl, rfl, rfl, hv, pfq, q_493, q_494, hQ, q_495⟩ := hp_491
                        have pf := qF_t pf pfq
                        have u_496_2 : (I_484 mo 2).toInt = (I mo 2).toInt := by rw [pf 2 (by decide) (by decide) (by decide) (by decide) (by decide)]
                        have u_496_5 : (I_484 mo 5).toInt = (I mo 5).toInt := by rw [pf 5 (by decide) (by decide) (by decide) (by decide) (by decide)]
                        have u_496_14 : (I_484 mo 14).toInt = (I mo 14).toInt := by rw [pf 14 (by decide) (by decide) (by decide) (by decide) (by decide)]
                        have u_496_16 : (I_484 mo 16).toInt = (I mo 16).toInt := by rw [pf 16 (by decide) (by decide) (by decide) (by decide) (by decide)]
                        have u_496_18 : (I_484 mo 18).toInt = (I mo 18).toInt := by rw [pf 18 (by decide) (by decide) (by decide) (by decide) (by decide)]
                        rw [thn_b (by omega)] at er_492
                        have hQ : mQ gh I_484 J_486 AI_100 AJ mo b nn nr nt cc 1 hc := by rw [er_492] at hQ; exact hQ
                        replace q_494 := hid q_494
                        obtain ⟨f2, ef2⟩ : ∃ q, q = (I_484 mo 24).toInt := ⟨_, rfl⟩
                        have hd1 : Hid (f2 = 0 → 0 ≤ v_490 ∧ v_490 ≤ 3) := fun h9 => by omega
                        refine lv_istore (lv' := [(7, .int (iI v_490)), (6, .int (iI v_455)), (5, .int (iI mr)), (4, .int (iI gn)), (3, .int (iI n)), (2, .int (iI v_79)), (1, .int (iI v_64)), (0, .ref mo)]) F.1 F.2.1 dX7_joinTold_108 hl (by decide) rfl (fun ls hl => ?_)
                        refine lv_aload_n F.1 F.2.1 dX7_joinTold_110 rfl (lv_at hl 7 rfl) ?_
                        refine lv_iload_n F.1 F.2.1 dX7_joinTold_111 rfl (lv_at hl 4 rfl) ?_
                        refine lv_iload F.1 F.2.1 dX7_joinTold_112 (lv_at hl 1 rfl) ?_
                        refine lv_iload F.1 F.2.1 dX7_joinTold_114 (lv_at hl 0 rfl) ?_
                        refine z_iconst F dX7_joinTold_116 ?_
                        refine z_iconst F dX7_joinTold_117 ?_
                        have b_497 := mJ hv hm
                        unfold mNum1 at b_497
                        refine g_callv (g_runV (As := [.int (iI n), .int (iI v_455), .int (iI v_490), .int (iI 0), .int (iI 0)]) (rest := []) (ci := 7) F hl.1 hH hS hz (c_X7_setsPartg l g gh T M I_484 R J_486 AI_100 AJ AR mo n v_455 v_490 0 0 zn zv_455 zv_490 ⟨by decide, by decide⟩ ⟨by decide, by decide⟩ hv hm hT (by omega) (by omega) (by omega)) (cwV 5 F.2.2.2.2.1 (good_up gT_X7_setsPart) rfl rfl rfl hdX7_setsPart ⟨Nat.le_of_ble_eq_true rfl, Nat.le_of_ble_eq_true rfl⟩) hm (by decide) rfl rfl rfl (Nat.le_of_ble_eq_true rfl) dX7_joinTold_118 ⟨Nat.zero_le _, Nat.zero_le _⟩) hS (fun I_498 R_499 J_500 AI_501 AJ_502 AR_503 H locs hp_504 hH hS => ?_)
                        dsimp only at hp_504
                        obtain ⟨rfl, rfl, rfl, rfl, rfl, hv, hT, hsp, q_505⟩ := hp_504
                        replace hsp := hid hsp
                        have hQ : mQ gh I_484 J_486 AI_501 AJ mo b nn nr nt cc 1 hc := mQ_bad hQ (by omega) rfl
                        refine lv_aload_n F.1 F.2.1 dX7_joinTold_121 rfl (lv_at hl 7 rfl) ?_
                        refine g_getI (ci := 7) (k := 24) F hH rfl (by decide) iX7 hm (by decide) rfl k81 dX7_joinTold_122 ?_
                        refine z_if_ne (tgt := 137) F dX7_joinTold_125 (by decide) (zr_t _) (fun c_506 => ?_) (fun c_506 => ?_)
                        · refine z_iinc (lv' := [(3, .int (iI (n + 1))), (7, .int (iI v_490)), (6, .int (iI v_455)), (5, .int (iI mr)), (4, .int (iI gn)), (2, .int (iI v_79)), (1, .int (iI v_64)), (0, .ref mo)]) F dX7_joinTold_137 hl (k := 4) rfl (by decide) rfl (fun ls hl => ?_)
                          refine lv_aload_n F.1 F.2.1 dX7_joinTold_140 rfl (lv_at hl 7 rfl) ?_
                          refine z_bipush F dX7_joinTold_141 (by decide) ?_
                          refine g_calli (g_runV (As := [.int (iI 44)]) (rest := []) (ci := 7) F hl.1 hH hS hz (c_X7_isSignf l g gh T b nn nr nt cc 1 hc I_484 R J_486 AI_501 AJ AR mo 44 ⟨by decide, by decide⟩ hv hm hT h65 hbM hr7 (by omega) hn9 (by omega) (by omega) hQ) (cwV 1 F.2.2.2.2.1 (good_up gT_X7_isSign) rfl rfl rfl hdX7_isSign ⟨Nat.le_of_ble_eq_true rfl, Nat.le_of_ble_eq_true rfl⟩) hm (by decide) rfl rfl rfl (Nat.le_of_ble_eq_true rfl) dX7_joinTold_143 ⟨Nat.zero_le _, Nat.zero_le _⟩) hS (fun v_513 I_507 R_508 J_509 AI_510 AJ_511 AR_512 H locs zv_513 hp_514 hH hS => ?_)
                          dsimp only at hp_514
                          obtain ⟨rfl, rfl, rfl, rfl, rfl, rfl, q_515, q_516⟩ := hp_514
                          replace q_515 := q_515.1
                          refine lv_istore (lv' := [(5, .int (iI v_513)), (3, .int (iI (n + 1))), (7, .int (iI v_490)), (6, .int (iI v_455)), (4, .int (iI gn)), (2, .int (iI v_79)), (1, .int (iI v_64)), (0, .ref mo)]) F.1 F.2.1 dX7_joinTold_146 hl (by decide) rfl (fun ls hl => ?_)
                          refine lv_iload F.1 F.2.1 dX7_joinTold_148 (lv_at hl 0 rfl) ?_
                          refine z_if_eq (tgt := 157) F dX7_joinTold_150 (by decide) zv_513 (fun c_517 => ?_) (fun c_517 => ?_)
                          · have t_518 := tIz_0 q_516 (by omega)
                            refine z_goto (tgt := 24) F dX7_joinTold_157 (by decide) ?_
                            refine lv_iload F.1 F.2.1 dX7_joinTold_24 (lv_at hl 0 rfl) ?_
                            refine z_if_eq (tgt := 160) F dX7_joinTold_26 (by decide) zv_513 (fun c_519 => ?_) (fun c_519 => ?_)
                            · have t_520 := tIz_0 q_516 (by omega)
                              have hTs : sPair b nn (cF b nn nr nt cc h) (cF b nn nr nt cc (h + 1)) n 4 hc = (1, hc, 0) := pE1 (sPair_x (c := (cF b nn nr nt cc h)) (pCf_n1 (by omega))) (by omega)
                              have hS9 : sJoi b nn nr nt cc h = (1, hc, 0) := sPairs_no hsq (f := (4 - n).toNat) (by omega) hTs.symm (by omega)
                              have hfin : thn (f, h, 0) (fun t _ => sJoiM b nn nr nt cc t) = (1, hc, 0) := (thn_k q0).trans (by show sJoiM b nn nr nt cc h = _; unfold sJoiM; exact thn_x hS9.symm (by omega))
                              exact cut_160_3 v_64 v_79 (n + 1) gn I_484 J_486 AI_501 H locs ls zv_64 zv_79 ⟨by omega, by omega⟩ zgn hv hT pf ⟨_, _, by omega, hQ, hfin⟩ (by omega) (by omega) (fun b hb => (q_505 b hb).trans (fA9 b hb)) hH hS (lv_sub hl [7, 6, 5, 1, 4] rfl)
                            · exact absurd trivial (by omega)
                          · exact absurd (tIz_1 q_516 (by omega)).1 (by omega)
                        · exact absurd (mQ_z hQ (by omega)) (by omega)
                      · exact absurd trivial (by omega)
                    · have t_521 := tkM_1 ((mQ_k hQ rfl).symm.trans (by omega))
                      have t_521v := mQ_v hQ rfl (by omega)
                      have t_521c := pV_c t_521
                      refine lv_aload_n F.1 F.2.1 dX7_joinTold_50 rfl (lv_at hl 5 rfl) ?_
                      refine g_getI (ci := 7) (k := 23) F hH rfl (by decide) iX7 hm (by decide) rfl k97 dX7_joinTold_51 ?_
                      refine lv_aload_n F.1 F.2.1 dX7_joinTold_54 rfl (lv_at hl 5 rfl) ?_
                      refine lv_iload_n F.1 F.2.1 dX7_joinTold_55 rfl (lv_at hl 4 rfl) ?_
                      refine g_calli (g_runV (As := [.int (iI v_64)]) (rest := [.int (iI ((I_98 mo 23).toInt)), .ref mo]) (ci := 7) F hl.1 hH hS hz (c_X7_columns l g gh T I_98 R J_99 AI_100 AJ AR mo v_64 zv_64 hv hm hT (by omega)) (cwV 1 F.2.2.2.2.1 (good_up gT_X7_columns) rfl rfl rfl hdX7_columns ⟨Nat.le_of_ble_eq_true rfl, Nat.le_of_ble_eq_true rfl⟩) hm (by decide) rfl rfl rfl (Nat.le_of_ble_eq_true rfl) dX7_joinTold_56 ⟨Nat.zero_le _, Nat.zero_le _⟩) hS (fun v_529 I_523 R_524 J_525 AI_526 AJ_527 AR_528 H locs zv_529 hp_530 hH hS => ?_)
                      dsimp only at hp_530
                      obtain ⟨rfl, rfl, rfl, rfl, rfl, rfl, q_522⟩ := hp_530
                      have cvv_529 : v_529 = cF b nn nr nt cc h := q_522.trans ((mQ_c hQ rfl vlr_66.1 vlr_66.2.1).trans vlr_66.2.2)
                      refine z_icmp_lt (tgt := 66) F dX7_joinTold_59 (by decide) (zr_t _) zv_529 (fun c_531 => ?_) (fun c_531 => ?_)
                      · refine lv_aload_n F.1 F.2.1 dX7_joinTold_66 rfl (lv_at hl 5 rfl) ?_
                        refine g_getI (ci := 7) (k := 21) F hH rfl (by decide) iX7 hm (by decide) rfl k94 dX7_joinTold_67 ?_
                        refine z_iconst F dX7_joinTold_70 ?_
                        refine z_icmp_ne (tgt := 78) F dX7_joinTold_71 (by decide) (zr_t _) ⟨by decide, by decide⟩ (fun c_532 => ?_) (fun c_532 => ?_)
                        · exact absurd trivial (by omega)
                        · have t_533 := tkM_1 ((mQ_k hQ rfl).symm.trans (by omega))
                          have t_533v := mQ_v hQ rfl (by omega)
                          have t_533c := pV_c t_533
                          refine z_iconst F dX7_joinTold_74 ?_
                          refine z_goto (tgt := 79) F dX7_joinTold_75 (by decide) ?_
                          refine g_callv (g_runV (As := [.int (iI 4)]) (rest := []) (ci := 7) F hl.1 hH hS hz (c_X7_wrongf l g gh T b nn nr nt cc 0 hc I_98 R J_99 AI_100 AJ AR mo 4 ⟨by decide, by decide⟩ hv hm hT (by omega) h65 hbM hr7 (by omega) hn9 (by omega) hQ) (cwV 1 F.2.2.2.2.1 (good_up gT_X7_wrong) rfl rfl rfl hdX7_wrong ⟨Nat.le_of_ble_eq_true rfl, Nat.le_of_ble_eq_true rfl⟩) hm (by decide) rfl rfl rfl (Nat.le_of_ble_eq_true rfl) dX7_joinTold_79 ⟨Nat.zero_le _, Nat.zero_le _⟩) hS (fun I_534 R_535 J_536 AI_537 AJ_538 AR_539 H locs hp_540 hH hS => ?_)
                          dsimp only at hp_540
                          obtain ⟨r_541, er_541⟩ : ∃ qQ : pR, qQ = thn (0, hc, 0) (fun t _ => (4, t, 0)) := ⟨_, rfl⟩
                          rw [← er_541] at hp_540
                          obtain ⟨rfl, rfl, rfl, rfl, rfl, hv, pfq, q_542, hQ⟩ := hp_540
                          have pf := qF_t pf pfq
                          have u_543_2 : (I_534 mo 2).toInt = (I mo 2).toInt := by rw [pf 2 (by decide) (by decide) (by decide) (by decide) (by decide)]
                          have u_543_5 : (I_534 mo 5).toInt = (I mo 5).toInt := by rw [pf 5 (by decide) (by decide) (by decide) (by decide) (by decide)]
                          have u_543_14 : (I_534 mo 14).toInt = (I mo 14).toInt := by rw [pf 14 (by decide) (by decide) (by decide) (by decide) (by decide)]
                          have u_543_16 : (I_534 mo 16).toInt = (I mo 16).toInt := by rw [pf 16 (by decide) (by decide) (by decide) (by decide) (by decide)]
                          have u_543_18 : (I_534 mo 18).toInt = (I mo 18).toInt := by rw [pf 18 (by decide) (by decide) (by decide) (by decide) (by decide)]
                          have er_541 : r_541 = (4, hc, 0) := er_541
                          have hQ : mQ gh I_534 J_99 AI_100 AJ mo b nn nr nt cc 4 hc := by rw [er_541] at hQ; exact hQ
                          have q9_r_541 : (4 : Int) ≠ 0 := by omega
                          have g9_r_541 := mQ_f hQ q9_r_541
                          refine lv_aload_n F.1 F.2.1 dX7_joinTold_82 rfl (lv_at hl 5 rfl) ?_
                          refine lv_aload_n F.1 F.2.1 dX7_joinTold_83 rfl (lv_at hl 5 rfl) ?_
                          refine lv_iload_n F.1 F.2.1 dX7_joinTold_84 rfl (lv_at hl 4 rfl) ?_
                          have b_545 := mJ hv hm
                          unfold mNum1 at b_545
                          refine g_calli (g_runV (As := [.int (iI v_64)]) (rest := [.ref mo]) (ci := 7) F hl.1 hH hS hz (c_X7_columns l g gh T I_534 R J_99 AI_100 AJ AR mo v_64 zv_64 hv hm hT (by omega)) (cwV 1 F.2.2.2.2.1 (good_up gT_X7_columns) rfl rfl rfl hdX7_columns ⟨Nat.le_of_ble_eq_true rfl, Nat.le_of_ble_eq_true rfl⟩) hm (by decide) rfl rfl rfl (Nat.le_of_ble_eq_true rfl) dX7_joinTold_85 ⟨Nat.zero_le _, Nat.zero_le _⟩) hS (fun v_552 I_546 R_547 J_548 AI_549 AJ_550 AR_551 H locs zv_552 hp_553 hH hS => ?_)
                          dsimp only at hp_553
                          obtain ⟨rfl, rfl, rfl, rfl, rfl, rfl, q_544⟩ := hp_553
                          refine g_calli (g_runV (As := [.int (iI v_552)]) (rest := []) (ci := 7) F hl.1 hH hS hz (c_X7_columnf l g gh T b nn nr nt cc 4 hc I_534 R J_99 AI_100 AJ AR mo v_552 zv_552 hv hm hT (by omega) h65 hbM hr7 (by omega) hn9 (by omega) hQ) (cwV 1 F.2.2.2.2.1 (good_up gT_X7_column) rfl rfl rfl hdX7_column ⟨Nat.le_of_ble_eq_true rfl, Nat.le_of_ble_eq_true rfl⟩) hm (by decide) rfl rfl rfl (Nat.le_of_ble_eq_true rfl) dX7_joinTold_88 ⟨Nat.zero_le _, Nat.zero_le _⟩) hS (fun v_560 I_554 R_555 J_556 AI_557 AJ_558 AR_559 H locs zv_560 hp_561 hH hS => ?_)
                          dsimp only at hp_561
                          obtain ⟨r_562, er_562⟩ : ∃ qQ : pR, qQ = thn (4, hc, 0) (fun t _ => sCol b nn v_552 t) := ⟨_, rfl⟩
                          rw [← er_562] at hp_561
                          obtain ⟨rfl, rfl, rfl, rfl, hv, pfq, q_563, q_564, hQ, q_565⟩ := hp_561
                          have pf := qF_t pf pfq
                          have u_566_2 : (I_554 mo 2).toInt = (I mo 2).toInt := by rw [pf 2 (by decide) (by decide) (by decide) (by decide) (by decide)]
                          have u_566_5 : (I_554 mo 5).toInt = (I mo 5).toInt := by rw [pf 5 (by decide) (by decide) (by decide) (by decide) (by decide)]
                          have u_566_14 : (I_554 mo 14).toInt = (I mo 14).toInt := by rw [pf 14 (by decide) (by decide) (by decide) (by decide) (by decide)]
                          have u_566_16 : (I_554 mo 16).toInt = (I mo 16).toInt := by rw [pf 16 (by decide) (by decide) (by decide) (by decide) (by decide)]
                          have u_566_18 : (I_554 mo 18).toInt = (I mo 18).toInt := by rw [pf 18 (by decide) (by decide) (by decide) (by decide) (by decide)]
                          rw [thn_b (by omega)] at er_562
                          have hQ : mQ gh I_554 J_556 AI_100 AJ mo b nn nr nt cc 4 hc := by rw [er_562] at hQ; exact hQ
                          replace q_564 := hid q_564
                          obtain ⟨f1, ef1⟩ : ∃ q, q = (I_554 mo 24).toInt := ⟨_, rfl⟩
                          have hc1 : Hid (f1 = 0 → 0 ≤ v_560 ∧ v_560 ≤ 3) := fun h9 => by omega
                          refine lv_istore (lv' := [(6, .int (iI v_560)), (5, .int (iI mr)), (4, .int (iI gn)), (3, .int (iI n)), (2, .int (iI v_79)), (1, .int (iI v_64)), (0, .ref mo)]) F.1 F.2.1 dX7_joinTold_91 hl (by decide) rfl (fun ls hl => ?_)
                          refine lv_aload_n F.1 F.2.1 dX7_joinTold_93 rfl (lv_at hl 6 rfl) ?_
                          refine z_bipush F dX7_joinTold_94 (by decide) ?_
                          have b_567 := mJ hv hm
                          unfold mNum1 at b_567
                          refine g_callv (g_runV (As := [.int (iI 61)]) (rest := []) (ci := 7) F hl.1 hH hS hz (c_X7_mustSignf l g gh T b nn nr nt cc 4 hc I_554 R J_556 AI_100 AJ AR mo 61 ⟨by decide, by decide⟩ hv hm hT (by omega) h65 hbM hr7 (by omega) hn9 (by omega) (by omega) hQ) (cwV 1 F.2.2.2.2.1 (good_up gT_X7_mustSign) rfl rfl rfl hdX7_mustSign ⟨Nat.le_of_ble_eq_true rfl, Nat.le_of_ble_eq_true rfl⟩) hm (by decide) rfl rfl rfl (Nat.le_of_ble_eq_true rfl) dX7_joinTold_96 ⟨Nat.zero_le _, Nat.zero_le _⟩) hS (fun I_568 R_569 J_570 AI_571 AJ_572 AR_573 H locs hp_574 hH hS => ?_)
                          dsimp only at hp_574
                          obtain ⟨r_575, er_575⟩ : ∃ qQ : pR, qQ = thn (4, hc, 0) (fun t _ => sTk b nn 61 t) := ⟨_, rfl⟩
                          rw [← er_575] at hp_574
                          obtain ⟨rfl, rfl, rfl, rfl, hv, pfq, q_576, q_577, hQ⟩ := hp_574
                          have pf := qF_t pf pfq
                          have u_578_2 : (I_568 mo 2).toInt = (I mo 2).toInt := by rw [pf 2 (by decide) (by decide) (by decide) (by decide) (by decide)]
                          have u_578_5 : (I_568 mo 5).toInt = (I mo 5).toInt := by rw [pf 5 (by decide) (by decide) (by decide) (by decide) (by decide)]
                          have u_578_14 : (I_568 mo 14).toInt = (I mo 14).toInt := by rw [pf 14 (by decide) (by decide) (by decide) (by decide) (by decide)]
                          have u_578_16 : (I_568 mo 16).toInt = (I mo 16).toInt := by rw [pf 16 (by decide) (by decide) (by decide) (by decide) (by decide)]
                          have u_578_18 : (I_568 mo 18).toInt = (I mo 18).toInt := by rw [pf 18 (by decide) (by decide) (by decide) (by decide) (by decide)]
                          rw [thn_b (by omega)] at er_575
                          have hQ : mQ gh I_568 J_570 AI_100 AJ mo b nn nr nt cc 4 hc := by rw [er_575] at hQ; exact hQ
                          replace q_577 := hid q_577
                          refine lv_aload_n F.1 F.2.1 dX7_joinTold_99 rfl (lv_at hl 6 rfl) ?_
                          refine lv_aload_n F.1 F.2.1 dX7_joinTold_100 rfl (lv_at hl 6 rfl) ?_
                          refine lv_iload_n F.1 F.2.1 dX7_joinTold_101 rfl (lv_at hl 4 rfl) ?_
                          have b_580 := mJ hv hm
                          unfold mNum1 at b_580
                          refine g_calli (g_runV (As := [.int (iI v_79)]) (rest := [.ref mo]) (ci := 7) F hl.1 hH hS hz (c_X7_columns l g gh T I_568 R J_570 AI_100 AJ AR mo v_79 zv_79 hv hm hT (by omega)) (cwV 1 F.2.2.2.2.1 (good_up gT_X7_columns) rfl rfl rfl hdX7_columns ⟨Nat.le_of_ble_eq_true rfl, Nat.le_of_ble_eq_true rfl⟩) hm (by decide) rfl rfl rfl (Nat.le_of_ble_eq_true rfl) dX7_joinTold_102 ⟨Nat.zero_le _, Nat.zero_le _⟩) hS (fun v_587 I_581 R_582 J_583 AI_584 AJ_585 AR_586 H locs zv_587 hp_588 hH hS => ?_)
                          dsimp only at hp_588
                          obtain ⟨rfl, rfl, rfl, rfl, rfl, rfl, q_579⟩ := hp_588
                          refine g_calli (g_runV (As := [.int (iI v_587)]) (rest := []) (ci := 7) F hl.1 hH hS hz (c_X7_columnf l g gh T b nn nr nt cc 4 hc I_568 R J_570 AI_100 AJ AR mo v_587 zv_587 hv hm hT (by omega) h65 hbM hr7 (by omega) hn9 (by omega) hQ) (cwV 1 F.2.2.2.2.1 (good_up gT_X7_column) rfl rfl rfl hdX7_column ⟨Nat.le_of_ble_eq_true rfl, Nat.le_of_ble_eq_true rfl⟩) hm (by decide) rfl rfl rfl (Nat.le_of_ble_eq_true rfl) dX7_joinTold_105 ⟨Nat.zero_le _, Nat.zero_le _⟩) hS (fun v_595 I_589 R_590 J_591 AI_592 AJ_593 AR_594 H locs zv_595 hp_596 hH hS => ?_)
                          dsimp only at hp_596
                          obtain ⟨r_597, er_597⟩ : ∃ qQ : pR, qQ = thn (4, hc, 0) (fun t _ => sCol b nn v_587 t) := ⟨_, rfl⟩
                          rw [← er_597] at hp_596
                          obtain ⟨rfl, rfl, rfl, rfl, hv, pfq, q_598, q_599, hQ, q_600⟩ := hp_596
                          have pf := qF_t pf pfq
                          have u_601_2 : (I_589 mo 2).toInt = (I mo 2).toInt := by rw [pf 2 (by decide) (by decide) (by decide) (by decide) (by decide)]
                          have u_601_5 : (I_589 mo 5).toInt = (I mo 5).toInt := by rw [pf 5 (by decide) (by decide) (by decide) (by decide) (by decide)]
                          have u_601_14 : (I_589 mo 14).toInt = (I mo 14).toInt := by rw [pf 14 (by decide) (by decide) (by decide) (by decide) (by decide)]
                          have u_601_16 : (I_589 mo 16).toInt = (I mo 16).toInt := by rw [pf 16 (by decide) (by decide) (by decide) (by decide) (by decide)]
                          have u_601_18 : (I_589 mo 18).toInt = (I mo 18).toInt := by rw [pf 18 (by decide) (by decide) (by decide) (by decide) (by decide)]
                          rw [thn_b (by omega)] at er_597
                          have hQ : mQ gh I_589 J_591 AI_100 AJ mo b nn nr nt cc 4 hc := by rw [er_597] at hQ; exact hQ
                          replace q_599 := hid q_599
                          obtain ⟨f2, ef2⟩ : ∃ q, q = (I_589 mo 24).toInt := ⟨_, rfl⟩
                          have hd1 : Hid (f2 = 0 → 0 ≤ v_595 ∧ v_595 ≤ 3) := fun h9 => by omega
                          refine lv_istore (lv' := [(7, .int (iI v_595)), (6, .int (iI v_560)), (5, .int (iI mr)), (4, .int (iI gn)), (3, .int (iI n)), (2, .int (iI v_79)), (1, .int (iI v_64)), (0, .ref mo)]) F.1 F.2.1 dX7_joinTold_108 hl (by decide) rfl (fun ls hl => ?_)
                          refine lv_aload_n F.1 F.2.1 dX7_joinTold_110 rfl (lv_at hl 7 rfl) ?_
                          refine lv_iload_n F.1 F.2.1 dX7_joinTold_111 rfl (lv_at hl 4 rfl) ?_
                          refine lv_iload F.1 F.2.1 dX7_joinTold_112 (lv_at hl 1 rfl) ?_
                          refine lv_iload F.1 F.2.1 dX7_joinTold_114 (lv_at hl 0 rfl) ?_
                          refine z_iconst F dX7_joinTold_116 ?_
                          refine z_iconst F dX7_joinTold_117 ?_
                          have b_602 := mJ hv hm
                          unfold mNum1 at b_602
                          refine g_callv (g_runV (As := [.int (iI n), .int (iI v_560), .int (iI v_595), .int (iI 0), .int (iI 0)]) (rest := []) (ci := 7) F hl.1 hH hS hz (c_X7_setsPartg l g gh T M I_589 R J_591 AI_100 AJ AR mo n v_560 v_595 0 0 zn zv_560 zv_595 ⟨by decide, by decide⟩ ⟨by decide, by decide⟩ hv hm hT (by omega) (by omega) (by omega)) (cwV 5 F.2.2.2.2.1 (good_up gT_X7_setsPart) rfl rfl rfl hdX7_setsPart ⟨Nat.le_of_ble_eq_true rfl, Nat.le_of_ble_eq_true rfl⟩) hm (by decide) rfl rfl rfl (Nat.le_of_ble_eq_true rfl) dX7_joinTold_118 ⟨Nat.zero_le _, Nat.zero_le _⟩) hS (fun I_603 R_604 J_605 AI_606 AJ_607 AR_608 H locs hp_609 hH hS => ?_)
                          dsimp only at hp_609
                          obtain ⟨rfl, rfl, rfl, rfl, rfl, hv, hT, hsp, q_610⟩ := hp_609
                          replace hsp := hid hsp
                          have hQ : mQ gh I_589 J_591 AI_606 AJ mo b nn nr nt cc 4 hc := mQ_bad hQ (by omega) rfl
                          refine lv_aload_n F.1 F.2.1 dX7_joinTold_121 rfl (lv_at hl 7 rfl) ?_
                          refine g_getI (ci := 7) (k := 24) F hH rfl (by decide) iX7 hm (by decide) rfl k81 dX7_joinTold_122 ?_
                          refine z_if_ne (tgt := 137) F dX7_joinTold_125 (by decide) (zr_t _) (fun c_611 => ?_) (fun c_611 => ?_)
                          · refine z_iinc (lv' := [(3, .int (iI (n + 1))), (7, .int (iI v_595)), (6, .int (iI v_560)), (5, .int (iI mr)), (4, .int (iI gn)), (2, .int (iI v_79)), (1, .int (iI v_64)), (0, .ref mo)]) F dX7_joinTold_137 hl (k := 4) rfl (by decide) rfl (fun ls hl => ?_)
                            refine lv_aload_n F.1 F.2.1 dX7_joinTold_140 rfl (lv_at hl 7 rfl) ?_
                            refine z_bipush F dX7_joinTold_141 (by decide) ?_
                            refine g_calli (g_runV (As := [.int (iI 44)]) (rest := []) (ci := 7) F hl.1 hH hS hz (c_X7_isSignf l g gh T b nn nr nt cc 4 hc I_589 R J_591 AI_606 AJ AR mo 44 ⟨by decide, by decide⟩ hv hm hT h65 hbM hr7 (by omega) hn9 (by omega) (by omega) hQ) (cwV 1 F.2.2.2.2.1 (good_up gT_X7_isSign) rfl rfl rfl hdX7_isSign ⟨Nat.le_of_ble_eq_true rfl, Nat.le_of_ble_eq_true rfl⟩) hm (by decide) rfl rfl rfl (Nat.le_of_ble_eq_true rfl) dX7_joinTold_143 ⟨Nat.zero_le _, Nat.zero_le _⟩) hS (fun v_618 I_612 R_613 J_614 AI_615 AJ_616 AR_617 H locs zv_618 hp_619 hH hS => ?_)
                            dsimp only at hp_619
                            obtain ⟨rfl, rfl, rfl, rfl, rfl, rfl, q_620, q_621⟩ := hp_619
                            replace q_620 := q_620.1
                            refine lv_istore (lv' := [(5, .int (iI v_618)), (3, .int (iI (n + 1))), (7, .int (iI v_595)), (6, .int (iI v_560)), (4, .int (iI gn)), (2, .int (iI v_79)), (1, .int (iI v_64)), (0, .ref mo)]) F.1 F.2.1 dX7_joinTold_146 hl (by decide) rfl (fun ls hl => ?_)
                            refine lv_iload F.1 F.2.1 dX7_joinTold_148 (lv_at hl 0 rfl) ?_
                            refine z_if_eq (tgt := 157) F dX7_joinTold_150 (by decide) zv_618 (fun c_622 => ?_) (fun c_622 => ?_)
                            · have t_623 := tIz_0 q_621 (by omega)
                              refine z_goto (tgt := 24) F dX7_joinTold_157 (by decide) ?_
                              refine lv_iload F.1 F.2.1 dX7_joinTold_24 (lv_at hl 0 rfl) ?_
                              refine z_if_eq (tgt := 160) F dX7_joinTold_26 (by decide) zv_618 (fun c_624 => ?_) (fun c_624 => ?_)
                              · have t_625 := tIz_0 q_621 (by omega)
                                have hTs : sPair b nn (cF b nn nr nt cc h) (cF b nn nr nt cc (h + 1)) n 4 hc = (4, hc, 0) := sPair_4 (pCf_ok (by omega) (by omega)) (by omega)
                                have hS9 : sJoi b nn nr nt cc h = (4, hc, 0) := sPairs_no hsq (f := (4 - n).toNat) (by omega) hTs.symm (by omega)
                                have hfin : thn (f, h, 0) (fun t _ => sJoiM b nn nr nt cc t) = (4, hc, 0) := (thn_k q0).trans (by show sJoiM b nn nr nt cc h = _; unfold sJoiM; exact thn_x hS9.symm (by omega))
                                exact cut_160_3 v_64 v_79 (n + 1) gn I_589 J_591 AI_606 H locs ls zv_64 zv_79 ⟨by omega, by omega⟩ zgn hv hT pf ⟨_, _, by omega, hQ, hfin⟩ (by omega) (by omega) (fun b hb => (q_610 b hb).trans (fA9 b hb)) hH hS (lv_sub hl [7, 6, 5, 1, 4] rfl)
                              · exact absurd trivial (by omega)
                            · exact absurd (tIz_1 q_621 (by omega)).1 (by omega)
                          · exact absurd (mQ_z hQ (by omega)) (by omega)
                      · refine z_iconst F dX7_joinTold_62 ?_
                        refine z_goto (tgt := 79) F dX7_joinTold_63 (by decide) ?_
                        refine g_callv (g_runV (As := [.int (iI 2)]) (rest := []) (ci := 7) F hl.1 hH hS hz (c_X7_wrongf l g gh T b nn nr nt cc 0 hc I_98 R J_99 AI_100 AJ AR mo 2 ⟨by decide, by decide⟩ hv hm hT (by omega) h65 hbM hr7 (by omega) hn9 (by omega) hQ) (cwV 1 F.2.2.2.2.1 (good_up gT_X7_wrong) rfl rfl rfl hdX7_wrong ⟨Nat.le_of_ble_eq_true rfl, Nat.le_of_ble_eq_true rfl⟩) hm (by decide) rfl rfl rfl (Nat.le_of_ble_eq_true rfl) dX7_joinTold_79 ⟨Nat.zero_le _, Nat.zero_le _⟩) hS (fun I_626 R_627 J_628 AI_629 AJ_630 AR_631 H locs hp_632 hH hS => ?_)
                        dsimp only at hp_632
                        obtain ⟨r_633, er_633⟩ : ∃ qQ : pR, qQ = thn (0, hc, 0) (fun t _ => (2, t, 0)) := ⟨_, rfl⟩
                        rw [← er_633] at hp_632
                        obtain ⟨rfl, rfl, rfl, rfl, rfl, hv, pfq, q_634, hQ⟩ := hp_632
                        have pf := qF_t pf pfq
                        have u_635_2 : (I_626 mo 2).toInt = (I mo 2).toInt := by rw [pf 2 (by decide) (by decide) (by decide) (by decide) (by decide)]
                        have u_635_5 : (I_626 mo 5).toInt = (I mo 5).toInt := by rw [pf 5 (by decide) (by decide) (by decide) (by decide) (by decide)]
                        have u_635_14 : (I_626 mo 14).toInt = (I mo 14).toInt := by rw [pf 14 (by decide) (by decide) (by decide) (by decide) (by decide)]
                        have u_635_16 : (I_626 mo 16).toInt = (I mo 16).toInt := by rw [pf 16 (by decide) (by decide) (by decide) (by decide) (by decide)]
                        have u_635_18 : (I_626 mo 18).toInt = (I mo 18).toInt := by rw [pf 18 (by decide) (by decide) (by decide) (by decide) (by decide)]
                        have er_633 : r_633 = (2, hc, 0) := er_633
                        have hQ : mQ gh I_626 J_99 AI_100 AJ mo b nn nr nt cc 2 hc := by rw [er_633] at hQ; exact hQ
                        have q9_r_633 : (2 : Int) ≠ 0 := by omega
                        have g9_r_633 := mQ_f hQ q9_r_633
                        refine lv_aload_n F.1 F.2.1 dX7_joinTold_82 rfl (lv_at hl 5 rfl) ?_
                        refine lv_aload_n F.1 F.2.1 dX7_joinTold_83 rfl (lv_at hl 5 rfl) ?_
                        refine lv_iload_n F.1 F.2.1 dX7_joinTold_84 rfl (lv_at hl 4 rfl) ?_
                        have b_637 := mJ hv hm
                        unfold mNum1 at b_637
                        refine g_calli (g_runV (As := [.int (iI v_64)]) (rest := [.ref mo]) (ci := 7) F hl.1 hH hS hz (c_X7_columns l g gh T I_626 R J_99 AI_100 AJ AR mo v_64 zv_64 hv hm hT (by omega)) (cwV 1 F.2.2.2.2.1 (good_up gT_X7_columns) rfl rfl rfl hdX7_columns ⟨Nat.le_of_ble_eq_true rfl, Nat.le_of_ble_eq_true rfl⟩) hm (by decide) rfl rfl rfl (Nat.le_of_ble_eq_true rfl) dX7_joinTold_85 ⟨Nat.zero_le _, Nat.zero_le _⟩) hS (fun v_644 I_638 R_639 J_640 AI_641 AJ_642 AR_643 H locs zv_644 hp_645 hH hS => ?_)
                        dsimp only at hp_645
                        obtain ⟨rfl, rfl, rfl, rfl, rfl, rfl, q_636⟩ := hp_645
                        refine g_calli (g_runV (As := [.int (iI v_644)]) (rest := []) (ci := 7) F hl.1 hH hS hz (c_X7_columnf l g gh T b nn nr nt cc 2 hc I_626 R J_99 AI_100 AJ AR mo v_644 zv_644 hv hm hT (by omega) h65 hbM hr7 (by omega) hn9 (by omega) hQ) (cwV 1 F.2.2.2.2.1 (good_up gT_X7_column) rfl rfl rfl hdX7_column ⟨Nat.le_of_ble_eq_true rfl, Nat.le_of_ble_eq_true rfl⟩) hm (by decide) rfl rfl rfl (Nat.le_of_ble_eq_true rfl) dX7_joinTold_88 ⟨Nat.zero_le _, Nat.zero_le _⟩) hS (fun v_652 I_646 R_647 J_648 AI_649 AJ_650 AR_651 H locs zv_652 hp_653 hH hS => ?_)
                        dsimp only at hp_653
                        obtain ⟨r_654, er_654⟩ : ∃ qQ : pR, qQ = thn (2, hc, 0) (fun t _ => sCol b nn v_644 t) := ⟨_, rfl⟩
                        rw [← er_654] at hp_653
                        obtain ⟨rfl, rfl, rfl, rfl, hv, pfq, q_655, q_656, hQ, q_657⟩ := hp_653
                        have pf := qF_t pf pfq
                        have u_658_2 : (I_646 mo 2).toInt = (I mo 2).toInt := by rw [pf 2 (by decide) (by decide) (by decide) (by decide) (by decide)]
                        have u_658_5 : (I_646 mo 5).toInt = (I mo 5).toInt := by rw [pf 5 (by decide) (by decide) (by decide) (by decide) (by decide)]
                        have u_658_14 : (I_646 mo 14).toInt = (I mo 14).toInt := by rw [pf 14 (by decide) (by decide) (by decide) (by decide) (by decide)]
                        have u_658_16 : (I_646 mo 16).toInt = (I mo 16).toInt := by rw [pf 16 (by decide) (by decide) (by decide) (by decide) (by decide)]
                        have u_658_18 : (I_646 mo 18).toInt = (I mo 18).toInt := by rw [pf 18 (by decide) (by decide) (by decide) (by decide) (by decide)]
                        rw [thn_b (by omega)] at er_654
                        have hQ : mQ gh I_646 J_648 AI_100 AJ mo b nn nr nt cc 2 hc := by rw [er_654] at hQ; exact hQ
                        replace q_656 := hid q_656
                        obtain ⟨f1, ef1⟩ : ∃ q, q = (I_646 mo 24).toInt := ⟨_, rfl⟩
                        have hc1 : Hid (f1 = 0 → 0 ≤ v_652 ∧ v_652 ≤ 3) := fun h9 => by omega
                        refine lv_istore (lv' := [(6, .int (iI v_652)), (5, .int (iI mr)), (4, .int (iI gn)), (3, .int (iI n)), (2, .int (iI v_79)), (1, .int (iI v_64)), (0, .ref mo)]) F.1 F.2.1 dX7_joinTold_91 hl (by decide) rfl (fun ls hl => ?_)
                        refine lv_aload_n F.1 F.2.1 dX7_joinTold_93 rfl (lv_at hl 6 rfl) ?_
                        refine z_bipush F dX7_joinTold_94 (by decide) ?_
                        have b_659 := mJ hv hm
                        unfold mNum1 at b_659
                        refine g_callv (g_runV (As := [.int (iI 61)]) (rest := []) (ci := 7) F hl.1 hH hS hz (c_X7_mustSignf l g gh T b nn nr nt cc 2 hc I_646 R J_648 AI_100 AJ AR mo 61 ⟨by decide, by decide⟩ hv hm hT (by omega) h65 hbM hr7 (by omega) hn9 (by omega) (by omega) hQ) (cwV 1 F.2.2.2.2.1 (good_up gT_X7_mustSign) rfl rfl rfl hdX7_mustSign ⟨Nat.le_of_ble_eq_true rfl, Nat.le_of_ble_eq_true rfl⟩) hm (by decide) rfl rfl rfl (Nat.le_of_ble_eq_true rfl) dX7_joinTold_96 ⟨Nat.zero_le _, Nat.zero_le _⟩) hS (fun I_660 R_661 J_662 AI_663 AJ_664 AR_665 H locs hp_666 hH hS => ?_)
                        dsimp only at hp_666
                        obtain ⟨r_667, er_667⟩ : ∃ qQ : pR, qQ = thn (2, hc, 0) (fun t _ => sTk b nn 61 t) := ⟨_, rfl⟩
                        rw [← er_667] at hp_666
                        obtain ⟨rfl, rfl, rfl, rfl, hv, pfq, q_668, q_669, hQ⟩ := hp_666
                        have pf := qF_t pf pfq
                        have u_670_2 : (I_660 mo 2).toInt = (I mo 2).toInt := by rw [pf 2 (by decide) (by decide) (by decide) (by decide) (by decide)]
                        have u_670_5 : (I_660 mo 5).toInt = (I mo 5).toInt := by rw [pf 5 (by decide) (by decide) (by decide) (by decide) (by decide)]
                        have u_670_14 : (I_660 mo 14).toInt = (I mo 14).toInt := by rw [pf 14 (by decide) (by decide) (by decide) (by decide) (by decide)]
                        have u_670_16 : (I_660 mo 16).toInt = (I mo 16).toInt := by rw [pf 16 (by decide) (by decide) (by decide) (by decide) (by decide)]
                        have u_670_18 : (I_660 mo 18).toInt = (I mo 18).toInt := by rw [pf 18 (by decide) (by decide) (by decide) (by decide) (by decide)]
                        rw [thn_b (by omega)] at er_667
                        have hQ : mQ gh I_660 J_662 AI_100 AJ mo b nn nr nt cc 2 hc := by rw [er_667] at hQ; exact hQ
                        replace q_669 := hid q_669
                        refine lv_aload_n F.1 F.2.1 dX7_joinTold_99 rfl (lv_at hl 6 rfl) ?_
                        refine lv_aload_n F.1 F.2.1 dX7_joinTold_100 rfl (lv_at hl 6 rfl) ?_
                        refine lv_iload_n F.1 F.2.1 dX7_joinTold_101 rfl (lv_at hl 4 rfl) ?_
                        have b_672 := mJ hv hm
                        unfold mNum1 at b_672
                        refine g_calli (g_runV (As := [.int (iI v_79)]) (rest := [.ref mo]) (ci := 7) F hl.1 hH hS hz (c_X7_columns l g gh T I_660 R J_662 AI_100 AJ AR mo v_79 zv_79 hv hm hT (by omega)) (cwV 1 F.2.2.2.2.1 (good_up gT_X7_columns) rfl rfl rfl hdX7_columns ⟨Nat.le_of_ble_eq_true rfl, Nat.le_of_ble_eq_true rfl⟩) hm (by decide) rfl rfl rfl (Nat.le_of_ble_eq_true rfl) dX7_joinTold_102 ⟨Nat.zero_le _, Nat.zero_le _⟩) hS (fun v_679 I_673 R_674 J_675 AI_676 AJ_677 AR_678 H locs zv_679 hp_680 hH hS => ?_)
                        dsimp only at hp_680
                        obtain ⟨rfl, rfl, rfl, rfl, rfl, rfl, q_671⟩ := hp_680
                        refine g_calli (g_runV (As := [.int (iI v_679)]) (rest := []) (ci := 7) F hl.1 hH hS hz (c_X7_columnf l g gh T b nn nr nt cc 2 hc I_660 R J_662 AI_100 AJ AR mo v_679 zv_679 hv hm hT (by omega) h65 hbM hr7 (by omega) hn9 (by omega) hQ) (cwV 1 F.2.2.2.2.1 (good_up gT_X7_column) rfl rfl rfl hdX7_column ⟨Nat.le_of_ble_eq_true rfl, Nat.le_of_ble_eq_true rfl⟩) hm (by decide) rfl rfl rfl (Nat.le_of_ble_eq_true rfl) dX7_joinTold_105 ⟨Nat.zero_le _, Nat.zero_le _⟩) hS (fun v_687 I_681 R_682 J_683 AI_684 AJ_685 AR_686 H locs zv_687 hp_688 hH hS => ?_)
                        dsimp only at hp_688
                        obtain ⟨r_689, er_689⟩ : ∃ qQ : pR, qQ = thn (2, hc, 0) (fun t _ => sCol b nn v_679 t) := ⟨_, rfl⟩
                        rw [← er_689] at hp_688
                        obtain ⟨rfl, rfl, rfl, rfl, hv, pfq, q_690, q_691, hQ, q_692⟩ := hp_688
                        have pf := qF_t pf pfq
                        have u_693_2 : (I_681 mo 2).toInt = (I mo 2).toInt := by rw [pf 2 (by decide) (by decide) (by decide) (by decide) (by decide)]
                        have u_693_5 : (I_681 mo 5).toInt = (I mo 5).toInt := by rw [pf 5 (by decide) (by decide) (by decide) (by decide) (by decide)]
                        have u_693_14 : (I_681 mo 14).toInt = (I mo 14).toInt := by rw [pf 14 (by decide) (by decide) (by decide) (by decide) (by decide)]
                        have u_693_16 : (I_681 mo 16).toInt = (I mo 16).toInt := by rw [pf 16 (by decide) (by decide) (by decide) (by decide) (by decide)]
                        have u_693_18 : (I_681 mo 18).toInt = (I mo 18).toInt := by rw [pf 18 (by decide) (by decide) (by decide) (by decide) (by decide)]
                        rw [thn_b (by omega)] at er_689
                        have hQ : mQ gh I_681 J_683 AI_100 AJ mo b nn nr nt cc 2 hc := by rw [er_689] at hQ; exact hQ
                        replace q_691 := hid q_691
                        obtain ⟨f2, ef2⟩ : ∃ q, q = (I_681 mo 24).toInt := ⟨_, rfl⟩
                        have hd1 : Hid (f2 = 0 → 0 ≤ v_687 ∧ v_687 ≤ 3) := fun h9 => by omega
                        refine lv_istore (lv' := [(7, .int (iI v_687)), (6, .int (iI v_652)), (5, .int (iI mr)), (4, .int (iI gn)), (3, .int (iI n)), (2, .int (iI v_79)), (1, .int (iI v_64)), (0, .ref mo)]) F.1 F.2.1 dX7_joinTold_108 hl (by decide) rfl (fun ls hl => ?_)
                        refine lv_aload_n F.1 F.2.1 dX7_joinTold_110 rfl (lv_at hl 7 rfl) ?_
                        refine lv_iload_n F.1 F.2.1 dX7_joinTold_111 rfl (lv_at hl 4 rfl) ?_
                        refine lv_iload F.1 F.2.1 dX7_joinTold_112 (lv_at hl 1 rfl) ?_
                        refine lv_iload F.1 F.2.1 dX7_joinTold_114 (lv_at hl 0 rfl) ?_
                        refine z_iconst F dX7_joinTold_116 ?_
                        refine z_iconst F dX7_joinTold_117 ?_
                        have b_694 := mJ hv hm
                        unfold mNum1 at b_694
                        refine g_callv (g_runV (As := [.int (iI n), .int (iI v_652), .int (iI v_687), .int (iI 0), .int (iI 0)]) (rest := []) (ci := 7) F hl.1 hH hS hz (c_X7_setsPartg l g gh T M I_681 R J_683 AI_100 AJ AR mo n v_652 v_687 0 0 zn zv_652 zv_687 ⟨by decide, by decide⟩ ⟨by decide, by decide⟩ hv hm hT (by omega) (by omega) (by omega)) (cwV 5 F.2.2.2.2.1 (good_up gT_X7_setsPart) rfl rfl rfl hdX7_setsPart ⟨Nat.le_of_ble_eq_true rfl, Nat.le_of_ble_eq_true rfl⟩) hm (by decide) rfl rfl rfl (Nat.le_of_ble_eq_true rfl) dX7_joinTold_118 ⟨Nat.zero_le _, Nat.zero_le _⟩) hS (fun I_695 R_696 J_697 AI_698 AJ_699 AR_700 H locs hp_701 hH hS => ?_)
                        dsimp only at hp_701
                        obtain ⟨rfl, rfl, rfl, rfl, rfl, hv, hT, hsp, q_702⟩ := hp_701
                        replace hsp := hid hsp
                        have hQ : mQ gh I_681 J_683 AI_698 AJ mo b nn nr nt cc 2 hc := mQ_bad hQ (by omega) rfl
                        refine lv_aload_n F.1 F.2.1 dX7_joinTold_121 rfl (lv_at hl 7 rfl) ?_
                        refine g_getI (ci := 7) (k := 24) F hH rfl (by decide) iX7 hm (by decide) rfl k81 dX7_joinTold_122 ?_
                        refine z_if_ne (tgt := 137) F dX7_joinTold_125 (by decide) (zr_t _) (fun c_703 => ?_) (fun c_703 => ?_)
                        · refine z_iinc (lv' := [(3, .int (iI (n + 1))), (7, .int (iI v_687)), (6, .int (iI v_652)), (5, .int (iI mr)), (4, .int (iI gn)), (2, .int (iI v_79)), (1, .int (iI v_64)), (0, .ref mo)]) F dX7_joinTold_137 hl (k := 4) rfl (by decide) rfl (fun ls hl => ?_)
                          refine lv_aload_n F.1 F.2.1 dX7_joinTold_140 rfl (lv_at hl 7 rfl) ?_
                          refine z_bipush F dX7_joinTold_141 (by decide) ?_
                          refine g_calli (g_runV (As := [.int (iI 44)]) (rest := []) (ci := 7) F hl.1 hH hS hz (c_X7_isSignf l g gh T b nn nr nt cc 2 hc I_681 R J_683 AI_698 AJ AR mo 44 ⟨by decide, by decide⟩ hv hm hT h65 hbM hr7 (by omega) hn9 (by omega) (by omega) hQ) (cwV 1 F.2.2.2.2.1 (good_up gT_X7_isSign) rfl rfl rfl hdX7_isSign ⟨Nat.le_of_ble_eq_true rfl, Nat.le_of_ble_eq_true rfl⟩) hm (by decide) rfl rfl rfl (Nat.le_of_ble_eq_true rfl) dX7_joinTold_143 ⟨Nat.zero_le _, Nat.zero_le _⟩) hS (fun v_710 I_704 R_705 J_706 AI_707 AJ_708 AR_709 H locs zv_710 hp_711 hH hS => ?_)
                          dsimp only at hp_711
                          obtain ⟨rfl, rfl, rfl, rfl, rfl, rfl, q_712, q_713⟩ := hp_711
                          replace q_712 := q_712.1
                          refine lv_istore (lv' := [(5, .int (iI v_710)), (3, .int (iI (n + 1))), (7, .int (iI v_687)), (6, .int (iI v_652)), (4, .int (iI gn)), (2, .int (iI v_79)), (1, .int (iI v_64)), (0, .ref mo)]) F.1 F.2.1 dX7_joinTold_146 hl (by decide) rfl (fun ls hl => ?_)
                          refine lv_iload F.1 F.2.1 dX7_joinTold_148 (lv_at hl 0 rfl) ?_
                          refine z_if_eq (tgt := 157) F dX7_joinTold_150 (by decide) zv_710 (fun c_714 => ?_) (fun c_714 => ?_)
                          · have t_715 := tIz_0 q_713 (by omega)
                            refine z_goto (tgt := 24) F dX7_joinTold_157 (by decide) ?_
                            refine lv_iload F.1 F.2.1 dX7_joinTold_24 (lv_at hl 0 rfl) ?_
                            refine z_if_eq (tgt := 160) F dX7_joinTold_26 (by decide) zv_710 (fun c_716 => ?_) (fun c_716 => ?_)
                            · have t_717 := tIz_0 q_713 (by omega)
                              have hTs : sPair b nn (cF b nn nr nt cc h) (cF b nn nr nt cc (h + 1)) n 4 hc = (2, hc, 0) := pE2 (sPair_x (pCf_n2 (by omega) (by omega))) (by omega) (by omega)
                              have hS9 : sJoi b nn nr nt cc h = (2, hc, 0) := sPairs_no hsq (f := (4 - n).toNat) (by omega) hTs.symm (by omega)
                              have hfin : thn (f, h, 0) (fun t _ => sJoiM b nn nr nt cc t) = (2, hc, 0) := (thn_k q0).trans (by show sJoiM b nn nr nt cc h = _; unfold sJoiM; exact thn_x hS9.symm (by omega))
                              exact cut_160_3 v_64 v_79 (n + 1) gn I_681 J_683 AI_698 H locs ls zv_64 zv_79 ⟨by omega, by omega⟩ zgn hv hT pf ⟨_, _, by omega, hQ, hfin⟩ (by omega) (by omega) (fun b hb => (q_702 b hb).trans (fA9 b hb)) hH hS (lv_sub hl [7, 6, 5, 1, 4] rfl)
                            · exact absurd trivial (by omega)
                          · exact absurd (tIz_1 q_713 (by omega)).1 (by omega)
                        · exact absurd (mQ_z hQ (by omega)) (by omega)
          exact cut_24_100 (((6 - 0) + 1 : Int).toNat) 0 0 1 I_88 J_90 AI H locs ls ⟨by decide, by decide⟩ ⟨by decide, by decide⟩ ⟨by decide, by decide⟩ hv hT pf (by omega) ((fun _ => ⟨by omega, fun k a b => absurd b (by omega)⟩)) ⟨_, _, hQ, by unfold sJoi; exact thn_y sr_66.symm rfl (thn_y sr_81.symm rfl (thn_y sr_95.symm rfl (rfl))), mGn_0, iL_0, qAll_0 (Int.le_refl 0), pLm_0⟩ (by omega) hfr (fun _ _ => rfl) (by omega) hH hS (lv_sub hl [0, 1, 2, 3, 4, 5] rfl)
        · have hQ : mQ gh I_88 J_90 AI AJ mo b nn nr nt cc 1 (h + 2) := by rw [er_95] at hQ; exact hQ
          have sr_95 := sr_95.symm.trans er_95
          have g9r_95 := mQ_f hQ (by omega)
          refine z_iconst F dX7_joinTold_16 ?_
          refine lv_istore_n (lv' := [(3, .int (iI 0)), (2, .int (iI v_79)), (1, .int (iI v_64)), (0, .ref mo)]) F.1 F.2.1 dX7_joinTold_17 rfl hl (by decide) rfl (fun ls hl => ?_)
          refine z_iconst F dX7_joinTold_18 ?_
          refine lv_istore (lv' := [(4, .int (iI 0)), (3, .int (iI 0)), (2, .int (iI v_79)), (1, .int (iI v_64)), (0, .ref mo)]) F.1 F.2.1 dX7_joinTold_19 hl (by decide) rfl (fun ls hl => ?_)
          refine z_iconst F dX7_joinTold_21 ?_
          refine lv_istore (lv' := [(5, .int (iI 1)), (4, .int (iI 0)), (3, .int (iI 0)), (2, .int (iI v_79)), (1, .int (iI v_64)), (0, .ref mo)]) F.1 F.2.1 dX7_joinTold_22 hl (by decide) rfl (fun ls hl => ?_)
          refine lv_iload F.1 F.2.1 dX7_joinTold_24 (lv_at hl 0 rfl) ?_
          refine z_if_eq (tgt := 160) F dX7_joinTold_26 (by decide) ⟨by decide, by decide⟩ (fun c_718 => ?_) (fun c_718 => ?_)
          · exact absurd trivial (by omega)
          · refine lv_aload_n F.1 F.2.1 dX7_joinTold_29 rfl (lv_at hl 5 rfl) ?_
            refine g_getI (ci := 7) (k := 24) F hH rfl (by decide) iX7 hm (by decide) rfl k81 dX7_joinTold_30 ?_
            have b_719 := mJ hv hm
            unfold mNum1 at b_719
            refine z_if_ne (tgt := 160) F dX7_joinTold_33 (by decide) (zr_t _) (fun c_720 => ?_) (fun c_720 => ?_)
            · have hS9 : sJoi b nn nr nt cc h = (1, h + 2, 0) := by
                unfold sJoi
                repeat (first | with_reducible rfl | refine thn_t sr_66 (by first | rfl | omega) ?_ | exact (thn_x sr_66.symm (by omega)).trans (pr_e (by omega) (by omega) (by omega)) | refine thn_t sr_81 (by first | rfl | omega) ?_ | exact (thn_x sr_81.symm (by omega)).trans (pr_e (by omega) (by omega) (by omega)) | refine thn_t sr_95 (by first | rfl | omega) ?_ | exact (thn_x sr_95.symm (by omega)).trans (pr_e (by omega) (by omega) (by omega)))
              have hfin : thn (f, h, 0) (fun t _ => sJoiM b nn nr nt cc t) = (1, h + 2, 0) := (thn_k q0).trans (by show sJoiM b nn nr nt cc h = _; unfold sJoiM; exact thn_x hS9.symm (by omega))
              exact cut_160_3 v_64 v_79 0 0 I_88 J_90 AI H locs ls zv_64 zv_79 ⟨by decide, by decide⟩ ⟨by decide, by decide⟩ hv hT pf ⟨_, _, by omega, hQ, hfin⟩ (by omega) (by omega) (fun _ _ => rfl) hH hS (lv_sub hl [5, 4, 3, 2, 1] rfl)
            · exact absurd (mQ_z hQ (by omega)) (by omega)
      · have hQ : mQ gh I_73 J_75 AI AJ mo b nn nr nt cc (pRf b nn nt nr (h + 1)) (h + 1) := by rw [er_81] at hQ; exact hQ
        have sr_81 := sr_81.symm.trans er_81
        have g9r_81 := mQ_f hQ (by omega)
        replace q_83 := (⟨q_83.1, q_83.2.1⟩ : _ ∧ _)
        obtain ⟨f0, ef0⟩ : ∃ q, q = (I_73 mo 24).toInt := ⟨_, rfl⟩
        have hr2 : Hid (f0 = 0 → v_79 < M ∧ fa0 = 0) := fun h9 => by omega
        refine lv_istore_n (lv' := [(2, .int (iI v_79)), (1, .int (iI v_64)), (0, .ref mo)]) F.1 F.2.1 dX7_joinTold_9 rfl hl (by decide) rfl (fun ls hl => ?_)
        refine lv_aload_n F.1 F.2.1 dX7_joinTold_10 rfl (lv_at hl 2 rfl) ?_
        refine va_ldcS F.1 F.2.1 F.2.2.2.1 (F.2.2.2.2.2.2.1 14 _ rfl).1 dX7_joinTold_11 ?_
        have b_721 := mJ hv hm
        unfold mNum1 at b_721
        refine g_callv (g_runV (As := [.ref (gSK g 14)]) (rest := []) (ci := 7) F hl.1 hH hS hz (c_X7_mustWordf l g gh T 14 _ 12 b nn nr nt cc (pRf b nn nt nr (h + 1)) (h + 1) I_73 R J_75 AI AJ AR mo hv hm hT (by omega) (rfl : sTab[14]? = some _) h65 hbM hr7 (by omega) hn9 (by omega) (by decide) (by decide +kernel) hQ) (cwV 1 F.2.2.2.2.1 (good_up gT_X7_mustWord) rfl rfl rfl hdX7_mustWord ⟨Nat.le_of_ble_eq_true rfl, Nat.le_of_ble_eq_true rfl⟩) hm (by decide) rfl rfl rfl (Nat.le_of_ble_eq_true rfl) dX7_joinTold_13 ⟨Nat.zero_le _, Nat.zero_le _⟩) hS (fun I_722 R_723 J_724 AI_725 AJ_726 AR_727 H locs hp_728 hH hS => ?_)
        dsimp only at hp_728
        obtain ⟨r_729, er_729⟩ : ∃ qQ : pR, qQ = thn ((pRf b nn nt nr (h + 1)), (h + 1), 0) (fun t _ => sTw b nn ((12 : Nat) : Int) t) := ⟨_, rfl⟩
        rw [← er_729] at hp_728
        obtain ⟨rfl, rfl, rfl, rfl, hv, pfq, q_730, hQ⟩ := hp_728
        have pf := qF_t pf pfq
        have u_731_2 : (I_722 mo 2).toInt = (I mo 2).toInt := by rw [pf 2 (by decide) (by decide) (by decide) (by decide) (by decide)]
        have u_731_5 : (I_722 mo 5).toInt = (I mo 5).toInt := by rw [pf 5 (by decide) (by decide) (by decide) (by decide) (by decide)]
        have u_731_14 : (I_722 mo 14).toInt = (I mo 14).toInt := by rw [pf 14 (by decide) (by decide) (by decide) (by decide) (by decide)]
        have u_731_16 : (I_722 mo 16).toInt = (I mo 16).toInt := by rw [pf 16 (by decide) (by decide) (by decide) (by decide) (by decide)]
        have u_731_18 : (I_722 mo 18).toInt = (I mo 18).toInt := by rw [pf 18 (by decide) (by decide) (by decide) (by decide) (by decide)]
        rw [thn_b (by omega)] at er_729
        have hQ : mQ gh I_722 J_724 AI AJ mo b nn nr nt cc (pRf b nn nt nr (h + 1)) (h + 1) := by rw [er_729] at hQ; exact hQ
        refine z_iconst F dX7_joinTold_16 ?_
        refine lv_istore_n (lv' := [(3, .int (iI 0)), (2, .int (iI v_79)), (1, .int (iI v_64)), (0, .ref mo)]) F.1 F.2.1 dX7_joinTold_17 rfl hl (by decide) rfl (fun ls hl => ?_)
        refine z_iconst F dX7_joinTold_18 ?_
        refine lv_istore (lv' := [(4, .int (iI 0)), (3, .int (iI 0)), (2, .int (iI v_79)), (1, .int (iI v_64)), (0, .ref mo)]) F.1 F.2.1 dX7_joinTold_19 hl (by decide) rfl (fun ls hl => ?_)
        refine z_iconst F dX7_joinTold_21 ?_
        refine lv_istore (lv' := [(5, .int (iI 1)), (4, .int (iI 0)), (3, .int (iI 0)), (2, .int (iI v_79)), (1, .int (iI v_64)), (0, .ref mo)]) F.1 F.2.1 dX7_joinTold_22 hl (by decide) rfl (fun ls hl => ?_)
        refine lv_iload F.1 F.2.1 dX7_joinTold_24 (lv_at hl 0 rfl) ?_
        refine z_if_eq (tgt := 160) F dX7_joinTold_26 (by decide) ⟨by decide, by decide⟩ (fun c_732 => ?_) (fun c_732 => ?_)
        · exact absurd trivial (by omega)
        · refine lv_aload_n F.1 F.2.1 dX7_joinTold_29 rfl (lv_at hl 5 rfl) ?_
          refine g_getI (ci := 7) (k := 24) F hH rfl (by decide) iX7 hm (by decide) rfl k81 dX7_joinTold_30 ?_
          have b_733 := mJ hv hm
          unfold mNum1 at b_733
          refine z_if_ne (tgt := 160) F dX7_joinTold_33 (by decide) (zr_t _) (fun c_734 => ?_) (fun c_734 => ?_)
          · have hS9 : sJoi b nn nr nt cc h = (pRf b nn nt nr (h + 1), h + 1, 0) := by
              unfold sJoi
              repeat (first | with_reducible rfl | refine thn_t sr_66 (by first | rfl | omega) ?_ | exact (thn_x sr_66.symm (by omega)).trans (pr_e (by omega) (by omega) (by omega)) | refine thn_t sr_81 (by first | rfl | omega) ?_ | exact (thn_x sr_81.symm (by omega)).trans (pr_e (by omega) (by omega) (by omega)))
            have hfin : thn (f, h, 0) (fun t _ => sJoiM b nn nr nt cc t) = (pRf b nn nt nr (h + 1), h + 1, 0) := (thn_k q0).trans (by show sJoiM b nn nr nt cc h = _; unfold sJoiM; exact thn_x hS9.symm (by omega))
            exact cut_160_3 v_64 v_79 0 0 I_722 J_724 AI H locs ls zv_64 zv_79 ⟨by decide, by decide⟩ ⟨by decide, by decide⟩ hv hT pf ⟨_, _, by omega, hQ, hfin⟩ (by omega) (by omega) (fun _ _ => rfl) hH hS (lv_sub hl [5, 4, 3, 2, 1] rfl)
          · exact absurd (mQ_z hQ (by omega)) (by omega)
    · have hQ : mQ gh I_58 J_60 AI AJ mo b nn nr nt cc (pRf b nn nt nr h) h := by rw [er_66] at hQ; exact hQ
      have sr_66 := sr_66.symm.trans er_66
      have g9r_66 := mQ_f hQ (by omega)
      replace q_68 := (⟨q_68.1, q_68.2.1⟩ : _ ∧ _)
      obtain ⟨fa0, efa0⟩ : ∃ q, q = (I_58 mo 24).toInt := ⟨_, rfl⟩
      have hra : Hid (fa0 = 0 → v_64 < M) := fun h9 => by omega
      refine lv_istore_n (lv' := [(1, .int (iI v_64)), (0, .ref mo)]) F.1 F.2.1 dX7_joinTold_4 rfl hl (by decide) rfl (fun ls hl => ?_)
      refine lv_aload_n F.1 F.2.1 dX7_joinTold_5 rfl (lv_at hl 1 rfl) ?_
      have b_735 := mJ hv hm
      unfold mNum1 at b_735
      refine g_calli (g_runV (As := []) (rest := []) (ci := 7) F hl.1 hH hS hz (c_X7_relationg l g gh T b nn nr nt cc (pRf b nn nt nr h) h I_58 R J_60 AI AJ AR mo hv hm hT (by omega) h65 hbM hr7 (by omega) hn9 (by omega) hQ) (cwV 0 F.2.2.2.2.1 (good_up gT_X7_relation) rfl rfl rfl hdX7_relation ⟨Nat.le_of_ble_eq_true rfl, Nat.le_of_ble_eq_true rfl⟩) hm (by decide) rfl rfl rfl (Nat.le_of_ble_eq_true rfl) dX7_joinTold_6 ⟨Nat.zero_le _, Nat.zero_le _⟩) hS (fun v_742 I_736 R_737 J_738 AI_739 AJ_740 AR_741 H locs zv_742 hp_743 hH hS => ?_)
      dsimp only at hp_743
      obtain ⟨r_744, er_744⟩ : ∃ qQ : pR, qQ = thn ((pRf b nn nt nr h), h, 0) (fun t _ => sRl b nn nr nt cc t) := ⟨_, rfl⟩
      rw [← er_744] at hp_743
      obtain ⟨rfl, rfl, rfl, rfl, hv, pfq, q_745, q_746, hQ, q_747, q_748⟩ := hp_743
      have pf := qF_t pf pfq
      have u_749_2 : (I_736 mo 2).toInt = (I mo 2).toInt := by rw [pf 2 (by decide) (by decide) (by decide) (by decide) (by decide)]
      have u_749_5 : (I_736 mo 5).toInt = (I mo 5).toInt := by rw [pf 5 (by decide) (by decide) (by decide) (by decide) (by decide)]
      have u_749_14 : (I_736 mo 14).toInt = (I mo 14).toInt := by rw [pf 14 (by decide) (by decide) (by decide) (by decide) (by decide)]
      have u_749_16 : (I_736 mo 16).toInt = (I mo 16).toInt := by rw [pf 16 (by decide) (by decide) (by decide) (by decide) (by decide)]
      have u_749_18 : (I_736 mo 18).toInt = (I mo 18).toInt := by rw [pf 18 (by decide) (by decide) (by decide) (by decide) (by decide)]
      rw [thn_b (by omega)] at er_744
      have hQ : mQ gh I_736 J_738 AI AJ mo b nn nr nt cc (pRf b nn nt nr h) h := by rw [er_744] at hQ; exact hQ
      replace q_746 := (⟨q_746.1, q_746.2.1⟩ : _ ∧ _)
      obtain ⟨f0, ef0⟩ : ∃ q, q = (I_736 mo 24).toInt := ⟨_, rfl⟩
      have hr2 : Hid (f0 = 0 → v_742 < M ∧ fa0 = 0) := fun h9 => by omega
      refine lv_istore_n (lv' := [(2, .int (iI v_742)), (1, .int (iI v_64)), (0, .ref mo)]) F.1 F.2.1 dX7_joinTold_9 rfl hl (by decide) rfl (fun ls hl => ?_)
      refine lv_aload_n F.1 F.2.1 dX7_joinTold_10 rfl (lv_at hl 2 rfl) ?_
      refine va_ldcS F.1 F.2.1 F.2.2.2.1 (F.2.2.2.2.2.2.1 14 _ rfl).1 dX7_joinTold_11 ?_
      have b_750 := mJ hv hm
      unfold mNum1 at b_750
      refine g_callv (g_runV (As := [.ref (gSK g 14)]) (rest := []) (ci := 7) F hl.1 hH hS hz (c_X7_mustWordf l g gh T 14 _ 12 b nn nr nt cc (pRf b nn nt nr h) h I_736 R J_738 AI AJ AR mo hv hm hT (by omega) (rfl : sTab[14]? = some _) h65 hbM hr7 (by omega) hn9 (by omega) (by decide) (by decide +kernel) hQ) (cwV 1 F.2.2.2.2.1 (good_up gT_X7_mustWord) rfl rfl rfl hdX7_mustWord ⟨Nat.le_of_ble_eq_true rfl, Nat.le_of_ble_eq_true rfl⟩) hm (by decide) rfl rfl rfl (Nat.le_of_ble_eq_true rfl) dX7_joinTold_13 ⟨Nat.zero_le _, Nat.zero_le _⟩) hS (fun I_751 R_752 J_753 AI_754 AJ_755 AR_756 H locs hp_757 hH hS => ?_)
      dsimp only at hp_757
      obtain ⟨r_758, er_758⟩ : ∃ qQ : pR, qQ = thn ((pRf b nn nt nr h), h, 0) (fun t _ => sTw b nn ((12 : Nat) : Int) t) := ⟨_, rfl⟩
      rw [← er_758] at hp_757
      obtain ⟨rfl, rfl, rfl, rfl, hv, pfq, q_759, hQ⟩ := hp_757
      have pf := qF_t pf pfq
      have u_760_2 : (I_751 mo 2).toInt = (I mo 2).toInt := by rw [pf 2 (by decide) (by decide) (by decide) (by decide) (by decide)]
      have u_760_5 : (I_751 mo 5).toInt = (I mo 5).toInt := by rw [pf 5 (by decide) (by decide) (by decide) (by decide) (by decide)]
      have u_760_14 : (I_751 mo 14).toInt = (I mo 14).toInt := by rw [pf 14 (by decide) (by decide) (by decide) (by decide) (by decide)]
      have u_760_16 : (I_751 mo 16).toInt = (I mo 16).toInt := by rw [pf 16 (by decide) (by decide) (by decide) (by decide) (by decide)]
      have u_760_18 : (I_751 mo 18).toInt = (I mo 18).toInt := by rw [pf 18 (by decide) (by decide) (by decide) (by decide) (by decide)]
      rw [thn_b (by omega)] at er_758
      have hQ : mQ gh I_751 J_753 AI AJ mo b nn nr nt cc (pRf b nn nt nr h) h := by rw [er_758] at hQ; exact hQ
      refine z_iconst F dX7_joinTold_16 ?_
      refine lv_istore_n (lv' := [(3, .int (iI 0)), (2, .int (iI v_742)), (1, .int (iI v_64)), (0, .ref mo)]) F.1 F.2.1 dX7_joinTold_17 rfl hl (by decide) rfl (fun ls hl => ?_)
      refine z_iconst F dX7_joinTold_18 ?_
      refine lv_istore (lv' := [(4, .int (iI 0)), (3, .int (iI 0)), (2, .int (iI v_742)), (1, .int (iI v_64)), (0, .ref mo)]) F.1 F.2.1 dX7_joinTold_19 hl (by decide) rfl (fun ls hl => ?_)
      refine z_iconst F dX7_joinTold_21 ?_
      refine lv_istore (lv' := [(5, .int (iI 1)), (4, .int (iI 0)), (3, .int (iI 0)), (2, .int (iI v_742)), (1, .int (iI v_64)), (0, .ref mo)]) F.1 F.2.1 dX7_joinTold_22 hl (by decide) rfl (fun ls hl => ?_)
      refine lv_iload F.1 F.2.1 dX7_joinTold_24 (lv_at hl 0 rfl) ?_
      refine z_if_eq (tgt := 160) F dX7_joinTold_26 (by decide) ⟨by decide, by decide⟩ (fun c_761 => ?_) (fun c_761 => ?_)
      · exact absurd trivial (by omega)
      · refine lv_aload_n F.1 F.2.1 dX7_joinTold_29 rfl (lv_at hl 5 rfl) ?_
        refine g_getI (ci := 7) (k := 24) F hH rfl (by decide) iX7 hm (by decide) rfl k81 dX7_joinTold_30 ?_
        have b_762 := mJ hv hm
        unfold mNum1 at b_762
        refine z_if_ne (tgt := 160) F dX7_joinTold_33 (by decide) (zr_t _) (fun c_763 => ?_) (fun c_763 => ?_)
        · have hS9 : sJoi b nn nr nt cc h = (pRf b nn nt nr h, h, 0) := by
            unfold sJoi
            repeat (first | with_reducible rfl | refine thn_t sr_66 (by first | rfl | omega) ?_ | exact (thn_x sr_66.symm (by omega)).trans (pr_e (by omega) (by omega) (by omega)))
          have hfin : thn (f, h, 0) (fun t _ => sJoiM b nn nr nt cc t) = (pRf b nn nt nr h, h, 0) := (thn_k q0).trans (by show sJoiM b nn nr nt cc h = _; unfold sJoiM; exact thn_x hS9.symm (by omega))
          exact cut_160_3 v_64 v_742 0 0 I_751 J_753 AI H locs ls zv_64 zv_742 ⟨by decide, by decide⟩ ⟨by decide, by decide⟩ hv hT pf ⟨_, _, by omega, hQ, hfin⟩ (by omega) (by omega) (fun _ _ => rfl) hH hS (lv_sub hl [5, 4, 3, 2, 1] rfl)
        · exact absurd (mQ_z hQ (by omega)) (by omega)
  · have hf1 := mQ_f hQ q0
    have cut_160_766 : ∀ (l1 l2 l3 l4 : Int) (I_764 : gI) (J_765 : gJ) (AI_766 : gI) (H : Heap) (locs : List Loc) (ls : Array Slot), zr l1 → zr l2 → zr l3 → zr l4 → (mInv g gh R I_764 AI_766) → (AI_766 (gh 50 0) = T) → (qF mo I I_764) → (∃ (f9 : Int) (h9 : Nat), f9 ≠ 0 ∧ mQ gh I_764 J_765 AI_766 AJ mo b nn nr nt cc f9 h9 ∧ thn (f, h, 0) (fun t _ => sJoiM b nn nr nt cc t) = (f9, h9, 0)) → ((I_764 mo 20).toInt ≤ 936 ∧ (I mo 24).toInt ≤ (I_764 mo 24).toInt) → (0 ≤ l1 ∧ l1 ≤ 15 ∧ 0 ≤ l2 ∧ l2 ≤ 15) → (∀ b, b ≠ gh 53 0 → AI_766 b = AI b) → gH g I_764 R J_765 AI_766 AJ AR H → va_S (gA g) s.heap H locs → lv_has ls 8 [(0, .ref mo), (1, .int (iI l1)), (2, .int (iI l2)), (3, .int (iI l3)), (4, .int (iI l4))] → W p l e rmX7_joinToldg s m ([.ref mo] : List Value).toArray below meth c H locs 0 0 (MQ below (gQv g (fun w : gS => R = w.2.1 ∧ AJ = w.2.2.2.2.1 ∧ AR = w.2.2.2.2.2 ∧ (mInv g gh R (w.1) (w.2.2.2.1)) ∧ ((w.2.2.2.1) (gh 50 0) = T) ∧ (qF mo I (w.1)) ∧ (((w.1) mo 20).toInt ≤ 936 ∧ (I mo 24).toInt ≤ ((w.1) mo 24).toInt) ∧ (((w.1) mo 24).toInt = 0 → ((w.1) mo 21).toInt = 4 → ((w.1) mo 23).toInt = 59 → rowOK ((w.2.2.2.1) (gh 53 0)) M) ∧ (((w.1) mo 24).toInt = 0 → tI ((w.2.2.2.1) (gh 53 0)) (40 * M) = 3) ∧ (mQ gh (w.1) (w.2.2.1) (w.2.2.2.1) AJ mo b nn nr nt cc (thn (f, h, 0) (fun t _ => sJoiM b nn nr nt cc t)).1 (thn (f, h, 0) (fun t _ => sJoiM b nn nr nt cc t)).2.1) ∧ (pIc (thn (f, h, 0) (fun t _ => sJoiM b nn nr nt cc t)).1 (pK b nn (thn (f, h, 0) (fun t _ => sJoiM b nn nr nt cc t)).2.1) (tI ((w.2.2.2.1) (gh 53 0)) (40 * (nr : Int) + 1)) (thn (f, h, 0) (fun t _ => sJoiM b nn nr nt cc t)).2.2) ∧ (zIf (thn (f, h, 0) (fun t _ => sJoiM b nn nr nt cc t)).1 (frM M (AI (gh 53 0)) ((w.2.2.2.1) (gh 53 0)))) ∧ (zIf (thn (f, h, 0) (fun t _ => sJoiM b nn nr nt cc t)).1 (mJoi b nn nr nt h ((w.2.2.2.1) (gh 53 0)) M)) ∧ (∀ b, b ≠ gh 53 0 → (w.2.2.2.1) b = AI b))) ([.ref mo] : List Value).toArray s 0 0 (gA g)) (F0 m 160 ls []) := by
      intro l1 l2 l3 l4 I_764 J_765 AI_766 H locs ls zl1 zl2 zl3 zl4 hv hT pf hBad hx9 hl12 fA9 hH hS hl
      (try clear u_71_18); (try clear u_71_16); (try clear u_71_14); (try clear u_71_5); (try clear u_71_2); (try clear b_57)
      have uc_2 : (I_764 mo 2).toInt = (I mo 2).toInt := by rw [pf 2 (by decide) (by decide) (by decide) (by decide) (by decide)]
      have uc_5 : (I_764 mo 5).toInt = (I mo 5).toInt := by rw [pf 5 (by decide) (by decide) (by decide) (by decide) (by decide)]
      have uc_14 : (I_764 mo 14).toInt = (I mo 14).toInt := by rw [pf 14 (by decide) (by decide) (by decide) (by decide) (by decide)]
      have uc_16 : (I_764 mo 16).toInt = (I mo 16).toInt := by rw [pf 16 (by decide) (by decide) (by decide) (by decide) (by decide)]
      have uc_18 : (I_764 mo 18).toInt = (I mo 18).toInt := by rw [pf 18 (by decide) (by decide) (by decide) (by decide) (by decide)]
      obtain ⟨fb9, hb9, q9, hQ, hfin⟩ := hBad
      have q9f := mQ_f hQ q9
      have q9p := mQ_p hQ
      refine lv_aload_n F.1 F.2.1 dX7_joinTold_160 rfl (lv_at hl 0 rfl) ?_
      refine lv_iload_n F.1 F.2.1 dX7_joinTold_161 rfl (lv_at hl 1 rfl) ?_
      have b_769 := mJ hv hm
      unfold mNum1 at b_769
      refine g_calli (g_runV (As := [.int (iI l1)]) (rest := []) (ci := 7) F hl.1 hH hS hz (c_X7_columns l g gh T I_764 R J_765 AI_766 AJ AR mo l1 zl1 hv hm hT (by omega)) (cwV 1 F.2.2.2.2.1 (good_up gT_X7_columns) rfl rfl rfl hdX7_columns ⟨Nat.le_of_ble_eq_true rfl, Nat.le_of_ble_eq_true rfl⟩) hm (by decide) rfl rfl rfl (Nat.le_of_ble_eq_true rfl) dX7_joinTold_162 ⟨Nat.zero_le _, Nat.zero_le _⟩) hS (fun v_776 I_770 R_771 J_772 AI_773 AJ_774 AR_775 H locs zv_776 hp_777 hH hS => ?_)
      dsimp only at hp_777
      obtain ⟨rfl, rfl, rfl, rfl, rfl, rfl, q_768⟩ := hp_777
      have hca : Hid ((I_764 mo 24).toInt = 0 → 1 ≤ tI (AI_766 (gh 53 0)) (40 * l1 + 1) ∧ tI (AI_766 (gh 53 0)) (40 * l1 + 1) ≤ 4) := fun h => mCol hv hm (z := l1) (by omega) (by omega)
      have hcb : Hid ((I_764 mo 24).toInt = 0 → 1 ≤ tI (AI_766 (gh 53 0)) (40 * l2 + 1) ∧ tI (AI_766 (gh 53 0)) (40 * l2 + 1) ≤ 4) := fun h => mCol hv hm (z := l2) (by omega) (by omega)
      refine lv_istore (lv' := [(6, .int (iI v_776)), (0, .ref mo), (1, .int (iI l1)), (2, .int (iI l2)), (3, .int (iI l3)), (4, .int (iI l4))]) F.1 F.2.1 dX7_joinTold_165 hl (by decide) rfl (fun ls hl => ?_)
      refine z_iconst F dX7_joinTold_167 ?_
      refine lv_istore (lv' := [(7, .int (iI 0)), (6, .int (iI v_776)), (0, .ref mo), (1, .int (iI l1)), (2, .int (iI l2)), (3, .int (iI l3)), (4, .int (iI l4))]) F.1 F.2.1 dX7_joinTold_168 hl (by decide) rfl (fun ls hl => ?_)
      have cut_170_777 : ∀ (NN : Nat) (cl d : Int) (H : Heap) (locs : List Loc) (ls : Array Slot), zr cl → zr d → (0 ≤ d ∧ ((I_764 mo 24).toInt = 0 → d ≤ 4 ∧ d ≤ tI (AI_766 (gh 53 0)) (40 * l2 + 1) ∧ cl = tI (AI_766 (gh 53 0)) (40 * l1 + 1) + mCnt l4 d.toNat)) → ((tI (AI_766 (gh 53 0)) (40 * l2 + 1) - d).toNat : Int) < ((NN : Nat) : Int) → gH g I_764 R J_765 AI_766 AJ AR H → va_S (gA g) s.heap H locs → lv_has ls 8 [(7, .int (iI d)), (6, .int (iI cl)), (0, .ref mo), (1, .int (iI l1)), (2, .int (iI l2)), (3, .int (iI l3)), (4, .int (iI l4))] → W p l e rmX7_joinToldg s m ([.ref mo] : List Value).toArray below meth c H locs 0 0 (MQ below (gQv g (fun w : gS => R = w.2.1 ∧ AJ = w.2.2.2.2.1 ∧ AR = w.2.2.2.2.2 ∧ (mInv g gh R (w.1) (w.2.2.2.1)) ∧ ((w.2.2.2.1) (gh 50 0) = T) ∧ (qF mo I (w.1)) ∧ (((w.1) mo 20).toInt ≤ 936 ∧ (I mo 24).toInt ≤ ((w.1) mo 24).toInt) ∧ (((w.1) mo 24).toInt = 0 → ((w.1) mo 21).toInt = 4 → ((w.1) mo 23).toInt = 59 → rowOK ((w.2.2.2.1) (gh 53 0)) M) ∧ (((w.1) mo 24).toInt = 0 → tI ((w.2.2.2.1) (gh 53 0)) (40 * M) = 3) ∧ (mQ gh (w.1) (w.2.2.1) (w.2.2.2.1) AJ mo b nn nr nt cc (thn (f, h, 0) (fun t _ => sJoiM b nn nr nt cc t)).1 (thn (f, h, 0) (fun t _ => sJoiM b nn nr nt cc t)).2.1) ∧ (pIc (thn (f, h, 0) (fun t _ => sJoiM b nn nr nt cc t)).1 (pK b nn (thn (f, h, 0) (fun t _ => sJoiM b nn nr nt cc t)).2.1) (tI ((w.2.2.2.1) (gh 53 0)) (40 * (nr : Int) + 1)) (thn (f, h, 0) (fun t _ => sJoiM b nn nr nt cc t)).2.2) ∧ (zIf (thn (f, h, 0) (fun t _ => sJoiM b nn nr nt cc t)).1 (frM M (AI (gh 53 0)) ((w.2.2.2.1) (gh 53 0)))) ∧ (zIf (thn (f, h, 0) (fun t _ => sJoiM b nn nr nt cc t)).1 (mJoi b nn nr nt h ((w.2.2.2.1) (gh 53 0)) M)) ∧ (∀ b, b ≠ gh 53 0 → (w.2.2.2.1) b = AI b))) ([.ref mo] : List Value).toArray s 0 0 (gA g)) (F0 m 170 ls []) := by
        intro NN170
        induction NN170 with
        | zero =>
          intro cl d H locs ls zcl zd hcl hm170 hH hS hl
          exact absurd hm170 (by omega)
        | succ NN170 ih170 =>
          intro cl d H locs ls zcl zd hcl hm170 hH hS hl
          have hmd := mCnt_0 (x := l4) (a := d.toNat)
          have hmu := mCnt_u (x := l4) (a := d.toNat)
          refine lv_iload F.1 F.2.1 dX7_joinTold_170 (lv_at hl 0 rfl) ?_
          refine lv_aload_n F.1 F.2.1 dX7_joinTold_172 rfl (lv_at hl 2 rfl) ?_
          refine lv_iload_n F.1 F.2.1 dX7_joinTold_173 rfl (lv_at hl 4 rfl) ?_
          refine g_calli (g_runV (As := [.int (iI l2)]) (rest := [.int (iI d)]) (ci := 7) F hl.1 hH hS hz (c_X7_columns l g gh T I_764 R J_765 AI_766 AJ AR mo l2 zl2 hv hm hT (by omega)) (cwV 1 F.2.2.2.2.1 (good_up gT_X7_columns) rfl rfl rfl hdX7_columns ⟨Nat.le_of_ble_eq_true rfl, Nat.le_of_ble_eq_true rfl⟩) hm (by decide) rfl rfl rfl (Nat.le_of_ble_eq_true rfl) dX7_joinTold_174 ⟨Nat.zero_le _, Nat.zero_le _⟩) hS (fun v_786 I_780 R_781 J_782 AI_783 AJ_784 AR_785 H locs zv_786 hp_787 hH hS => ?_)
          dsimp only at hp_787
          obtain ⟨rfl, rfl, rfl, rfl, rfl, rfl, q_779⟩ := hp_787
          refine z_icmp_ge (tgt := 199) F dX7_joinTold_177 (by decide) zd zv_786 (fun c_788 => ?_) (fun c_788 => ?_)
          · have hcx : Hid ((I_764 mo 24).toInt = 0 → cl = tI (AI_766 (gh 53 0)) (40 * l1 + 1) + mCnt l4 (tI (AI_766 (gh 53 0)) (40 * l2 + 1)).toNat) := fun hf => by rw [← (show d = tI (AI_766 (gh 53 0)) (40 * l2 + 1) by have q := hcl.2 hf; omega)]; exact (hcl.2 hf).2.2
            obtain ⟨f9, ef9⟩ : ∃ q, q = (I_764 mo 24).toInt := ⟨_, rfl⟩
            have hm0 := mCnt_0 (x := l4) (a := (tI (AI_766 (gh 53 0)) (40 * l2 + 1)).toNat)
            refine lv_aload_n F.1 F.2.1 dX7_joinTold_199 rfl (lv_at hl 2 rfl) ?_
            refine z_bipush F dX7_joinTold_200 (by decide) ?_
            refine g_calli (g_runV (As := [.int (iI 59)]) (rest := []) (ci := 7) F hl.1 hH hS hz (c_X7_isSignf l g gh T b nn nr nt cc fb9 hb9 I_764 R J_765 AI_766 AJ AR mo 59 ⟨by decide, by decide⟩ hv hm hT h65 hbM hr7 (by omega) hn9 (by omega) (by omega) hQ) (cwV 1 F.2.2.2.2.1 (good_up gT_X7_isSign) rfl rfl rfl hdX7_isSign ⟨Nat.le_of_ble_eq_true rfl, Nat.le_of_ble_eq_true rfl⟩) hm (by decide) rfl rfl rfl (Nat.le_of_ble_eq_true rfl) dX7_joinTold_202 ⟨Nat.zero_le _, Nat.zero_le _⟩) hS (fun v_795 I_789 R_790 J_791 AI_792 AJ_793 AR_794 H locs zv_795 hp_796 hH hS => ?_)
            dsimp only at hp_796
            obtain ⟨rfl, rfl, rfl, rfl, rfl, rfl, q_797, q_798⟩ := hp_796
            replace q_797 := q_797.1
            refine z_if_eq (tgt := 219) F dX7_joinTold_205 (by decide) zv_795 (fun c_799 => ?_) (fun c_799 => ?_)
            · have t_800 := tIz_0 q_798 (by omega)
              refine lv_aload_n F.1 F.2.1 dX7_joinTold_219 rfl (lv_at hl 2 rfl) ?_
              refine z_iconst F dX7_joinTold_220 ?_
              refine lv_iload F.1 F.2.1 dX7_joinTold_221 (lv_at hl 1 rfl) ?_
              refine lv_iload_n F.1 F.2.1 dX7_joinTold_223 rfl (lv_at hl 3 rfl) ?_
              refine lv_iload_n F.1 F.2.1 dX7_joinTold_224 rfl (lv_at hl 4 rfl) ?_
              refine lv_iload_n F.1 F.2.1 dX7_joinTold_225 rfl (lv_at hl 5 rfl) ?_
              refine g_callv (g_runV (As := [.int (iI 3), .int (iI cl), .int (iI l1), .int (iI l2), .int (iI l3)]) (rest := []) (ci := 7) F hl.1 hH hS hz (c_X7_headerg l g gh T M I_764 R J_765 AI_766 AJ AR mo 3 cl l1 l2 l3 ⟨by decide, by decide⟩ zcl zl1 zl2 zl3 hv hm hT (by omega) (by omega)) (cwV 5 F.2.2.2.2.1 (good_up gT_X7_header) rfl rfl rfl hdX7_header ⟨Nat.le_of_ble_eq_true rfl, Nat.le_of_ble_eq_true rfl⟩) hm (by decide) rfl rfl rfl (Nat.le_of_ble_eq_true rfl) dX7_joinTold_226 ⟨Nat.zero_le _, Nat.zero_le _⟩) hS (fun I_801 R_802 J_803 AI_804 AJ_805 AR_806 H locs hp_807 hH hS => ?_)
              dsimp only at hp_807
              obtain ⟨rfl, rfl, rfl, rfl, rfl, hv, hT, hhd, q_808⟩ := hp_807
              replace hhd := hid hhd
              have hQ : mQ gh I_764 J_765 AI_804 AJ mo b nn nr nt cc fb9 hb9 := mQ_bad hQ (by omega) rfl
              refine lv_aload_n F.1 F.2.1 dX7_joinTold_229 rfl (lv_at hl 2 rfl) ?_
              refine z_iconst F dX7_joinTold_230 ?_
              refine lv_iload F.1 F.2.1 dX7_joinTold_231 (lv_at hl 6 rfl) ?_
              refine g_callv (g_runV (As := [.int (iI 5), .int (iI l4)]) (rest := []) (ci := 7) F hl.1 hH hS hz (c_X7_setsg l g gh T M I_764 R J_765 AI_804 AJ AR mo 5 l4 ⟨by decide, by decide⟩ zl4 hv hm hT (by omega) (by omega) (by omega)) (cwV 2 F.2.2.2.2.1 (good_up gT_X7_sets) rfl rfl rfl hdX7_sets ⟨Nat.le_of_ble_eq_true rfl, Nat.le_of_ble_eq_true rfl⟩) hm (by decide) rfl rfl rfl (Nat.le_of_ble_eq_true rfl) dX7_joinTold_233 ⟨Nat.zero_le _, Nat.zero_le _⟩) hS (fun I_809 R_810 J_811 AI_812 AJ_813 AR_814 H locs hp_815 hH hS => ?_)
              dsimp only at hp_815
              obtain ⟨rfl, rfl, rfl, rfl, rfl, hv, hT, hs1, q_816⟩ := hp_815
              replace hs1 := hid hs1
              have hQ : mQ gh I_764 J_765 AI_812 AJ mo b nn nr nt cc fb9 hb9 := mQ_bad hQ (by omega) rfl
              exact g_vret F hr hlk hH hS hz ⟨rfl, rfl, rfl, hv, hT, pf, by first | (dsimp only; omega) | omega | rfl, by (try dsimp only); exact (fun hf => absurd hf (by omega)), by (try dsimp only); exact (fun hf => absurd hf (by omega)), by (try dsimp only); rw [hfin]; exact hQ, by (try dsimp only); rw [hfin]; exact pIc_n (by omega), by (try dsimp only); rw [hfin]; exact zIf_n (by omega), by (try dsimp only); rw [hfin]; exact zIf_n (by omega), fun b hb => ((q_816 b hb).trans (q_808 b hb)).trans (fA9 b hb)⟩ dX7_joinTold_236
            · exact absurd (tIz_1 q_798 (by omega)).1 (by omega)
          · refine lv_iload F.1 F.2.1 dX7_joinTold_180 (lv_at hl 6 rfl) ?_
            refine lv_iload F.1 F.2.1 dX7_joinTold_182 (lv_at hl 0 rfl) ?_
            refine lv_ishr F.1 F.2.1 dX7_joinTold_184 ?_
            refine z_top (fun v_817 zv_817 ev_817 => ?_)
            refine z_iconst F dX7_joinTold_185 ?_
            refine lv_iand F.1 F.2.1 dX7_joinTold_186 ?_
            refine z_top (fun v_818 zv_818 ev_818 => ?_)
            have hb : v_818 = mBit l4 d := by rw [ev_818, ev_817]; rfl
            have hb01 := mBit01 l4 d
            refine z_if_ne (tgt := 193) F dX7_joinTold_187 (by decide) zv_818 (fun c_819 => ?_) (fun c_819 => ?_)
            · refine z_iinc (lv' := [(7, .int (iI (d + 1))), (6, .int (iI cl)), (0, .ref mo), (1, .int (iI l1)), (2, .int (iI l2)), (3, .int (iI l3)), (4, .int (iI l4))]) F dX7_joinTold_193 hl (k := 0) rfl (by decide) rfl (fun ls hl => ?_)
              refine z_goto (tgt := 170) F dX7_joinTold_196 (by decide) ?_
              exact ih170 cl (d + 1) H locs ls zcl ⟨by omega, by omega⟩ (⟨by omega, fun hf => ⟨by have q := hcb hf; omega, by omega, by have q := hcl.2 hf; rw [mCnt_z (by omega) (by omega)]; omega⟩⟩) (by omega) hH hS (lv_sub hl [0, 1, 2, 3, 4, 5, 6] rfl)
            · refine z_iinc (lv' := [(6, .int (iI (cl + 1))), (7, .int (iI d)), (0, .ref mo), (1, .int (iI l1)), (2, .int (iI l2)), (3, .int (iI l3)), (4, .int (iI l4))]) F dX7_joinTold_190 hl (k := 1) rfl (by decide) rfl (fun ls hl => ?_)
              obtain ⟨c9, zc9, ec9, fc9⟩ := z_wrap (cl + 1)
              rw [ec9] at hl
              refine z_iinc (lv' := [(7, .int (iI (d + 1))), (6, .int (iI c9)), (0, .ref mo), (1, .int (iI l1)), (2, .int (iI l2)), (3, .int (iI l3)), (4, .int (iI l4))]) F dX7_joinTold_193 hl (k := 1) rfl (by decide) rfl (fun ls hl => ?_)
              refine z_goto (tgt := 170) F dX7_joinTold_196 (by decide) ?_
              exact ih170 c9 (d + 1) H locs ls zc9 ⟨by omega, by omega⟩ (⟨by omega, fun hf => ⟨by have q := hcb hf; omega, by omega, by have q := hcl.2 hf; have q1 := hca hf; have q2 := fc9 (by omega); rw [mCnt_s (by omega) (by omega)]; omega⟩⟩) (by omega) hH hS (lv_sub hl [0, 1, 2, 3, 4, 5, 6] rfl)
      exact cut_170_777 ((((tI (AI_766 (gh 53 0)) (40 * l2 + 1) - 0).toNat : Int) + 1 : Int).toNat) v_776 0 H locs ls zv_776 ⟨by decide, by decide⟩ (⟨by omega, fun hf => ⟨by omega, by have q := hcb hf; omega, by show _ = _ + (0 : Int); omega⟩⟩) (by omega) hH hS (lv_sub hl [0, 1, 2, 3, 4, 5, 6] rfl)
    refine lv_aload_n F.1 F.2.1 dX7_joinTold_0 rfl (lv_at hl 0 rfl) ?_
    have b_820 := mJ hv hm
    unfold mNum1 at b_820
    refine g_calli (g_runV (As := []) (rest := []) (ci := 7) F hl.1 hH hS hz (c_X7_relationg l g gh T b nn nr nt cc f h I R J AI AJ AR mo hv hm hT (by omega) h65 hbM hr7 (by omega) hn9 (by omega) hQ) (cwV 0 F.2.2.2.2.1 (good_up gT_X7_relation) rfl rfl rfl hdX7_relation ⟨Nat.le_of_ble_eq_true rfl, Nat.le_of_ble_eq_true rfl⟩) hm (by decide) rfl rfl rfl (Nat.le_of_ble_eq_true rfl) dX7_joinTold_1 ⟨Nat.zero_le _, Nat.zero_le _⟩) hS (fun v_827 I_821 R_822 J_823 AI_824 AJ_825 AR_826 H locs zv_827 hp_828 hH hS => ?_)
    dsimp only at hp_828
    obtain ⟨r_829, er_829⟩ : ∃ qQ : pR, qQ = thn (f, h, 0) (fun t _ => sRl b nn nr nt cc t) := ⟨_, rfl⟩
    rw [← er_829] at hp_828
    obtain ⟨rfl, rfl, rfl, rfl, hv, pfq, q_830, q_831, hQ, q_832, q_833⟩ := hp_828
    have pf := qF_t pf pfq
    have u_834_2 : (I_821 mo 2).toInt = (I mo 2).toInt := by rw [pf 2 (by decide) (by decide) (by decide) (by decide) (by decide)]
    have u_834_5 : (I_821 mo 5).toInt = (I mo 5).toInt := by rw [pf 5 (by decide) (by decide) (by decide) (by decide) (by decide)]
    have u_834_14 : (I_821 mo 14).toInt = (I mo 14).toInt := by rw [pf 14 (by decide) (by decide) (by decide) (by decide) (by decide)]
    have u_834_16 : (I_821 mo 16).toInt = (I mo 16).toInt := by rw [pf 16 (by decide) (by decide) (by decide) (by decide) (by decide)]
    have u_834_18 : (I_821 mo 18).toInt = (I mo 18).toInt := by rw [pf 18 (by decide) (by decide) (by decide) (by decide) (by decide)]
    rw [thn_b (by omega)] at er_829
    have hQ : mQ gh I_821 J_823 AI AJ mo b nn nr nt cc f h := by rw [er_829] at hQ; exact hQ
    replace q_831 := (⟨q_831.1, q_831.2.1⟩ : _ ∧ _)
    obtain ⟨fa0, efa0⟩ : ∃ q, q = (I_821 mo 24).toInt := ⟨_, rfl⟩
    have hra : Hid (fa0 = 0 → v_827 < M) := fun h9 => by omega
    refine lv_istore_n (lv' := [(1, .int (iI v_827)), (0, .ref mo)]) F.1 F.2.1 dX7_joinTold_4 rfl hl (by decide) rfl (fun ls hl => ?_)
    refine lv_aload_n F.1 F.2.1 dX7_joinTold_5 rfl (lv_at hl 1 rfl) ?_
    have b_835 := mJ hv hm
    unfold mNum1 at b_835
    refine g_calli (g_runV (As := []) (rest := []) (ci := 7) F hl.1 hH hS hz (c_X7_relationg l g gh T b nn nr nt cc f h I_821 R J_823 AI AJ AR mo hv hm hT (by omega) h65 hbM hr7 (by omega) hn9 (by omega) hQ) (cwV 0 F.2.2.2.2.1 (good_up gT_X7_relation) rfl rfl rfl hdX7_relation ⟨Nat.le_of_ble_eq_true rfl, Nat.le_of_ble_eq_true rfl⟩) hm (by decide) rfl rfl rfl (Nat.le_of_ble_eq_true rfl) dX7_joinTold_6 ⟨Nat.zero_le _, Nat.zero_le _⟩) hS (fun v_842 I_836 R_837 J_838 AI_839 AJ_840 AR_841 H locs zv_842 hp_843 hH hS => ?_)
    dsimp only at hp_843
    obtain ⟨r_844, er_844⟩ : ∃ qQ : pR, qQ = thn (f, h, 0) (fun t _ => sRl b nn nr nt cc t) := ⟨_, rfl⟩
    rw [← er_844] at hp_843
    obtain ⟨rfl, rfl, rfl, rfl, hv, pfq, q_845, q_846, hQ, q_847, q_848⟩ := hp_843
    have pf := qF_t pf pfq
    have u_849_2 : (I_836 mo 2).toInt = (I mo 2).toInt := by rw [pf 2 (by decide) (by decide) (by decide) (by decide) (by decide)]
    have u_849_5 : (I_836 mo 5).toInt = (I mo 5).toInt := by rw [pf 5 (by decide) (by decide) (by decide) (by decide) (by decide)]
    have u_849_14 : (I_836 mo 14).toInt = (I mo 14).toInt := by rw [pf 14 (by decide) (by decide) (by decide) (by decide) (by decide)]
    have u_849_16 : (I_836 mo 16).toInt = (I mo 16).toInt := by rw [pf 16 (by decide) (by decide) (by decide) (by decide) (by decide)]
    have u_849_18 : (I_836 mo 18).toInt = (I mo 18).toInt := by rw [pf 18 (by decide) (by decide) (by decide) (by decide) (by decide)]
    rw [thn_b (by omega)] at er_844
    have hQ : mQ gh I_836 J_838 AI AJ mo b nn nr nt cc f h := by rw [er_844] at hQ; exact hQ
    replace q_846 := (⟨q_846.1, q_846.2.1⟩ : _ ∧ _)
    obtain ⟨f0, ef0⟩ : ∃ q, q = (I_836 mo 24).toInt := ⟨_, rfl⟩
    have hr2 : Hid (f0 = 0 → v_842 < M ∧ fa0 = 0) := fun h9 => by omega
    refine lv_istore_n (lv' := [(2, .int (iI v_842)), (1, .int (iI v_827)), (0, .ref mo)]) F.1 F.2.1 dX7_joinTold_9 rfl hl (by decide) rfl (fun ls hl => ?_)
    refine lv_aload_n F.1 F.2.1 dX7_joinTold_10 rfl (lv_at hl 2 rfl) ?_
    refine va_ldcS F.1 F.2.1 F.2.2.2.1 (F.2.2.2.2.2.2.1 14 _ rfl).1 dX7_joinTold_11 ?_
    have b_850 := mJ hv hm
    unfold mNum1 at b_850
    refine g_callv (g_runV (As := [.ref (gSK g 14)]) (rest := []) (ci := 7) F hl.1 hH hS hz (c_X7_mustWordf l g gh T 14 _ 12 b nn nr nt cc f h I_836 R J_838 AI AJ AR mo hv hm hT (by omega) (rfl : sTab[14]? = some _) h65 hbM hr7 (by omega) hn9 (by omega) (by decide) (by decide +kernel) hQ) (cwV 1 F.2.2.2.2.1 (good_up gT_X7_mustWord) rfl rfl rfl hdX7_mustWord ⟨Nat.le_of_ble_eq_true rfl, Nat.le_of_ble_eq_true rfl⟩) hm (by decide) rfl rfl rfl (Nat.le_of_ble_eq_true rfl) dX7_joinTold_13 ⟨Nat.zero_le _, Nat.zero_le _⟩) hS (fun I_851 R_852 J_853 AI_854 AJ_855 AR_856 H locs hp_857 hH hS => ?_)
    dsimp only at hp_857
    obtain ⟨r_858, er_858⟩ : ∃ qQ : pR, qQ = thn (f, h, 0) (fun t _ => sTw b nn ((12 : Nat) : Int) t) := ⟨_, rfl⟩
    rw [← er_858] at hp_857
    obtain ⟨rfl, rfl, rfl, rfl, hv, pfq, q_859, hQ⟩ := hp_857
    have pf := qF_t pf pfq
    have u_860_2 : (I_851 mo 2).toInt = (I mo 2).toInt := by rw [pf 2 (by decide) (by decide) (by decide) (by decide) (by decide)]
    have u_860_5 : (I_851 mo 5).toInt = (I mo 5).toInt := by rw [pf 5 (by decide) (by decide) (by decide) (by decide) (by decide)]
    have u_860_14 : (I_851 mo 14).toInt = (I mo 14).toInt := by rw [pf 14 (by decide) (by decide) (by decide) (by decide) (by decide)]
    have u_860_16 : (I_851 mo 16).toInt = (I mo 16).toInt := by rw [pf 16 (by decide) (by decide) (by decide) (by decide) (by decide)]
    have u_860_18 : (I_851 mo 18).toInt = (I mo 18).toInt := by rw [pf 18 (by decide) (by decide) (by decide) (by decide) (by decide)]
    rw [thn_b (by omega)] at er_858
    have hQ : mQ gh I_851 J_853 AI AJ mo b nn nr nt cc f h := by rw [er_858] at hQ; exact hQ
    refine z_iconst F dX7_joinTold_16 ?_
    refine lv_istore_n (lv' := [(3, .int (iI 0)), (2, .int (iI v_842)), (1, .int (iI v_827)), (0, .ref mo)]) F.1 F.2.1 dX7_joinTold_17 rfl hl (by decide) rfl (fun ls hl => ?_)
    refine z_iconst F dX7_joinTold_18 ?_
    refine lv_istore (lv' := [(4, .int (iI 0)), (3, .int (iI 0)), (2, .int (iI v_842)), (1, .int (iI v_827)), (0, .ref mo)]) F.1 F.2.1 dX7_joinTold_19 hl (by decide) rfl (fun ls hl => ?_)
    refine z_iconst F dX7_joinTold_21 ?_
    refine lv_istore (lv' := [(5, .int (iI 1)), (4, .int (iI 0)), (3, .int (iI 0)), (2, .int (iI v_842)), (1, .int (iI v_827)), (0, .ref mo)]) F.1 F.2.1 dX7_joinTold_22 hl (by decide) rfl (fun ls hl => ?_)
    refine lv_iload F.1 F.2.1 dX7_joinTold_24 (lv_at hl 0 rfl) ?_
    refine z_if_eq (tgt := 160) F dX7_joinTold_26 (by decide) ⟨by decide, by decide⟩ (fun c_861 => ?_) (fun c_861 => ?_)
    · exact absurd trivial (by omega)
    · refine lv_aload_n F.1 F.2.1 dX7_joinTold_29 rfl (lv_at hl 5 rfl) ?_
      refine g_getI (ci := 7) (k := 24) F hH rfl (by decide) iX7 hm (by decide) rfl k81 dX7_joinTold_30 ?_
      have b_862 := mJ hv hm
      unfold mNum1 at b_862
      refine z_if_ne (tgt := 160) F dX7_joinTold_33 (by decide) (zr_t _) (fun c_863 => ?_) (fun c_863 => ?_)
      · have hfin : thn (f, h, 0) (fun t _ => sJoiM b nn nr nt cc t) = (f, h, 0) := thn_b q0
        exact cut_160_766 v_827 v_842 0 0 I_851 J_853 AI H locs ls zv_827 zv_842 ⟨by decide, by decide⟩ ⟨by decide, by decide⟩ hv hT pf ⟨_, _, by omega, hQ, hfin⟩ (by omega) (by omega) (fun _ _ => rfl) hH hS (lv_sub hl [5, 4, 3, 2, 1] rfl)
      · exact absurd (mQ_z hQ (by omega)) (by omega)
