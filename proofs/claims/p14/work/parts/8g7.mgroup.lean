def rmX7_groupToldg : Room := { frames := 8, cells := 0, slots := 0, locals := 170 }
set_option maxHeartbeats 4000000 in
set_option maxRecDepth 100000 in
/-- a group told -/
theorem c_X7_groupToldg (l : Launch) (g : gG) (gh : gGh) (T : Nat → Int32) (M : Int) (b : tTx) (nn nr : Nat) (nt : Nat → Nat) (cc : Nat → Int) (f : Int) (h : Nat) (I : gI) (R : gR) (J : gJ) (AI : gI) (AJ : gJ) (AR : gR) (mo : Nat) (hv : mInv g gh R I AI) (hm : gO g mo 7) (hT : AI (gh 50 0) = T) (hE : (I mo 20).toInt ≤ 936) (hM : (I mo 24).toInt = 0 → (I mo 5).toInt ≤ 15) (hMM : (I mo 5).toInt = M) (h65 : gh 9 (gh 65 0) ≠ 5) (hbM : ∀ k : Nat, k < nn → ((gM g).2 (gh 65 0) k).toInt = b k % 256) (hr7 : ∀ k : Nat, -128 ≤ b k ∧ b k ≤ 127) (hsz : (I mo 18).toInt = (nn : Int)) (hn9 : nn ≤ 900) (hm5 : (I mo 5).toInt = (nr : Int)) (hQ : mQ gh I J AI AJ mo b nn nr nt cc f h) : gMet l g yX7_groupTold tsX7_groupTold rmX7_groupToldg [.ref mo] (I, R, J, AI, AJ, AR) (gQv g (fun w : gS => R = w.2.1 ∧ AJ = w.2.2.2.2.1 ∧ AR = w.2.2.2.2.2 ∧ (mInv g gh R (w.1) (w.2.2.2.1)) ∧ ((w.2.2.2.1) (gh 50 0) = T) ∧ (qF mo I (w.1)) ∧ (((w.1) mo 20).toInt ≤ 936 ∧ (I mo 24).toInt ≤ ((w.1) mo 24).toInt) ∧ (((w.1) mo 24).toInt = 0 → ((w.1) mo 21).toInt = 4 → ((w.1) mo 23).toInt = 59 → rowOK ((w.2.2.2.1) (gh 53 0)) M) ∧ (((w.1) mo 24).toInt = 0 → tI ((w.2.2.2.1) (gh 53 0)) (40 * M) = 7) ∧ (mQ gh (w.1) (w.2.2.1) (w.2.2.2.1) AJ mo b nn nr nt cc (thn (f, h, 0) (fun t _ => sGrp b nn nr nt cc t)).1 (thn (f, h, 0) (fun t _ => sGrp b nn nr nt cc t)).2.1) ∧ (pIc (thn (f, h, 0) (fun t _ => sGrp b nn nr nt cc t)).1 (pK b nn (thn (f, h, 0) (fun t _ => sGrp b nn nr nt cc t)).2.1) (tI ((w.2.2.2.1) (gh 53 0)) (40 * (nr : Int) + 1)) (thn (f, h, 0) (fun t _ => sGrp b nn nr nt cc t)).2.2) ∧ (zIf (thn (f, h, 0) (fun t _ => sGrp b nn nr nt cc t)).1 (frM M (AI (gh 53 0)) ((w.2.2.2.1) (gh 53 0)))) ∧ (zIf (thn (f, h, 0) (fun t _ => sGrp b nn nr nt cc t)).1 (mGrp b nn nr nt h ((w.2.2.2.1) (gh 53 0)) M)) ∧ (∀ b, b ≠ gh 53 0 → (w.2.2.2.1) b = AI b))) := by
  refine gStart (cc := cX7_groupTold) (maxL := 7) (ret := none) (by decide) rfl (Nat.le_of_ble_eq_true rfl) ?_
  intro p e s m below meth c ls F hr hlk hH hz hS hl
  have hl : lv_has ls 7 [(0, .ref mo)] := hl
  have hS : va_S (gA g) s.heap s.heap [] := hS
  obtain ⟨H, hHe⟩ : ∃ H : Heap, H = s.heap := ⟨_, rfl⟩
  obtain ⟨locs, hlo⟩ : ∃ k : List Loc, k = [] := ⟨_, rfl⟩
  have hH : gH g I R J AI AJ AR H := by rw [hHe]; exact hH
  have hS : va_S (gA g) s.heap H locs := by rw [hHe, hlo]; exact hS
  suffices hw : W p l e rmX7_groupToldg s m ([.ref mo] : List Value).toArray below meth c H locs 0 0 (MQ below (gQv g (fun w : gS => R = w.2.1 ∧ AJ = w.2.2.2.2.1 ∧ AR = w.2.2.2.2.2 ∧ (mInv g gh R (w.1) (w.2.2.2.1)) ∧ ((w.2.2.2.1) (gh 50 0) = T) ∧ (qF mo I (w.1)) ∧ (((w.1) mo 20).toInt ≤ 936 ∧ (I mo 24).toInt ≤ ((w.1) mo 24).toInt) ∧ (((w.1) mo 24).toInt = 0 → ((w.1) mo 21).toInt = 4 → ((w.1) mo 23).toInt = 59 → rowOK ((w.2.2.2.1) (gh 53 0)) M) ∧ (((w.1) mo 24).toInt = 0 → tI ((w.2.2.2.1) (gh 53 0)) (40 * M) = 7) ∧ (mQ gh (w.1) (w.2.2.1) (w.2.2.2.1) AJ mo b nn nr nt cc (thn (f, h, 0) (fun t _ => sGrp b nn nr nt cc t)).1 (thn (f, h, 0) (fun t _ => sGrp b nn nr nt cc t)).2.1) ∧ (pIc (thn (f, h, 0) (fun t _ => sGrp b nn nr nt cc t)).1 (pK b nn (thn (f, h, 0) (fun t _ => sGrp b nn nr nt cc t)).2.1) (tI ((w.2.2.2.1) (gh 53 0)) (40 * (nr : Int) + 1)) (thn (f, h, 0) (fun t _ => sGrp b nn nr nt cc t)).2.2) ∧ (zIf (thn (f, h, 0) (fun t _ => sGrp b nn nr nt cc t)).1 (frM M (AI (gh 53 0)) ((w.2.2.2.1) (gh 53 0)))) ∧ (zIf (thn (f, h, 0) (fun t _ => sGrp b nn nr nt cc t)).1 (mGrp b nn nr nt h ((w.2.2.2.1) (gh 53 0)) M)) ∧ (∀ b, b ≠ gh 53 0 → (w.2.2.2.1) b = AI b))) ([.ref mo] : List Value).toArray s 0 0 (gA g)) (F0 m 0 ls []) by
    rw [hHe, hlo] at hw; exact hw
  clear hHe hlo
  have pf : qF mo I I := qF_r
  have hb0 := mJ hv hm
  unfold mNum1 at hb0
  have hfr : frM M (AI (gh 53 0)) (AI (gh 53 0)) := frM_r
  have iX7 : ∀ w ∈ u_ws RX7 TX7 32, w ∈ tsX7_groupTold := fun w h => List.mem_cons_of_mem _ (inTB7 w h)
  have k81 : Cond.fieldLink RX7 81 (TX7 24).1 (TX7 24).2.1 (TX7 24).2.2.1 ∈ tsX7_groupTold := List.mem_cons_of_mem _ fl_81
  have k94 : Cond.fieldLink RX7 94 (TX7 21).1 (TX7 21).2.1 (TX7 21).2.2.1 ∈ tsX7_groupTold := List.mem_cons_of_mem _ fl_94
  have k97 : Cond.fieldLink RX7 97 (TX7 23).1 (TX7 23).2.1 (TX7 23).2.2.1 ∈ tsX7_groupTold := List.mem_cons_of_mem _ fl_97
  have hf0 := mQ_p hQ
  by_cases q0 : f = 0
  · have hQ := mQ_ok hQ q0
    have hz0 := mQ_0 hQ rfl
    have cut_156_3 : ∀ (l1 l2 : Int) (I_1 : gI) (J_2 : gJ) (AI_3 : gI) (H : Heap) (locs : List Loc) (ls : Array Slot), zr l1 → zr l2 → (mInv g gh R I_1 AI_3) → (AI_3 (gh 50 0) = T) → (qF mo I I_1) → (∃ (f9 : Int) (h9 : Nat), f9 ≠ 0 ∧ mQ gh I_1 J_2 AI_3 AJ mo b nn nr nt cc f9 h9 ∧ thn (f, h, 0) (fun t _ => sGrp b nn nr nt cc t) = (f9, h9, 0)) → ((I_1 mo 20).toInt ≤ 936 ∧ (I mo 24).toInt ≤ (I_1 mo 24).toInt) → (0 ≤ l1 ∧ l1 ≤ 15) → (∀ b, b ≠ gh 53 0 → AI_3 b = AI b) → gH g I_1 R J_2 AI_3 AJ AR H → va_S (gA g) s.heap H locs → lv_has ls 7 [(0, .ref mo), (1, .int (iI l1)), (2, .int (iI l2))] → W p l e rmX7_groupToldg s m ([.ref mo] : List Value).toArray below meth c H locs 0 0 (MQ below (gQv g (fun w : gS => R = w.2.1 ∧ AJ = w.2.2.2.2.1 ∧ AR = w.2.2.2.2.2 ∧ (mInv g gh R (w.1) (w.2.2.2.1)) ∧ ((w.2.2.2.1) (gh 50 0) = T) ∧ (qF mo I (w.1)) ∧ (((w.1) mo 20).toInt ≤ 936 ∧ (I mo 24).toInt ≤ ((w.1) mo 24).toInt) ∧ (((w.1) mo 24).toInt = 0 → ((w.1) mo 21).toInt = 4 → ((w.1) mo 23).toInt = 59 → rowOK ((w.2.2.2.1) (gh 53 0)) M) ∧ (((w.1) mo 24).toInt = 0 → tI ((w.2.2.2.1) (gh 53 0)) (40 * M) = 7) ∧ (mQ gh (w.1) (w.2.2.1) (w.2.2.2.1) AJ mo b nn nr nt cc (thn (f, h, 0) (fun t _ => sGrp b nn nr nt cc t)).1 (thn (f, h, 0) (fun t _ => sGrp b nn nr nt cc t)).2.1) ∧ (pIc (thn (f, h, 0) (fun t _ => sGrp b nn nr nt cc t)).1 (pK b nn (thn (f, h, 0) (fun t _ => sGrp b nn nr nt cc t)).2.1) (tI ((w.2.2.2.1) (gh 53 0)) (40 * (nr : Int) + 1)) (thn (f, h, 0) (fun t _ => sGrp b nn nr nt cc t)).2.2) ∧ (zIf (thn (f, h, 0) (fun t _ => sGrp b nn nr nt cc t)).1 (frM M (AI (gh 53 0)) ((w.2.2.2.1) (gh 53 0)))) ∧ (zIf (thn (f, h, 0) (fun t _ => sGrp b nn nr nt cc t)).1 (mGrp b nn nr nt h ((w.2.2.2.1) (gh 53 0)) M)) ∧ (∀ b, b ≠ gh 53 0 → (w.2.2.2.1) b = AI b))) ([.ref mo] : List Value).toArray s 0 0 (gA g)) (F0 m 156 ls []) := by
      intro l1 l2 I_1 J_2 AI_3 H locs ls zl1 zl2 hv hT pf hBad hx9 hl12 fA9 hH hS hl
      have uc_2 : (I_1 mo 2).toInt = (I mo 2).toInt := by rw [pf 2 (by decide) (by decide) (by decide) (by decide) (by decide)]
      have uc_5 : (I_1 mo 5).toInt = (I mo 5).toInt := by rw [pf 5 (by decide) (by decide) (by decide) (by decide) (by decide)]
      have uc_14 : (I_1 mo 14).toInt = (I mo 14).toInt := by rw [pf 14 (by decide) (by decide) (by decide) (by decide) (by decide)]
      have uc_16 : (I_1 mo 16).toInt = (I mo 16).toInt := by rw [pf 16 (by decide) (by decide) (by decide) (by decide) (by decide)]
      have uc_18 : (I_1 mo 18).toInt = (I mo 18).toInt := by rw [pf 18 (by decide) (by decide) (by decide) (by decide) (by decide)]
      obtain ⟨fb9, hb9, q9, hQ, hfin⟩ := hBad
      have q9f := mQ_f hQ q9
      have q9p := mQ_p hQ
      obtain ⟨f3, ef3⟩ : ∃ q, q = (I_1 mo 24).toInt := ⟨_, rfl⟩
      refine lv_aload_n F.1 F.2.1 dX7_groupTold_156 rfl (lv_at hl 0 rfl) ?_
      refine va_ldcS F.1 F.2.1 F.2.2.2.1 (F.2.2.2.2.2.2.1 20 _ rfl).1 dX7_groupTold_157 ?_
      have b_5 := mJ hv hm
      unfold mNum1 at b_5
      refine g_calli (g_runV (As := [.ref (gSK g 20)]) (rest := []) (ci := 7) F hl.1 hH hS hz (c_X7_isWordf l g gh T 20 _ 16 b nn nr nt cc fb9 hb9 I_1 R J_2 AI_3 AJ AR mo hv hm hT (rfl : sTab[20]? = some _) (by decide) (by decide +kernel) h65 hbM hr7 (by omega) hn9 (by omega) hQ) (cwV 1 F.2.2.2.2.1 (good_up gT_X7_isWord) rfl rfl rfl hdX7_isWord ⟨Nat.le_of_ble_eq_true rfl, Nat.le_of_ble_eq_true rfl⟩) hm (by decide) rfl rfl rfl (Nat.le_of_ble_eq_true rfl) dX7_groupTold_159 ⟨Nat.zero_le _, Nat.zero_le _⟩) hS (fun v_12 I_6 R_7 J_8 AI_9 AJ_10 AR_11 H locs zv_12 hp_13 hH hS => ?_)
      dsimp only at hp_13
      obtain ⟨rfl, rfl, rfl, rfl, rfl, rfl, q_14, q_15⟩ := hp_13
      refine z_if_eq (tgt := 169) F dX7_groupTold_162 (by decide) zv_12 (fun c_16 => ?_) (fun c_16 => ?_)
      · have t_17 := tIz_0 q_15 (by omega)
        refine lv_aload_n F.1 F.2.1 dX7_groupTold_169 rfl (lv_at hl 0 rfl) ?_
        refine va_ldcS F.1 F.2.1 F.2.2.2.1 (F.2.2.2.2.2.2.1 21 _ rfl).1 dX7_groupTold_170 ?_
        refine g_calli (g_runV (As := [.ref (gSK g 21)]) (rest := []) (ci := 7) F hl.1 hH hS hz (c_X7_isWordf l g gh T 21 _ 17 b nn nr nt cc fb9 hb9 I_1 R J_2 AI_3 AJ AR mo hv hm hT (rfl : sTab[21]? = some _) (by decide) (by decide +kernel) h65 hbM hr7 (by omega) hn9 (by omega) hQ) (cwV 1 F.2.2.2.2.1 (good_up gT_X7_isWord) rfl rfl rfl hdX7_isWord ⟨Nat.le_of_ble_eq_true rfl, Nat.le_of_ble_eq_true rfl⟩) hm (by decide) rfl rfl rfl (Nat.le_of_ble_eq_true rfl) dX7_groupTold_172 ⟨Nat.zero_le _, Nat.zero_le _⟩) hS (fun v_24 I_18 R_19 J_20 AI_21 AJ_22 AR_23 H locs zv_24 hp_25 hH hS => ?_)
        dsimp only at hp_25
        obtain ⟨rfl, rfl, rfl, rfl, rfl, rfl, q_26, q_27⟩ := hp_25
        refine z_if_eq (tgt := 182) F dX7_groupTold_175 (by decide) zv_24 (fun c_28 => ?_) (fun c_28 => ?_)
        · have t_29 := tIz_0 q_27 (by omega)
          refine lv_aload_n F.1 F.2.1 dX7_groupTold_182 rfl (lv_at hl 0 rfl) ?_
          refine va_ldcS F.1 F.2.1 F.2.2.2.1 (F.2.2.2.2.2.2.1 22 _ rfl).1 dX7_groupTold_183 ?_
          refine g_calli (g_runV (As := [.ref (gSK g 22)]) (rest := []) (ci := 7) F hl.1 hH hS hz (c_X7_isWordf l g gh T 22 _ 18 b nn nr nt cc fb9 hb9 I_1 R J_2 AI_3 AJ AR mo hv hm hT (rfl : sTab[22]? = some _) (by decide) (by decide +kernel) h65 hbM hr7 (by omega) hn9 (by omega) hQ) (cwV 1 F.2.2.2.2.1 (good_up gT_X7_isWord) rfl rfl rfl hdX7_isWord ⟨Nat.le_of_ble_eq_true rfl, Nat.le_of_ble_eq_true rfl⟩) hm (by decide) rfl rfl rfl (Nat.le_of_ble_eq_true rfl) dX7_groupTold_185 ⟨Nat.zero_le _, Nat.zero_le _⟩) hS (fun v_36 I_30 R_31 J_32 AI_33 AJ_34 AR_35 H locs zv_36 hp_37 hH hS => ?_)
          dsimp only at hp_37
          obtain ⟨rfl, rfl, rfl, rfl, rfl, rfl, q_38, q_39⟩ := hp_37
          refine z_if_eq (tgt := 195) F dX7_groupTold_188 (by decide) zv_36 (fun c_40 => ?_) (fun c_40 => ?_)
          · have t_41 := tIz_0 q_39 (by omega)
            refine lv_aload_n F.1 F.2.1 dX7_groupTold_195 rfl (lv_at hl 0 rfl) ?_
            refine va_ldcS F.1 F.2.1 F.2.2.2.1 (F.2.2.2.2.2.2.1 23 _ rfl).1 dX7_groupTold_196 ?_
            refine g_calli (g_runV (As := [.ref (gSK g 23)]) (rest := []) (ci := 7) F hl.1 hH hS hz (c_X7_isWordf l g gh T 23 _ 19 b nn nr nt cc fb9 hb9 I_1 R J_2 AI_3 AJ AR mo hv hm hT (rfl : sTab[23]? = some _) (by decide) (by decide +kernel) h65 hbM hr7 (by omega) hn9 (by omega) hQ) (cwV 1 F.2.2.2.2.1 (good_up gT_X7_isWord) rfl rfl rfl hdX7_isWord ⟨Nat.le_of_ble_eq_true rfl, Nat.le_of_ble_eq_true rfl⟩) hm (by decide) rfl rfl rfl (Nat.le_of_ble_eq_true rfl) dX7_groupTold_198 ⟨Nat.zero_le _, Nat.zero_le _⟩) hS (fun v_48 I_42 R_43 J_44 AI_45 AJ_46 AR_47 H locs zv_48 hp_49 hH hS => ?_)
            dsimp only at hp_49
            obtain ⟨rfl, rfl, rfl, rfl, rfl, rfl, q_50, q_51⟩ := hp_49
            refine z_if_eq (tgt := 208) F dX7_groupTold_201 (by decide) zv_48 (fun c_52 => ?_) (fun c_52 => ?_)
            · have t_53 := tIz_0 q_51 (by omega)
              refine z_iconst F dX7_groupTold_208 ?_
              refine lv_istore (lv' := [(5, .int (iI ((-1)))), (0, .ref mo), (1, .int (iI l1)), (2, .int (iI l2))]) F.1 F.2.1 dX7_groupTold_209 hl (by decide) rfl (fun ls hl => ?_)
              refine lv_iload F.1 F.2.1 dX7_groupTold_211 (lv_at hl 0 rfl) ?_
              refine z_if_ge (tgt := 221) F dX7_groupTold_213 (by decide) ⟨by decide, by decide⟩ (fun c_54 => ?_) (fun c_54 => ?_)
              · exact absurd trivial (by omega)
              · refine lv_aload_n F.1 F.2.1 dX7_groupTold_216 rfl (lv_at hl 1 rfl) ?_
                refine z_iconst F dX7_groupTold_217 ?_
                refine g_callv (g_runV (As := [.int (iI 1)]) (rest := []) (ci := 7) F hl.1 hH hS hz (c_X7_wrongf l g gh T b nn nr nt cc fb9 hb9 I_1 R J_2 AI_3 AJ AR mo 1 ⟨by decide, by decide⟩ hv hm hT (by omega) h65 hbM hr7 (by omega) hn9 (by omega) hQ) (cwV 1 F.2.2.2.2.1 (good_up gT_X7_wrong) rfl rfl rfl hdX7_wrong ⟨Nat.le_of_ble_eq_true rfl, Nat.le_of_ble_eq_true rfl⟩) hm (by decide) rfl rfl rfl (Nat.le_of_ble_eq_true rfl) dX7_groupTold_218 ⟨Nat.zero_le _, Nat.zero_le _⟩) hS (fun I_55 R_56 J_57 AI_58 AJ_59 AR_60 H locs hp_61 hH hS => ?_)
                dsimp only at hp_61
                obtain ⟨r_62, er_62⟩ : ∃ qQ : pR, qQ = thn (fb9, hb9, 0) (fun t _ => (1, t, 0)) := ⟨_, rfl⟩
                rw [← er_62] at hp_61
                obtain ⟨rfl, rfl, rfl, rfl, rfl, hv, pfq, q_63, hQ⟩ := hp_61
                have pf := qF_t pf pfq
                have u_64_2 : (I_55 mo 2).toInt = (I mo 2).toInt := by rw [pf 2 (by decide) (by decide) (by decide) (by decide) (by decide)]
                have u_64_5 : (I_55 mo 5).toInt = (I mo 5).toInt := by rw [pf 5 (by decide) (by decide) (by decide) (by decide) (by decide)]
                have u_64_14 : (I_55 mo 14).toInt = (I mo 14).toInt := by rw [pf 14 (by decide) (by decide) (by decide) (by decide) (by decide)]
                have u_64_16 : (I_55 mo 16).toInt = (I mo 16).toInt := by rw [pf 16 (by decide) (by decide) (by decide) (by decide) (by decide)]
                have u_64_18 : (I_55 mo 18).toInt = (I mo 18).toInt := by rw [pf 18 (by decide) (by decide) (by decide) (by decide) (by decide)]
                rw [thn_b (by omega)] at er_62
                have hQ : mQ gh I_55 J_2 AI_3 AJ mo b nn nr nt cc fb9 hb9 := by rw [er_62] at hQ; exact hQ
                refine lv_aload_n F.1 F.2.1 dX7_groupTold_221 rfl (lv_at hl 1 rfl) ?_
                have b_65 := mJ hv hm
                unfold mNum1 at b_65
                refine g_callv (g_runV (As := []) (rest := []) (ci := 7) F hl.1 hH hS hz (c_X7_nextf l g gh T b nn (tNd b nn (tPs b nn hb9)) I_55 R J_2 AI_3 AJ AR mo hv hm hT (by omega) (mTp hv h65 hbM) hr7 (by omega) (by omega) (mQ_e0 hQ) tNd_le.1) (cwV 0 F.2.2.2.2.1 (good_up gT_X7_next) rfl rfl rfl hdX7_next ⟨Nat.le_of_ble_eq_true rfl, Nat.le_of_ble_eq_true rfl⟩) hm (by decide) rfl rfl rfl (Nat.le_of_ble_eq_true rfl) dX7_groupTold_222 ⟨Nat.zero_le _, Nat.zero_le _⟩) hS (fun I_66 R_67 J_68 AI_69 AJ_70 AR_71 H locs hp_72 hH hS => ?_)
                dsimp only at hp_72
                obtain ⟨rfl, rfl, rfl, rfl, hv, pfq, q_73, nx4, nxa, nxb⟩ := hp_72
                have pf := qF_t pf pfq
                have u_74_2 : (I_66 mo 2).toInt = (I mo 2).toInt := by rw [pf 2 (by decide) (by decide) (by decide) (by decide) (by decide)]
                have u_74_5 : (I_66 mo 5).toInt = (I mo 5).toInt := by rw [pf 5 (by decide) (by decide) (by decide) (by decide) (by decide)]
                have u_74_14 : (I_66 mo 14).toInt = (I mo 14).toInt := by rw [pf 14 (by decide) (by decide) (by decide) (by decide) (by decide)]
                have u_74_16 : (I_66 mo 16).toInt = (I mo 16).toInt := by rw [pf 16 (by decide) (by decide) (by decide) (by decide) (by decide)]
                have u_74_18 : (I_66 mo 18).toInt = (I mo 18).toInt := by rw [pf 18 (by decide) (by decide) (by decide) (by decide) (by decide)]
                have hQ : mQ gh I_66 J_68 AI_3 AJ mo b nn nr nt cc fb9 hb9 := by have q9 := mQ_nx hQ nx4 nxa; rw [thn_b (by omega)] at q9; exact q9
                clear nxa nxb
                refine lv_iload F.1 F.2.1 dX7_groupTold_225 (lv_at hl 0 rfl) ?_
                refine z_if_le (tgt := 242) F dX7_groupTold_227 (by decide) ⟨by decide, by decide⟩ (fun c_75 => ?_) (fun c_75 => ?_)
                · refine z_iconst F dX7_groupTold_242 ?_
                  refine lv_istore (lv' := [(6, .int (iI 0)), (5, .int (iI ((-1)))), (0, .ref mo), (1, .int (iI l1)), (2, .int (iI l2))]) F.1 F.2.1 dX7_groupTold_243 hl (by decide) rfl (fun ls hl => ?_)
                  refine lv_aload_n F.1 F.2.1 dX7_groupTold_245 rfl (lv_at hl 2 rfl) ?_
                  refine lv_iload_n F.1 F.2.1 dX7_groupTold_246 rfl (lv_at hl 4 rfl) ?_
                  refine lv_iload F.1 F.2.1 dX7_groupTold_247 (lv_at hl 0 rfl) ?_
                  refine lv_iload F.1 F.2.1 dX7_groupTold_249 (lv_at hl 1 rfl) ?_
                  refine z_iconst F dX7_groupTold_251 ?_
                  refine z_iconst F dX7_groupTold_252 ?_
                  have b_76 := mJ hv hm
                  unfold mNum1 at b_76
                  refine g_callv (g_runV (As := [.int (iI l2), .int (iI 0), .int (iI ((-1))), .int (iI 0), .int (iI 0)]) (rest := []) (ci := 7) F hl.1 hH hS hz (c_X7_setsPartg l g gh T M I_66 R J_68 AI_3 AJ AR mo l2 0 (-1) 0 0 zl2 ⟨by decide, by decide⟩ ⟨by decide, by decide⟩ ⟨by decide, by decide⟩ ⟨by decide, by decide⟩ hv hm hT (by omega) (by omega) (by omega)) (cwV 5 F.2.2.2.2.1 (good_up gT_X7_setsPart) rfl rfl rfl hdX7_setsPart ⟨Nat.le_of_ble_eq_true rfl, Nat.le_of_ble_eq_true rfl⟩) hm (by decide) rfl rfl rfl (Nat.le_of_ble_eq_true rfl) dX7_groupTold_253 ⟨Nat.zero_le _, Nat.zero_le _⟩) hS (fun I_77 R_78 J_79 AI_80 AJ_81 AR_82 H locs hp_83 hH hS => ?_)
                  dsimp only at hp_83
                  obtain ⟨rfl, rfl, rfl, rfl, rfl, hv, hT, hsp, q_84⟩ := hp_83
                  replace hsp := hid hsp
                  have hQ : mQ gh I_66 J_68 AI_80 AJ mo b nn nr nt cc fb9 hb9 := mQ_bad hQ (by omega) rfl
                  refine lv_aload_n F.1 F.2.1 dX7_groupTold_256 rfl (lv_at hl 2 rfl) ?_
                  refine z_bipush F dX7_groupTold_257 (by decide) ?_
                  refine lv_iload_n F.1 F.2.1 dX7_groupTold_259 rfl (lv_at hl 4 rfl) ?_
                  refine z_iconst F dX7_groupTold_260 ?_
                  refine z_iadd F dX7_groupTold_261 ?_
                  refine z_norm (fun v_85 zv_85 ev_85 => ?_)
                  refine lv_iload_n F.1 F.2.1 dX7_groupTold_262 rfl (lv_at hl 3 rfl) ?_
                  refine z_iconst F dX7_groupTold_263 ?_
                  refine lv_iload_n F.1 F.2.1 dX7_groupTold_264 rfl (lv_at hl 4 rfl) ?_
                  refine g_callv (g_runV (As := [.int (iI 7), .int (iI v_85), .int (iI l1), .int (iI ((-1))), .int (iI l2)]) (rest := []) (ci := 7) F hl.1 hH hS hz (c_X7_headerg l g gh T M I_66 R J_68 AI_80 AJ AR mo 7 v_85 l1 (-1) l2 ⟨by decide, by decide⟩ zv_85 zl1 ⟨by decide, by decide⟩ zl2 hv hm hT (by omega) (by omega)) (cwV 5 F.2.2.2.2.1 (good_up gT_X7_header) rfl rfl rfl hdX7_header ⟨Nat.le_of_ble_eq_true rfl, Nat.le_of_ble_eq_true rfl⟩) hm (by decide) rfl rfl rfl (Nat.le_of_ble_eq_true rfl) dX7_groupTold_265 ⟨Nat.zero_le _, Nat.zero_le _⟩) hS (fun I_86 R_87 J_88 AI_89 AJ_90 AR_91 H locs hp_92 hH hS => ?_)
                  dsimp only at hp_92
                  obtain ⟨rfl, rfl, rfl, rfl, rfl, hv, hT, hhd, q_93⟩ := hp_92
                  replace hhd := hid hhd
                  have hQ : mQ gh I_66 J_68 AI_89 AJ mo b nn nr nt cc fb9 hb9 := mQ_bad hQ (by omega) rfl
                  exact g_vret F hr hlk hH hS hz ⟨rfl, rfl, rfl, hv, hT, pf, by first | (dsimp only; omega) | omega | rfl, by (try dsimp only); exact (fun hf => absurd hf (by omega)), by (try dsimp only); exact (fun hf => absurd hf (by omega)), by (try dsimp only); rw [hfin]; exact hQ, by (try dsimp only); rw [hfin]; exact pIc_n (by omega), by (try dsimp only); rw [hfin]; exact zIf_n (by omega), by (try dsimp only); rw [hfin]; exact zIf_n (by omega), fun b hb => ((q_93 b hb).trans (q_84 b hb)).trans (fA9 b hb)⟩ dX7_groupTold_268
                · exact absurd trivial (by omega)
            · exact absurd (tIz_1 q_51 (by omega)).1 (by omega)
          · exact absurd (tIz_1 q_39 (by omega)).1 (by omega)
        · exact absurd (tIz_1 q_27 (by omega)).1 (by omega)
      · exact absurd (tIz_1 q_15 (by omega)).1 (by omega)
    refine lv_aload_n F.1 F.2.1 dX7_groupTold_0 rfl (lv_at hl 0 rfl) ?_
    have b_94 := mJ hv hm
    unfold mNum1 at b_94
    refine g_calli (g_runV (As := []) (rest := []) (ci := 7) F hl.1 hH hS hz (c_X7_relationg l g gh T b nn nr nt cc 0 h I R J AI AJ AR mo hv hm hT (by omega) h65 hbM hr7 (by omega) hn9 (by omega) hQ) (cwV 0 F.2.2.2.2.1 (good_up gT_X7_relation) rfl rfl rfl hdX7_relation ⟨Nat.le_of_ble_eq_true rfl, Nat.le_of_ble_eq_true rfl⟩) hm (by decide) rfl rfl rfl (Nat.le_of_ble_eq_true rfl) dX7_groupTold_1 ⟨Nat.zero_le _, Nat.zero_le _⟩) hS (fun v_101 I_95 R_96 J_97 AI_98 AJ_99 AR_100 H locs zv_101 hp_102 hH hS => ?_)
    dsimp only at hp_102
    obtain ⟨r_103, er_103⟩ : ∃ qQ : pR, qQ = thn (0, h, 0) (fun t _ => sRl b nn nr nt cc t) := ⟨_, rfl⟩
    rw [← er_103] at hp_102
    obtain ⟨rfl, rfl, rfl, rfl, hv, pfq, q_104, q_105, hQ, q_106, q_107⟩ := hp_102
    have pf := qF_t pf pfq
    have u_108_2 : (I_95 mo 2).toInt = (I mo 2).toInt := by rw [pf 2 (by decide) (by decide) (by decide) (by decide) (by decide)]
    have u_108_5 : (I_95 mo 5).toInt = (I mo 5).toInt := by rw [pf 5 (by decide) (by decide) (by decide) (by decide) (by decide)]
    have u_108_14 : (I_95 mo 14).toInt = (I mo 14).toInt := by rw [pf 14 (by decide) (by decide) (by decide) (by decide) (by decide)]
    have u_108_16 : (I_95 mo 16).toInt = (I mo 16).toInt := by rw [pf 16 (by decide) (by decide) (by decide) (by decide) (by decide)]
    have u_108_18 : (I_95 mo 18).toInt = (I mo 18).toInt := by rw [pf 18 (by decide) (by decide) (by decide) (by decide) (by decide)]
    have er_103 : r_103 = sRl b nn nr nt cc h := er_103
    have sr_103 := er_103
    rcases sRl_c er_103 with ⟨er_103, pr_103⟩ | ⟨er_103, pr_103⟩
    · have hQ : mQ gh I_95 J_97 AI AJ mo b nn nr nt cc 0 (h + 1) := by rw [er_103] at hQ; exact hQ
      have sr_103 : sRl b nn nr nt cc h = (0, h + 1, cF b nn nr nt cc h) := sr_103.symm.trans er_103
      have vlr_103 := q_106 (by rw [er_103])
      try rw [er_103] at vlr_103
      try dsimp only at vlr_103
      replace q_105 := (⟨q_105.1, q_105.2.1, q_105.2.2 (mQ_0 hQ rfl)⟩ : _ ∧ _ ∧ _)
      have vfr_103 := q_107 (by rw [er_103])
      try rw [er_103] at vfr_103
      try dsimp only at vfr_103
      obtain ⟨f0, ef0⟩ : ∃ q, q = (I_95 mo 24).toInt := ⟨_, rfl⟩
      have hr1 : Hid (f0 = 0 → v_101 < M) := fun h9 => by omega
      refine lv_istore_n (lv' := [(1, .int (iI v_101)), (0, .ref mo)]) F.1 F.2.1 dX7_groupTold_4 rfl hl (by decide) rfl (fun ls hl => ?_)
      refine lv_aload_n F.1 F.2.1 dX7_groupTold_5 rfl (lv_at hl 1 rfl) ?_
      refine va_ldcS F.1 F.2.1 F.2.2.2.1 (F.2.2.2.2.2.2.1 19 _ rfl).1 dX7_groupTold_6 ?_
      have b_109 := mJ hv hm
      unfold mNum1 at b_109
      refine g_callv (g_runV (As := [.ref (gSK g 19)]) (rest := []) (ci := 7) F hl.1 hH hS hz (c_X7_mustWordf l g gh T 19 _ 13 b nn nr nt cc 0 (h + 1) I_95 R J_97 AI AJ AR mo hv hm hT (by omega) (rfl : sTab[19]? = some _) h65 hbM hr7 (by omega) hn9 (by omega) (by decide) (by decide +kernel) hQ) (cwV 1 F.2.2.2.2.1 (good_up gT_X7_mustWord) rfl rfl rfl hdX7_mustWord ⟨Nat.le_of_ble_eq_true rfl, Nat.le_of_ble_eq_true rfl⟩) hm (by decide) rfl rfl rfl (Nat.le_of_ble_eq_true rfl) dX7_groupTold_8 ⟨Nat.zero_le _, Nat.zero_le _⟩) hS (fun I_110 R_111 J_112 AI_113 AJ_114 AR_115 H locs hp_116 hH hS => ?_)
      dsimp only at hp_116
      obtain ⟨r_117, er_117⟩ : ∃ qQ : pR, qQ = thn (0, (h + 1), 0) (fun t _ => sTw b nn ((13 : Nat) : Int) t) := ⟨_, rfl⟩
      rw [← er_117] at hp_116
      obtain ⟨rfl, rfl, rfl, rfl, hv, pfq, q_118, hQ⟩ := hp_116
      have pf := qF_t pf pfq
      have u_119_2 : (I_110 mo 2).toInt = (I mo 2).toInt := by rw [pf 2 (by decide) (by decide) (by decide) (by decide) (by decide)]
      have u_119_5 : (I_110 mo 5).toInt = (I mo 5).toInt := by rw [pf 5 (by decide) (by decide) (by decide) (by decide) (by decide)]
      have u_119_14 : (I_110 mo 14).toInt = (I mo 14).toInt := by rw [pf 14 (by decide) (by decide) (by decide) (by decide) (by decide)]
      have u_119_16 : (I_110 mo 16).toInt = (I mo 16).toInt := by rw [pf 16 (by decide) (by decide) (by decide) (by decide) (by decide)]
      have u_119_18 : (I_110 mo 18).toInt = (I mo 18).toInt := by rw [pf 18 (by decide) (by decide) (by decide) (by decide) (by decide)]
      have er_117 : r_117 = sTw b nn 13 (h + 1) := er_117
      have sr_117 := er_117
      rcases sTw_c er_117 with ⟨er_117, pr_117⟩ | ⟨er_117, pr_117⟩
      · have hQ : mQ gh I_110 J_112 AI AJ mo b nn nr nt cc 0 (h + 2) := by rw [er_117] at hQ; exact hQ
        have sr_117 : sTw b nn 13 (h + 1) = (0, h + 2, 0) := sr_117.symm.trans er_117
        refine z_iconst F dX7_groupTold_11 ?_
        refine lv_istore_n (lv' := [(2, .int (iI 0)), (1, .int (iI v_101)), (0, .ref mo)]) F.1 F.2.1 dX7_groupTold_12 rfl hl (by decide) rfl (fun ls hl => ?_)
        refine z_iconst F dX7_groupTold_13 ?_
        refine lv_istore_n (lv' := [(3, .int (iI 0)), (2, .int (iI 0)), (1, .int (iI v_101)), (0, .ref mo)]) F.1 F.2.1 dX7_groupTold_14 rfl hl (by decide) rfl (fun ls hl => ?_)
        refine z_iconst F dX7_groupTold_15 ?_
        refine lv_istore (lv' := [(4, .int (iI 1)), (3, .int (iI 0)), (2, .int (iI 0)), (1, .int (iI v_101)), (0, .ref mo)]) F.1 F.2.1 dX7_groupTold_16 hl (by decide) rfl (fun ls hl => ?_)
        have cut_18_122 : ∀ (NN : Nat) (n had mr : Int) (I_120 : gI) (J_121 : gJ) (AI_122 : gI) (H : Heap) (locs : List Loc) (ls : Array Slot), zr n → zr had → zr mr → (mInv g gh R I_120 AI_122) → (AI_122 (gh 50 0) = T) → (qF mo I I_120) → ((I_120 mo 20).toInt ≤ 936 ∧ f0 ≤ (I_120 mo 24).toInt ∧ 0 ≤ n ∧ n ≤ 4) → (Hid ((I_120 mo 24).toInt = 0 → n ≤ 3 ∧ grpP (AI_122 (gh 53 0)) M n)) → (∃ (hc : Nat) (L : List Int), mQ gh I_120 J_121 AI_122 AJ mo b nn nr nt cc 0 hc ∧ sBys b nn (cF b nn nr nt cc h) 4 0 [] (h + 2) = sBys b nn (cF b nn nr nt cc h) (4 - n).toNat n L hc ∧ mGn had L ∧ iL nxB (spC b nn) 4 (h + 2) n hc ∧ qAll (rBy b nn M) nxB (AI_122 (gh 53 0)) (h + 2) n) → (mr = 1) → (frM M (AI (gh 53 0)) (AI_122 (gh 53 0))) → (∀ b, b ≠ gh 53 0 → AI_122 b = AI b) → (5 - n) < ((NN : Nat) : Int) → gH g I_120 R J_121 AI_122 AJ AR H → va_S (gA g) s.heap H locs → lv_has ls 7 [(4, .int (iI mr)), (3, .int (iI had)), (2, .int (iI n)), (1, .int (iI v_101)), (0, .ref mo)] → W p l e rmX7_groupToldg s m ([.ref mo] : List Value).toArray below meth c H locs 0 0 (MQ below (gQv g (fun w : gS => R = w.2.1 ∧ AJ = w.2.2.2.2.1 ∧ AR = w.2.2.2.2.2 ∧ (mInv g gh R (w.1) (w.2.2.2.1)) ∧ ((w.2.2.2.1) (gh 50 0) = T) ∧ (qF mo I (w.1)) ∧ (((w.1) mo 20).toInt ≤ 936 ∧ (I mo 24).toInt ≤ ((w.1) mo 24).toInt) ∧ (((w.1) mo 24).toInt = 0 → ((w.1) mo 21).toInt = 4 → ((w.1) mo 23).toInt = 59 → rowOK ((w.2.2.2.1) (gh 53 0)) M) ∧ (((w.1) mo 24).toInt = 0 → tI ((w.2.2.2.1) (gh 53 0)) (40 * M) = 7) ∧ (mQ gh (w.1) (w.2.2.1) (w.2.2.2.1) AJ mo b nn nr nt cc (thn (f, h, 0) (fun t _ => sGrp b nn nr nt cc t)).1 (thn (f, h, 0) (fun t _ => sGrp b nn nr nt cc t)).2.1) ∧ (pIc (thn (f, h, 0) (fun t _ => sGrp b nn nr nt cc t)).1 (pK b nn (thn (f, h, 0) (fun t _ => sGrp b nn nr nt cc t)).2.1) (tI ((w.2.2.2.1) (gh 53 0)) (40 * (nr : Int) + 1)) (thn (f, h, 0) (fun t _ => sGrp b nn nr nt cc t)).2.2) ∧ (zIf (thn (f, h, 0) (fun t _ => sGrp b nn nr nt cc t)).1 (frM M (AI (gh 53 0)) ((w.2.2.2.1) (gh 53 0)))) ∧ (zIf (thn (f, h, 0) (fun t _ => sGrp b nn nr nt cc t)).1 (mGrp b nn nr nt h ((w.2.2.2.1) (gh 53 0)) M)) ∧ (∀ b, b ≠ gh 53 0 → (w.2.2.2.1) b = AI b))) ([.ref mo] : List Value).toArray s 0 0 (gA g)) (F0 m 18 ls []) := by
          intro NN18
          induction NN18 with
          | zero =>
            intro n had mr I_120 J_121 AI_122 H locs ls zn zhad zmr hv hT pf hx hp hLs hmr hfr fA9 hm18 hH hS hl
            exact absurd hm18 (by omega)
          | succ NN18 ih18 =>
            intro n had mr I_120 J_121 AI_122 H locs ls zn zhad zmr hv hT pf hx hp hLs hmr hfr fA9 hm18 hH hS hl
            (try clear u_119_18); (try clear u_119_16); (try clear u_119_14); (try clear u_119_5); (try clear u_119_2); (try clear b_109); (try clear u_108_18); (try clear u_108_16); (try clear u_108_14); (try clear u_108_5); (try clear u_108_2); (try clear b_94)
            have uc_2 : (I_120 mo 2).toInt = (I mo 2).toInt := by rw [pf 2 (by decide) (by decide) (by decide) (by decide) (by decide)]
            have uc_5 : (I_120 mo 5).toInt = (I mo 5).toInt := by rw [pf 5 (by decide) (by decide) (by decide) (by decide) (by decide)]
            have uc_14 : (I_120 mo 14).toInt = (I mo 14).toInt := by rw [pf 14 (by decide) (by decide) (by decide) (by decide) (by decide)]
            have uc_16 : (I_120 mo 16).toInt = (I mo 16).toInt := by rw [pf 16 (by decide) (by decide) (by decide) (by decide) (by decide)]
            have uc_18 : (I_120 mo 18).toInt = (I mo 18).toInt := by rw [pf 18 (by decide) (by decide) (by decide) (by decide) (by decide)]
            obtain ⟨hc, L, hQ, hsq, hcn⟩ := hLs
            have hp_k := hp (mQ_0 hQ rfl)
            obtain ⟨hcn, hil, hqa⟩ := hcn
            refine lv_iload F.1 F.2.1 dX7_groupTold_18 (lv_at hl 0 rfl) ?_
            refine z_if_eq (tgt := 156) F dX7_groupTold_20 (by decide) zmr (fun c_124 => ?_) (fun c_124 => ?_)
            · exact absurd hmr (by omega)
            · refine lv_aload_n F.1 F.2.1 dX7_groupTold_23 rfl (lv_at hl 4 rfl) ?_
              refine g_getI (ci := 7) (k := 24) F hH rfl (by decide) iX7 hm (by decide) rfl k81 dX7_groupTold_24 ?_
              have b_125 := mJ hv hm
              unfold mNum1 at b_125
              refine z_if_ne (tgt := 156) F dX7_groupTold_27 (by decide) (zr_t _) (fun c_126 => ?_) (fun c_126 => ?_)
              · exact absurd (mQ_0 hQ rfl) (by omega)
              · refine lv_aload_n F.1 F.2.1 dX7_groupTold_30 rfl (lv_at hl 4 rfl) ?_
                refine g_getI (ci := 7) (k := 21) F hH rfl (by decide) iX7 hm (by decide) rfl k94 dX7_groupTold_31 ?_
                refine z_iconst F dX7_groupTold_34 ?_
                refine z_icmp_ne (tgt := 42) F dX7_groupTold_35 (by decide) (zr_t _) ⟨by decide, by decide⟩ (fun c_127 => ?_) (fun c_127 => ?_)
                · have t_128 : pK b nn hc ≠ 2 := mQ_kn hQ rfl (c := 1) rfl (by omega)
                  refine z_iconst F dX7_groupTold_42 ?_
                  refine lv_istore (lv' := [(5, .int (iI 0)), (4, .int (iI mr)), (3, .int (iI had)), (2, .int (iI n)), (1, .int (iI v_101)), (0, .ref mo)]) F.1 F.2.1 dX7_groupTold_43 hl (by decide) rfl (fun ls hl => ?_)
                  refine lv_iload F.1 F.2.1 dX7_groupTold_45 (lv_at hl 0 rfl) ?_
                  refine z_if_eq (tgt := 79) F dX7_groupTold_47 (by decide) ⟨by decide, by decide⟩ (fun c_129 => ?_) (fun c_129 => ?_)
                  · refine lv_iload_n F.1 F.2.1 dX7_groupTold_79 rfl (lv_at hl 3 rfl) ?_
                    refine z_iconst F dX7_groupTold_80 ?_
                    refine z_icmp_ne (tgt := 98) F dX7_groupTold_81 (by decide) zn ⟨by decide, by decide⟩ (fun c_130 => ?_) (fun c_130 => ?_)
                    · refine lv_aload_n F.1 F.2.1 dX7_groupTold_98 rfl (lv_at hl 5 rfl) ?_
                      refine lv_aload_n F.1 F.2.1 dX7_groupTold_99 rfl (lv_at hl 5 rfl) ?_
                      refine lv_iload_n F.1 F.2.1 dX7_groupTold_100 rfl (lv_at hl 4 rfl) ?_
                      refine g_calli (g_runV (As := [.int (iI v_101)]) (rest := [.ref mo]) (ci := 7) F hl.1 hH hS hz (c_X7_columns l g gh T I_120 R J_121 AI_122 AJ AR mo v_101 zv_101 hv hm hT (by omega)) (cwV 1 F.2.2.2.2.1 (good_up gT_X7_columns) rfl rfl rfl hdX7_columns ⟨Nat.le_of_ble_eq_true rfl, Nat.le_of_ble_eq_true rfl⟩) hm (by decide) rfl rfl rfl (Nat.le_of_ble_eq_true rfl) dX7_groupTold_101 ⟨Nat.zero_le _, Nat.zero_le _⟩) hS (fun v_138 I_132 R_133 J_134 AI_135 AJ_136 AR_137 H locs zv_138 hp_139 hH hS => ?_)
                      dsimp only at hp_139
                      obtain ⟨rfl, rfl, rfl, rfl, rfl, rfl, q_131⟩ := hp_139
                      have cvv_138 : v_138 = cF b nn nr nt cc h := q_131.trans ((mQ_c hQ rfl vlr_103.1 vlr_103.2.1).trans vlr_103.2.2)
                      refine g_calli (g_runV (As := [.int (iI v_138)]) (rest := []) (ci := 7) F hl.1 hH hS hz (c_X7_columnf l g gh T b nn nr nt cc 0 hc I_120 R J_121 AI_122 AJ AR mo v_138 zv_138 hv hm hT (by omega) h65 hbM hr7 (by omega) hn9 (by omega) hQ) (cwV 1 F.2.2.2.2.1 (good_up gT_X7_column) rfl rfl rfl hdX7_column ⟨Nat.le_of_ble_eq_true rfl, Nat.le_of_ble_eq_true rfl⟩) hm (by decide) rfl rfl rfl (Nat.le_of_ble_eq_true rfl) dX7_groupTold_104 ⟨Nat.zero_le _, Nat.zero_le _⟩) hS (fun v_146 I_140 R_141 J_142 AI_143 AJ_144 AR_145 H locs zv_146 hp_147 hH hS => ?_)
                      dsimp only at hp_147
                      rw [show v_138 = cF b nn nr nt cc h by omega] at hp_147
                      obtain ⟨r_148, er_148⟩ : ∃ qQ : pR, qQ = thn (0, hc, 0) (fun t _ => sCol b nn (cF b nn nr nt cc h) t) := ⟨_, rfl⟩
                      rw [← er_148] at hp_147
                      obtain ⟨rfl, rfl, rfl, rfl, hv, pfq, q_149, q_150, hQ, q_151⟩ := hp_147
                      have pf := qF_t pf pfq
                      have u_152_2 : (I_140 mo 2).toInt = (I mo 2).toInt := by rw [pf 2 (by decide) (by decide) (by decide) (by decide) (by decide)]
                      have u_152_5 : (I_140 mo 5).toInt = (I mo 5).toInt := by rw [pf 5 (by decide) (by decide) (by decide) (by decide) (by decide)]
                      have u_152_14 : (I_140 mo 14).toInt = (I mo 14).toInt := by rw [pf 14 (by decide) (by decide) (by decide) (by decide) (by decide)]
                      have u_152_16 : (I_140 mo 16).toInt = (I mo 16).toInt := by rw [pf 16 (by decide) (by decide) (by decide) (by decide) (by decide)]
                      have u_152_18 : (I_140 mo 18).toInt = (I mo 18).toInt := by rw [pf 18 (by decide) (by decide) (by decide) (by decide) (by decide)]
                      have er_148 : r_148 = sCol b nn (cF b nn nr nt cc h) hc := er_148
                      have sr_148 := er_148
                      rcases sCol_c er_148 with ⟨er_148, pr_148⟩ | ⟨er_148, pr_148⟩
                      · have hQ : mQ gh I_140 J_142 AI_122 AJ mo b nn nr nt cc 0 (hc + 1) := by rw [er_148] at hQ; exact hQ
                        have sr_148 : sCol b nn (cF b nn nr nt cc h) hc = (0, hc + 1, pV b nn hc) := sr_148.symm.trans er_148
                        have vlr_148 := q_151 (by rw [er_148])
                        try rw [er_148] at vlr_148
                        try dsimp only at vlr_148
                        have kq_150 := q_150 (mQ_0 hQ rfl)
                        replace q_150 := hid q_150
                        obtain ⟨f1, ef1⟩ : ∃ q, q = (I_140 mo 24).toInt := ⟨_, rfl⟩
                        have hc1 : Hid (f1 = 0 → 0 ≤ v_146 ∧ v_146 ≤ 3) := fun h9 => by omega
                        refine lv_istore (lv' := [(6, .int (iI v_146)), (5, .int (iI 0)), (4, .int (iI mr)), (3, .int (iI had)), (2, .int (iI n)), (1, .int (iI v_101)), (0, .ref mo)]) F.1 F.2.1 dX7_groupTold_107 hl (by decide) rfl (fun ls hl => ?_)
                        refine lv_aload_n F.1 F.2.1 dX7_groupTold_109 rfl (lv_at hl 6 rfl) ?_
                        refine g_getI (ci := 7) (k := 24) F hH rfl (by decide) iX7 hm (by decide) rfl k81 dX7_groupTold_110 ?_
                        have b_153 := mJ hv hm
                        unfold mNum1 at b_153
                        refine z_if_ne (tgt := 123) F dX7_groupTold_113 (by decide) (zr_t _) (fun c_154 => ?_) (fun c_154 => ?_)
                        · exact absurd (mQ_0 hQ rfl) (by omega)
                        · refine lv_iload_n F.1 F.2.1 dX7_groupTold_116 rfl (lv_at hl 3 rfl) ?_
                          refine z_iconst F dX7_groupTold_117 ?_
                          refine lv_iload F.1 F.2.1 dX7_groupTold_118 (lv_at hl 0 rfl) ?_
                          refine lv_ishl F.1 F.2.1 dX7_groupTold_120 ?_
                          refine z_top (fun v_155 zv_155 ev_155 => ?_)
                          refine lv_ior F.1 F.2.1 dX7_groupTold_121 ?_
                          refine z_top (fun v_156 zv_156 ev_156 => ?_)
                          have hcn : mGn v_156 (v_146 :: L) := mGn_s hcn (by omega) ev_155 ev_156
                          rw [show v_146 = pV b nn hc by omega] at hcn
                          refine lv_istore_n (lv' := [(3, .int (iI v_156)), (6, .int (iI v_146)), (5, .int (iI 0)), (4, .int (iI mr)), (2, .int (iI n)), (1, .int (iI v_101)), (0, .ref mo)]) F.1 F.2.1 dX7_groupTold_122 rfl hl (by decide) rfl (fun ls hl => ?_)
                          refine lv_aload_n F.1 F.2.1 dX7_groupTold_123 rfl (lv_at hl 6 rfl) ?_
                          refine lv_iload_n F.1 F.2.1 dX7_groupTold_124 rfl (lv_at hl 4 rfl) ?_
                          refine lv_iload F.1 F.2.1 dX7_groupTold_125 (lv_at hl 1 rfl) ?_
                          refine z_iconst F dX7_groupTold_127 ?_
                          refine z_iconst F dX7_groupTold_128 ?_
                          refine z_iconst F dX7_groupTold_129 ?_
                          refine g_callv (g_runV (As := [.int (iI n), .int (iI v_146), .int (iI 0), .int (iI 0), .int (iI 0)]) (rest := []) (ci := 7) F hl.1 hH hS hz (c_X7_setsPartg l g gh T M I_140 R J_142 AI_122 AJ AR mo n v_146 0 0 0 zn zv_146 ⟨by decide, by decide⟩ ⟨by decide, by decide⟩ ⟨by decide, by decide⟩ hv hm hT (by omega) (by omega) (by omega)) (cwV 5 F.2.2.2.2.1 (good_up gT_X7_setsPart) rfl rfl rfl hdX7_setsPart ⟨Nat.le_of_ble_eq_true rfl, Nat.le_of_ble_eq_true rfl⟩) hm (by decide) rfl rfl rfl (Nat.le_of_ble_eq_true rfl) dX7_groupTold_130 ⟨Nat.zero_le _, Nat.zero_le _⟩) hS (fun I_157 R_158 J_159 AI_160 AJ_161 AR_162 H locs hp_163 hH hS => ?_)
                          dsimp only at hp_163
                          obtain ⟨rfl, rfl, rfl, rfl, rfl, hv, hT, hsp, q_164⟩ := hp_163
                          replace hsp := hid hsp
                          have hQ : mQ gh I_140 J_142 AI_160 AJ mo b nn nr nt cc 0 (hc + 1) := mQ_a hQ (fun hf9 z9 h09 h19 => (hsp hf9).1 z9 h09 (Or.inl (by omega)))
                          have hct := rBy_mk (b := b) (n := nn) (hc := hc) (k := n) (by omega) (hsp (mQ_0 hQ rfl)) (by omega)
                          have hqa := rAll_s rBy_l hqa hil (by omega) (Int.le_refl 0) (hsp (mQ_0 hQ rfl)) (by omega) hct
                          have hfr := frM_p hfr (by omega) (hsp (mQ_0 hQ rfl))
                          refine z_iinc (lv' := [(2, .int (iI (n + 1))), (3, .int (iI v_156)), (6, .int (iI v_146)), (5, .int (iI 0)), (4, .int (iI mr)), (1, .int (iI v_101)), (0, .ref mo)]) F dX7_groupTold_133 hl (k := 4) rfl (by decide) rfl (fun ls hl => ?_)
                          refine lv_aload_n F.1 F.2.1 dX7_groupTold_136 rfl (lv_at hl 6 rfl) ?_
                          refine z_bipush F dX7_groupTold_137 (by decide) ?_
                          refine g_calli (g_runV (As := [.int (iI 44)]) (rest := []) (ci := 7) F hl.1 hH hS hz (c_X7_isSignf l g gh T b nn nr nt cc 0 (hc + 1) I_140 R J_142 AI_160 AJ AR mo 44 ⟨by decide, by decide⟩ hv hm hT h65 hbM hr7 (by omega) hn9 (by omega) (by omega) hQ) (cwV 1 F.2.2.2.2.1 (good_up gT_X7_isSign) rfl rfl rfl hdX7_isSign ⟨Nat.le_of_ble_eq_true rfl, Nat.le_of_ble_eq_true rfl⟩) hm (by decide) rfl rfl rfl (Nat.le_of_ble_eq_true rfl) dX7_groupTold_139 ⟨Nat.zero_le _, Nat.zero_le _⟩) hS (fun v_171 I_165 R_166 J_167 AI_168 AJ_169 AR_170 H locs zv_171 hp_172 hH hS => ?_)
                          dsimp only at hp_172
                          obtain ⟨rfl, rfl, rfl, rfl, rfl, rfl, q_173, q_174⟩ := hp_172
                          replace q_173 := q_173.1
                          refine lv_istore (lv' := [(4, .int (iI v_171)), (2, .int (iI (n + 1))), (3, .int (iI v_156)), (6, .int (iI v_146)), (5, .int (iI 0)), (1, .int (iI v_101)), (0, .ref mo)]) F.1 F.2.1 dX7_groupTold_142 hl (by decide) rfl (fun ls hl => ?_)
                          refine lv_iload F.1 F.2.1 dX7_groupTold_144 (lv_at hl 0 rfl) ?_
                          refine z_if_eq (tgt := 153) F dX7_groupTold_146 (by decide) zv_171 (fun c_175 => ?_) (fun c_175 => ?_)
                          · have t_176 := tIz_n q_174 (by omega)
                            have hTs : sBy b nn (cF b nn nr nt cc h) n L hc = (0, hc + 1, pV b nn hc) := absurd pr_148.2.1 (by omega)
                            have hp : Hid ((I_140 mo 24).toInt = 0 → (n + 1) ≤ 3 ∧ grpP (AI_160 (gh 53 0)) M (n + 1)) := ((fun hf => ⟨by omega, grpP_step (by omega) (hp (by omega)).2 (hsp (by omega)) (by omega)⟩))
                            have hS9 : sBys b nn (cF b nn nr nt cc h) 4 0 [] (h + 2) = (0, hc + 1, n + 1) := sBys_st hsq (f := (3 - n).toNat) (by omega) hTs.symm rfl (by omega)
                            have hcnt := iL_st hil (by omega) (sBy_h hTs.symm rfl).1 (spC_n (by omega))
                            refine z_goto (tgt := 18) F dX7_groupTold_153 (by decide) ?_
                            refine lv_iload F.1 F.2.1 dX7_groupTold_18 (lv_at hl 0 rfl) ?_
                            refine z_if_eq (tgt := 156) F dX7_groupTold_20 (by decide) zv_171 (fun c_177 => ?_) (fun c_177 => ?_)
                            · have t_178 := tIz_n q_174 (by omega)
                              obtain ⟨f3, ef3⟩ : ∃ q, q = (I_140 mo 24).toInt := ⟨_, rfl⟩
                              have cut_209_178 : ∀ (fo : Int) (H : Heap) (locs : List Loc) (ls : Array Slot), zr fo → (-1 ≤ fo ∧ fo ≤ 3) → (pFo fo (pK b nn (hc + 1)) (pV b nn (hc + 1))) → gH g I_140 R J_142 AI_160 AJ AR H → va_S (gA g) s.heap H locs → lv_has ls 7 [(4, .int (iI v_171)), (2, .int (iI (n + 1))), (3, .int (iI v_156)), (6, .int (iI v_146)), (5, .int (iI 0)), (1, .int (iI v_101)), (0, .ref mo)] → W p l e rmX7_groupToldg s m ([.ref mo] : List Value).toArray below meth c H locs 0 0 (MQ below (gQv g (fun w : gS => R = w.2.1 ∧ AJ = w.2.2.2.2.1 ∧ AR = w.2.2.2.2.2 ∧ (mInv g gh R (w.1) (w.2.2.2.1)) ∧ ((w.2.2.2.1) (gh 50 0) = T) ∧ (qF mo I (w.1)) ∧ (((w.1) mo 20).toInt ≤ 936 ∧ (I mo 24).toInt ≤ ((w.1) mo 24).toInt) ∧ (((w.1) mo 24).toInt = 0 → ((w.1) mo 21).toInt = 4 → ((w.1) mo 23).toInt = 59 → rowOK ((w.2.2.2.1) (gh 53 0)) M) ∧ (((w.1) mo 24).toInt = 0 → tI ((w.2.2.2.1) (gh 53 0)) (40 * M) = 7) ∧ (mQ gh (w.1) (w.2.2.1) (w.2.2.2.1) AJ mo b nn nr nt cc (thn (f, h, 0) (fun t _ => sGrp b nn nr nt cc t)).1 (thn (f, h, 0) (fun t _ => sGrp b nn nr nt cc t)).2.1) ∧ (pIc (thn (f, h, 0) (fun t _ => sGrp b nn nr nt cc t)).1 (pK b nn (thn (f, h, 0) (fun t _ => sGrp b nn nr nt cc t)).2.1) (tI ((w.2.2.2.1) (gh 53 0)) (40 * (nr : Int) + 1)) (thn (f, h, 0) (fun t _ => sGrp b nn nr nt cc t)).2.2) ∧ (zIf (thn (f, h, 0) (fun t _ => sGrp b nn nr nt cc t)).1 (frM M (AI (gh 53 0)) ((w.2.2.2.1) (gh 53 0)))) ∧ (zIf (thn (f, h, 0) (fun t _ => sGrp b nn nr nt cc t)).1 (mGrp b nn nr nt h ((w.2.2.2.1) (gh 53 0)) M)) ∧ (∀ b, b ≠ gh 53 0 → (w.2.2.2.1) b = AI b))) ([.ref mo] : List Value).toArray s 0 0 (gA g)) (F0 m 209 ls [.int (iI fo)]) := by
                                intro fo H locs ls zfo hfo hfo2 hH hS hl
                                refine lv_istore (lv' := [(5, .int (iI fo)), (4, .int (iI v_171)), (2, .int (iI (n + 1))), (3, .int (iI v_156)), (6, .int (iI v_146)), (1, .int (iI v_101)), (0, .ref mo)]) F.1 F.2.1 dX7_groupTold_209 hl (by decide) rfl (fun ls hl => ?_)
                                refine lv_iload F.1 F.2.1 dX7_groupTold_211 (lv_at hl 0 rfl) ?_
                                refine z_if_ge (tgt := 221) F dX7_groupTold_213 (by decide) zfo (fun c_180 => ?_) (fun c_180 => ?_)
                                · have yfo := pFo_y hfo2 (by omega)
                                  refine lv_aload_n F.1 F.2.1 dX7_groupTold_221 rfl (lv_at hl 6 rfl) ?_
                                  refine g_callv (g_runV (As := []) (rest := []) (ci := 7) F hl.1 hH hS hz (c_X7_nextf l g gh T b nn (tNd b nn (tPs b nn (hc + 1))) I_140 R J_142 AI_160 AJ AR mo hv hm hT (by omega) (mTp hv h65 hbM) hr7 (by omega) (by omega) (mQ_e0 hQ) tNd_le.1) (cwV 0 F.2.2.2.2.1 (good_up gT_X7_next) rfl rfl rfl hdX7_next ⟨Nat.le_of_ble_eq_true rfl, Nat.le_of_ble_eq_true rfl⟩) hm (by decide) rfl rfl rfl (Nat.le_of_ble_eq_true rfl) dX7_groupTold_222 ⟨Nat.zero_le _, Nat.zero_le _⟩) hS (fun I_181 R_182 J_183 AI_184 AJ_185 AR_186 H locs hp_187 hH hS => ?_)
                                  dsimp only at hp_187
                                  obtain ⟨rfl, rfl, rfl, rfl, hv, pfq, q_188, nx4, nxa, nxb⟩ := hp_187
                                  have pf := qF_t pf pfq
                                  have u_189_2 : (I_181 mo 2).toInt = (I mo 2).toInt := by rw [pf 2 (by decide) (by decide) (by decide) (by decide) (by decide)]
                                  have u_189_5 : (I_181 mo 5).toInt = (I mo 5).toInt := by rw [pf 5 (by decide) (by decide) (by decide) (by decide) (by decide)]
                                  have u_189_14 : (I_181 mo 14).toInt = (I mo 14).toInt := by rw [pf 14 (by decide) (by decide) (by decide) (by decide) (by decide)]
                                  have u_189_16 : (I_181 mo 16).toInt = (I mo 16).toInt := by rw [pf 16 (by decide) (by decide) (by decide) (by decide) (by decide)]
                                  have u_189_18 : (I_181 mo 18).toInt = (I mo 18).toInt := by rw [pf 18 (by decide) (by decide) (by decide) (by decide) (by decide)]
                                  have hQ : mQ gh I_181 J_183 AI_160 AJ mo b nn nr nt cc 0 (hc + 2) := mQ_nx hQ nx4 nxa
                                  clear nxa nxb
                                  refine lv_iload F.1 F.2.1 dX7_groupTold_225 (lv_at hl 0 rfl) ?_
                                  refine z_if_le (tgt := 242) F dX7_groupTold_227 (by decide) zfo (fun c_190 => ?_) (fun c_190 => ?_)
                                  · refine z_iconst F dX7_groupTold_242 ?_
                                    refine lv_istore (lv' := [(6, .int (iI 0)), (5, .int (iI fo)), (4, .int (iI v_171)), (2, .int (iI (n + 1))), (3, .int (iI v_156)), (1, .int (iI v_101)), (0, .ref mo)]) F.1 F.2.1 dX7_groupTold_243 hl (by decide) rfl (fun ls hl => ?_)
                                    refine lv_aload_n F.1 F.2.1 dX7_groupTold_245 rfl (lv_at hl 6 rfl) ?_
                                    refine lv_iload_n F.1 F.2.1 dX7_groupTold_246 rfl (lv_at hl 3 rfl) ?_
                                    refine lv_iload F.1 F.2.1 dX7_groupTold_247 (lv_at hl 0 rfl) ?_
                                    refine lv_iload F.1 F.2.1 dX7_groupTold_249 (lv_at hl 1 rfl) ?_
                                    refine z_iconst F dX7_groupTold_251 ?_
                                    refine z_iconst F dX7_groupTold_252 ?_
                                    have b_191 := mJ hv hm
                                    unfold mNum1 at b_191
                                    refine g_callv (g_runV (As := [.int (iI (n + 1)), .int (iI 0), .int (iI fo), .int (iI 0), .int (iI 0)]) (rest := []) (ci := 7) F hl.1 hH hS hz (c_X7_setsPartg l g gh T M I_181 R J_183 AI_160 AJ AR mo (n + 1) 0 fo 0 0 ⟨by omega, by omega⟩ ⟨by decide, by decide⟩ zfo ⟨by decide, by decide⟩ ⟨by decide, by decide⟩ hv hm hT (by omega) (by omega) (by omega)) (cwV 5 F.2.2.2.2.1 (good_up gT_X7_setsPart) rfl rfl rfl hdX7_setsPart ⟨Nat.le_of_ble_eq_true rfl, Nat.le_of_ble_eq_true rfl⟩) hm (by decide) rfl rfl rfl (Nat.le_of_ble_eq_true rfl) dX7_groupTold_253 ⟨Nat.zero_le _, Nat.zero_le _⟩) hS (fun I_192 R_193 J_194 AI_195 AJ_196 AR_197 H locs hp_198 hH hS => ?_)
                                    dsimp only at hp_198
                                    obtain ⟨rfl, rfl, rfl, rfl, rfl, hv, hT, hsp, q_199⟩ := hp_198
                                    replace hsp := hid hsp
                                    have hQ : mQ gh I_181 J_183 AI_195 AJ mo b nn nr nt cc 0 (hc + 2) := mQ_a hQ (fun hf9 z9 h09 h19 => (hsp hf9).1 z9 h09 (Or.inl (by omega)))
                                    have e99 : pV b nn (hc + 1 + 1) = pV b nn (hc + 2) := rfl
                                    have hft := mGrp_f (b := b) (n := nn) (hc := hc + 1) (hsp (mQ_0 hQ rfl)) hfo2 (by omega) (by omega)
                                    have hqa := rAll_p rBy_l (by omega) (Int.le_refl 0) (hsp (mQ_0 hQ rfl)) (by omega) hqa
                                    have hfr := frM_p hfr (by omega) (hsp (mQ_0 hQ rfl))
                                    refine lv_aload_n F.1 F.2.1 dX7_groupTold_256 rfl (lv_at hl 6 rfl) ?_
                                    refine z_bipush F dX7_groupTold_257 (by decide) ?_
                                    refine lv_iload_n F.1 F.2.1 dX7_groupTold_259 rfl (lv_at hl 3 rfl) ?_
                                    refine z_iconst F dX7_groupTold_260 ?_
                                    refine z_iadd F dX7_groupTold_261 ?_
                                    refine lv_iload_n F.1 F.2.1 dX7_groupTold_262 rfl (lv_at hl 5 rfl) ?_
                                    refine z_iconst F dX7_groupTold_263 ?_
                                    refine lv_iload_n F.1 F.2.1 dX7_groupTold_264 rfl (lv_at hl 3 rfl) ?_
                                    refine g_callv (g_runV (As := [.int (iI 7), .int (iI ((n + 1) + 1)), .int (iI v_101), .int (iI ((-1))), .int (iI (n + 1))]) (rest := []) (ci := 7) F hl.1 hH hS hz (c_X7_headerg l g gh T M I_181 R J_183 AI_195 AJ AR mo 7 ((n + 1) + 1) v_101 (-1) (n + 1) ⟨by decide, by decide⟩ ⟨by omega, by omega⟩ zv_101 ⟨by decide, by decide⟩ ⟨by omega, by omega⟩ hv hm hT (by omega) (by omega)) (cwV 5 F.2.2.2.2.1 (good_up gT_X7_header) rfl rfl rfl hdX7_header ⟨Nat.le_of_ble_eq_true rfl, Nat.le_of_ble_eq_true rfl⟩) hm (by decide) rfl rfl rfl (Nat.le_of_ble_eq_true rfl) dX7_groupTold_265 ⟨Nat.zero_le _, Nat.zero_le _⟩) hS (fun I_200 R_201 J_202 AI_203 AJ_204 AR_205 H locs hp_206 hH hS => ?_)
                                    dsimp only at hp_206
                                    obtain ⟨rfl, rfl, rfl, rfl, rfl, hv, hT, hhd, q_207⟩ := hp_206
                                    replace hhd := hid hhd
                                    have hQ : mQ gh I_181 J_183 AI_203 AJ mo b nn nr nt cc 0 (hc + 2) := mQ_a hQ (fun hf9 z9 h09 h19 => (hhd hf9).1 z9 h09 (Or.inl (by omega)))
                                    have hfr := frM_h hfr (hhd (mQ_0 hQ rfl))
                                    have hqa := rAll_h rBy_l (by omega) (Int.le_refl 0) (hhd (mQ_0 hQ rfl)) hqa
                                    have hft : mP (AI_203 (gh 53 0)) M (n + 1) 1 = _ ∧ mP (AI_203 (gh 53 0)) M (n + 1) 0 = _ := ⟨(hP_m (by omega) (by omega) (by decide) (hhd (mQ_0 hQ rfl))).trans hft.1, (hP_m (by omega) (by omega) (by decide) (hhd (mQ_0 hQ rfl))).trans hft.2⟩
                                    have hg9 : mP (AI_203 (gh 53 0)) M (n + 1) 1 = pV b nn (nxB (iPos nxB (h + 2) (iCnt nxB (spC b nn) 4 (h + 2) - 1))) - 16 ∧ mP (AI_203 (gh 53 0)) M (n + 1) 0 = (if pV b nn (nxB (iPos nxB (h + 2) (iCnt nxB (spC b nn) 4 (h + 2) - 1))) = 16 then 0 else pV b nn (nxB (iPos nxB (h + 2) (iCnt nxB (spC b nn) 4 (h + 2) - 1)) + 1)) := by rw [show iCnt nxB (spC b nn) 4 (h + 2) - 1 = n.toNat by omega, ← iL_p hil]; exact hft
                                    have hfin : thn (f, h, 0) (fun t _ => sGrp b nn nr nt cc t) = (0, hc + 2, n + 1 + 1) := (thn_k q0).trans (by show sGrp b nn nr nt cc h = _; unfold sGrp; exact thn_t sr_103 rfl (thn_t sr_117 rfl (thn_t hS9 rfl (sFo_0 (by omega) (by omega)))))
                                    exact g_vret F hr hlk hH hS hz ⟨rfl, rfl, rfl, hv, hT, pf, by first | (dsimp only; omega) | omega | rfl, by (try dsimp only); intro hf ht hn; have q9 := hp (by omega); exact row_mk (by omega) (hhd (by omega)) (by omega) (by omega) (by omega) (by omega) (fun h => absurd h (by omega)) (fun h => absurd h (by omega)) (fun h => absurd h (by omega)) (fun h => absurd h (by omega)) (fun h => absurd h (by omega)) (fun _ => ⟨by omega, grpP_step (by omega) q9.2 (hsp (by omega)) (by omega)⟩) (fun h => absurd h (by omega)), by (try dsimp only); intro hf; exact (hhd (by omega)).2.1, by (try dsimp only); rw [hfin]; exact hQ, by (try dsimp only); rw [hfin]; have q9 := (hhd (mQ_0 hQ rfl)).2.2.1; rw [show M = (nr : Int) by omega] at q9; (try dsimp only); exact pIc_y (by omega), by (try dsimp only); rw [hfin]; exact zIf_y (hfr), by (try dsimp only); rw [hfin]; exact zIf_y (⟨⟨(hhd (mQ_0 hQ rfl)).2.2.2.1.trans vfr_103, (hhd (mQ_0 hQ rfl)).2.2.2.2.1⟩, (hhd (mQ_0 hQ rfl)).2.2.2.2.2.trans (by omega), by rw [hcnt]; exact hqa, by rw [hcnt]; exact hg9.1, by rw [hcnt]; exact hg9.2⟩), fun b hb => (((q_207 b hb).trans (q_199 b hb)).trans (q_164 b hb)).trans (fA9 b hb)⟩ dX7_groupTold_268
                                  · refine lv_aload_n F.1 F.2.1 dX7_groupTold_230 rfl (lv_at hl 6 rfl) ?_
                                    refine lv_aload_n F.1 F.2.1 dX7_groupTold_231 rfl (lv_at hl 6 rfl) ?_
                                    refine lv_iload_n F.1 F.2.1 dX7_groupTold_232 rfl (lv_at hl 5 rfl) ?_
                                    have b_209 := mJ hv hm
                                    unfold mNum1 at b_209
                                    refine g_calli (g_runV (As := [.int (iI v_101)]) (rest := [.ref mo]) (ci := 7) F hl.1 hH hS hz (c_X7_columns l g gh T I_181 R J_183 AI_160 AJ AR mo v_101 zv_101 hv hm hT (by omega)) (cwV 1 F.2.2.2.2.1 (good_up gT_X7_columns) rfl rfl rfl hdX7_columns ⟨Nat.le_of_ble_eq_true rfl, Nat.le_of_ble_eq_true rfl⟩) hm (by decide) rfl rfl rfl (Nat.le_of_ble_eq_true rfl) dX7_groupTold_233 ⟨Nat.zero_le _, Nat.zero_le _⟩) hS (fun v_216 I_210 R_211 J_212 AI_213 AJ_214 AR_215 H locs zv_216 hp_217 hH hS => ?_)
                                    dsimp only at hp_217
                                    obtain ⟨rfl, rfl, rfl, rfl, rfl, rfl, q_208⟩ := hp_217
                                    have cvv_216 : v_216 = cF b nn nr nt cc h := q_208.trans ((mQ_c hQ rfl vlr_103.1 vlr_103.2.1).trans vlr_103.2.2)
                                    refine g_calli (g_runV (As := [.int (iI v_216)]) (rest := []) (ci := 7) F hl.1 hH hS hz (c_X7_columnf l g gh T b nn nr nt cc 0 (hc + 2) I_181 R J_183 AI_160 AJ AR mo v_216 zv_216 hv hm hT (by omega) h65 hbM hr7 (by omega) hn9 (by omega) hQ) (cwV 1 F.2.2.2.2.1 (good_up gT_X7_column) rfl rfl rfl hdX7_column ⟨Nat.le_of_ble_eq_true rfl, Nat.le_of_ble_eq_true rfl⟩) hm (by decide) rfl rfl rfl (Nat.le_of_ble_eq_true rfl) dX7_groupTold_236 ⟨Nat.zero_le _, Nat.zero_le _⟩) hS (fun v_224 I_218 R_219 J_220 AI_221 AJ_222 AR_223 H locs zv_224 hp_225 hH hS => ?_)
                                    dsimp only at hp_225
                                    rw [show v_216 = cF b nn nr nt cc h by omega] at hp_225
                                    obtain ⟨r_226, er_226⟩ : ∃ qQ : pR, qQ = thn (0, (hc + 2), 0) (fun t _ => sCol b nn (cF b nn nr nt cc h) t) := ⟨_, rfl⟩
                                    rw [← er_226] at hp_225
                                    obtain ⟨rfl, rfl, rfl, rfl, hv, pfq, q_227, q_228, hQ, q_229⟩ := hp_225
                                    have pf := qF_t pf pfq
                                    have u_230_2 : (I_218 mo 2).toInt = (I mo 2).toInt := by rw [pf 2 (by decide) (by decide) (by decide) (by decide) (by decide)]
                                    have u_230_5 : (I_218 mo 5).toInt = (I mo 5).toInt := by rw [pf 5 (by decide) (by decide) (by decide) (by decide) (by decide)]
                                    have u_230_14 : (I_218 mo 14).toInt = (I mo 14).toInt := by rw [pf 14 (by decide) (by decide) (by decide) (by decide) (by decide)]
                                    have u_230_16 : (I_218 mo 16).toInt = (I mo 16).toInt := by rw [pf 16 (by decide) (by decide) (by decide) (by decide) (by decide)]
                                    have u_230_18 : (I_218 mo 18).toInt = (I mo 18).toInt := by rw [pf 18 (by decide) (by decide) (by decide) (by decide) (by decide)]
                                    have er_226 : r_226 = sCol b nn (cF b nn nr nt cc h) (hc + 2) := er_226
                                    have sr_226 := er_226
                                    rcases sCol_c er_226 with ⟨er_226, pr_226⟩ | ⟨er_226, pr_226⟩
                                    · have hQ : mQ gh I_218 J_220 AI_160 AJ mo b nn nr nt cc 0 (hc + 3) := by rw [er_226] at hQ; exact hQ
                                      have sr_226 : sCol b nn (cF b nn nr nt cc h) (hc + 2) = (0, hc + 3, pV b nn (hc + 2)) := sr_226.symm.trans er_226
                                      have vlr_226 := q_229 (by rw [er_226])
                                      try rw [er_226] at vlr_226
                                      try dsimp only at vlr_226
                                      have kq_228 := q_228 (mQ_0 hQ rfl)
                                      replace q_228 := hid q_228
                                      refine z_goto (tgt := 243) F dX7_groupTold_239 (by decide) ?_
                                      refine lv_istore (lv' := [(6, .int (iI v_224)), (5, .int (iI fo)), (4, .int (iI v_171)), (2, .int (iI (n + 1))), (3, .int (iI v_156)), (1, .int (iI v_101)), (0, .ref mo)]) F.1 F.2.1 dX7_groupTold_243 hl (by decide) rfl (fun ls hl => ?_)
                                      refine lv_aload_n F.1 F.2.1 dX7_groupTold_245 rfl (lv_at hl 6 rfl) ?_
                                      refine lv_iload_n F.1 F.2.1 dX7_groupTold_246 rfl (lv_at hl 3 rfl) ?_
                                      refine lv_iload F.1 F.2.1 dX7_groupTold_247 (lv_at hl 0 rfl) ?_
                                      refine lv_iload F.1 F.2.1 dX7_groupTold_249 (lv_at hl 1 rfl) ?_
                                      refine z_iconst F dX7_groupTold_251 ?_
                                      refine z_iconst F dX7_groupTold_252 ?_
                                      have b_231 := mJ hv hm
                                      unfold mNum1 at b_231
                                      refine g_callv (g_runV (As := [.int (iI (n + 1)), .int (iI v_224), .int (iI fo), .int (iI 0), .int (iI 0)]) (rest := []) (ci := 7) F hl.1 hH hS hz (c_X7_setsPartg l g gh T M I_218 R J_220 AI_160 AJ AR mo (n + 1) v_224 fo 0 0 ⟨by omega, by omega⟩ zv_224 zfo ⟨by decide, by decide⟩ ⟨by decide, by decide⟩ hv hm hT (by omega) (by omega) (by omega)) (cwV 5 F.2.2.2.2.1 (good_up gT_X7_setsPart) rfl rfl rfl hdX7_setsPart ⟨Nat.le_of_ble_eq_true rfl, Nat.le_of_ble_eq_true rfl⟩) hm (by decide) rfl rfl rfl (Nat.le_of_ble_eq_true rfl) dX7_groupTold_253 ⟨Nat.zero_le _, Nat.zero_le _⟩) hS (fun I_232 R_233 J_234 AI_235 AJ_236 AR_237 H locs hp_238 hH hS => ?_)
                                      dsimp only at hp_238
                                      obtain ⟨rfl, rfl, rfl, rfl, rfl, hv, hT, hsp, q_239⟩ := hp_238
                                      replace hsp := hid hsp
                                      have hQ : mQ gh I_218 J_220 AI_235 AJ mo b nn nr nt cc 0 (hc + 3) := mQ_a hQ (fun hf9 z9 h09 h19 => (hsp hf9).1 z9 h09 (Or.inl (by omega)))
                                      have e99 : pV b nn (hc + 1 + 1) = pV b nn (hc + 2) := rfl
                                      have hft := mGrp_f (b := b) (n := nn) (hc := hc + 1) (hsp (mQ_0 hQ rfl)) hfo2 (by omega) (by omega)
                                      have hqa := rAll_p rBy_l (by omega) (Int.le_refl 0) (hsp (mQ_0 hQ rfl)) (by omega) hqa
                                      have hfr := frM_p hfr (by omega) (hsp (mQ_0 hQ rfl))
                                      refine lv_aload_n F.1 F.2.1 dX7_groupTold_256 rfl (lv_at hl 6 rfl) ?_
                                      refine z_bipush F dX7_groupTold_257 (by decide) ?_
                                      refine lv_iload_n F.1 F.2.1 dX7_groupTold_259 rfl (lv_at hl 3 rfl) ?_
                                      refine z_iconst F dX7_groupTold_260 ?_
                                      refine z_iadd F dX7_groupTold_261 ?_
                                      refine lv_iload_n F.1 F.2.1 dX7_groupTold_262 rfl (lv_at hl 5 rfl) ?_
                                      refine z_iconst F dX7_groupTold_263 ?_
                                      refine lv_iload_n F.1 F.2.1 dX7_groupTold_264 rfl (lv_at hl 3 rfl) ?_
                                      refine g_callv (g_runV (As := [.int (iI 7), .int (iI ((n + 1) + 1)), .int (iI v_101), .int (iI ((-1))), .int (iI (n + 1))]) (rest := []) (ci := 7) F hl.1 hH hS hz (c_X7_headerg l g gh T M I_218 R J_220 AI_235 AJ AR mo 7 ((n + 1) + 1) v_101 (-1) (n + 1) ⟨by decide, by decide⟩ ⟨by omega, by omega⟩ zv_101 ⟨by decide, by decide⟩ ⟨by omega, by omega⟩ hv hm hT (by omega) (by omega)) (cwV 5 F.2.2.2.2.1 (good_up gT_X7_header) rfl rfl rfl hdX7_header ⟨Nat.le_of_ble_eq_true rfl, Nat.le_of_ble_eq_true rfl⟩) hm (by decide) rfl rfl rfl (Nat.le_of_ble_eq_true rfl) dX7_groupTold_265 ⟨Nat.zero_le _, Nat.zero_le _⟩) hS (fun I_240 R_241 J_242 AI_243 AJ_244 AR_245 H locs hp_246 hH hS => ?_)
                                      dsimp only at hp_246
                                      obtain ⟨rfl, rfl, rfl, rfl, rfl, hv, hT, hhd, q_247⟩ := hp_246
                                      replace hhd := hid hhd
                                      have hQ : mQ gh I_218 J_220 AI_243 AJ mo b nn nr nt cc 0 (hc + 3) := mQ_a hQ (fun hf9 z9 h09 h19 => (hhd hf9).1 z9 h09 (Or.inl (by omega)))
                                      have hfr := frM_h hfr (hhd (mQ_0 hQ rfl))
                                      have hqa := rAll_h rBy_l (by omega) (Int.le_refl 0) (hhd (mQ_0 hQ rfl)) hqa
                                      have hft : mP (AI_243 (gh 53 0)) M (n + 1) 1 = _ ∧ mP (AI_243 (gh 53 0)) M (n + 1) 0 = _ := ⟨(hP_m (by omega) (by omega) (by decide) (hhd (mQ_0 hQ rfl))).trans hft.1, (hP_m (by omega) (by omega) (by decide) (hhd (mQ_0 hQ rfl))).trans hft.2⟩
                                      have hg9 : mP (AI_243 (gh 53 0)) M (n + 1) 1 = pV b nn (nxB (iPos nxB (h + 2) (iCnt nxB (spC b nn) 4 (h + 2) - 1))) - 16 ∧ mP (AI_243 (gh 53 0)) M (n + 1) 0 = (if pV b nn (nxB (iPos nxB (h + 2) (iCnt nxB (spC b nn) 4 (h + 2) - 1))) = 16 then 0 else pV b nn (nxB (iPos nxB (h + 2) (iCnt nxB (spC b nn) 4 (h + 2) - 1)) + 1)) := by rw [show iCnt nxB (spC b nn) 4 (h + 2) - 1 = n.toNat by omega, ← iL_p hil]; exact hft
                                      have hfin : thn (f, h, 0) (fun t _ => sGrp b nn nr nt cc t) = (0, hc + 3, n + 1 + 1) := (thn_k q0).trans (by show sGrp b nn nr nt cc h = _; unfold sGrp; exact thn_t sr_103 rfl (thn_t sr_117 rfl (thn_t hS9 rfl (sFo_c (by omega) (by omega) pr_226.1))))
                                      exact g_vret F hr hlk hH hS hz ⟨rfl, rfl, rfl, hv, hT, pf, by first | (dsimp only; omega) | omega | rfl, by (try dsimp only); intro hf ht hn; have q9 := hp (by omega); exact row_mk (by omega) (hhd (by omega)) (by omega) (by omega) (by omega) (by omega) (fun h => absurd h (by omega)) (fun h => absurd h (by omega)) (fun h => absurd h (by omega)) (fun h => absurd h (by omega)) (fun h => absurd h (by omega)) (fun _ => ⟨by omega, grpP_step (by omega) q9.2 (hsp (by omega)) (by omega)⟩) (fun h => absurd h (by omega)), by (try dsimp only); intro hf; exact (hhd (by omega)).2.1, by (try dsimp only); rw [hfin]; exact hQ, by (try dsimp only); rw [hfin]; have q9 := (hhd (mQ_0 hQ rfl)).2.2.1; rw [show M = (nr : Int) by omega] at q9; (try dsimp only); exact pIc_y (by omega), by (try dsimp only); rw [hfin]; exact zIf_y (hfr), by (try dsimp only); rw [hfin]; exact zIf_y (⟨⟨(hhd (mQ_0 hQ rfl)).2.2.2.1.trans vfr_103, (hhd (mQ_0 hQ rfl)).2.2.2.2.1⟩, (hhd (mQ_0 hQ rfl)).2.2.2.2.2.trans (by omega), by rw [hcnt]; exact hqa, by rw [hcnt]; exact hg9.1, by rw [hcnt]; exact hg9.2⟩), fun b hb => (((q_247 b hb).trans (q_239 b hb)).trans (q_164 b hb)).trans (fA9 b hb)⟩ dX7_groupTold_268
                                    · have hQ : mQ gh I_218 J_220 AI_160 AJ mo b nn nr nt cc (pCf b nn (cF b nn nr nt cc h) (hc + 2)) (hc + 2) := by rw [er_226] at hQ; exact hQ
                                      have sr_226 := sr_226.symm.trans er_226
                                      have g9r_226 := mQ_f hQ (by omega)
                                      replace q_228 := hid q_228
                                      refine z_goto (tgt := 243) F dX7_groupTold_239 (by decide) ?_
                                      refine lv_istore (lv' := [(6, .int (iI v_224)), (5, .int (iI fo)), (4, .int (iI v_171)), (2, .int (iI (n + 1))), (3, .int (iI v_156)), (1, .int (iI v_101)), (0, .ref mo)]) F.1 F.2.1 dX7_groupTold_243 hl (by decide) rfl (fun ls hl => ?_)
                                      refine lv_aload_n F.1 F.2.1 dX7_groupTold_245 rfl (lv_at hl 6 rfl) ?_
                                      refine lv_iload_n F.1 F.2.1 dX7_groupTold_246 rfl (lv_at hl 3 rfl) ?_
                                      refine lv_iload F.1 F.2.1 dX7_groupTold_247 (lv_at hl 0 rfl) ?_
                                      refine lv_iload F.1 F.2.1 dX7_groupTold_249 (lv_at hl 1 rfl) ?_
                                      refine z_iconst F dX7_groupTold_251 ?_
                                      refine z_iconst F dX7_groupTold_252 ?_
                                      have b_248 := mJ hv hm
                                      unfold mNum1 at b_248
                                      refine g_callv (g_runV (As := [.int (iI (n + 1)), .int (iI v_224), .int (iI fo), .int (iI 0), .int (iI 0)]) (rest := []) (ci := 7) F hl.1 hH hS hz (c_X7_setsPartg l g gh T M I_218 R J_220 AI_160 AJ AR mo (n + 1) v_224 fo 0 0 ⟨by omega, by omega⟩ zv_224 zfo ⟨by decide, by decide⟩ ⟨by decide, by decide⟩ hv hm hT (by omega) (by omega) (by omega)) (cwV 5 F.2.2.2.2.1 (good_up gT_X7_setsPart) rfl rfl rfl hdX7_setsPart ⟨Nat.le_of_ble_eq_true rfl, Nat.le_of_ble_eq_true rfl⟩) hm (by decide) rfl rfl rfl (Nat.le_of_ble_eq_true rfl) dX7_groupTold_253 ⟨Nat.zero_le _, Nat.zero_le _⟩) hS (fun I_249 R_250 J_251 AI_252 AJ_253 AR_254 H locs hp_255 hH hS => ?_)
                                      dsimp only at hp_255
                                      obtain ⟨rfl, rfl, rfl, rfl, rfl, hv, hT, hsp, q_256⟩ := hp_255
                                      replace hsp := hid hsp
                                      have hQ : mQ gh I_218 J_220 AI_252 AJ mo b nn nr nt cc (pCf b nn (cF b nn nr nt cc h) (hc + 2)) (hc + 2) := mQ_bad hQ (by omega) rfl
                                      refine lv_aload_n F.1 F.2.1 dX7_groupTold_256 rfl (lv_at hl 6 rfl) ?_
                                      refine z_bipush F dX7_groupTold_257 (by decide) ?_
                                      refine lv_iload_n F.1 F.2.1 dX7_groupTold_259 rfl (lv_at hl 3 rfl) ?_
                                      refine z_iconst F dX7_groupTold_260 ?_
                                      refine z_iadd F dX7_groupTold_261 ?_
                                      refine lv_iload_n F.1 F.2.1 dX7_groupTold_262 rfl (lv_at hl 5 rfl) ?_
                                      refine z_iconst F dX7_groupTold_263 ?_
                                      refine lv_iload_n F.1 F.2.1 dX7_groupTold_264 rfl (lv_at hl 3 rfl) ?_
                                      refine g_callv (g_runV (As := [.int (iI 7), .int (iI ((n + 1) + 1)), .int (iI v_101), .int (iI ((-1))), .int (iI (n + 1))]) (rest := []) (ci := 7) F hl.1 hH hS hz (c_X7_headerg l g gh T M I_218 R J_220 AI_252 AJ AR mo 7 ((n + 1) + 1) v_101 (-1) (n + 1) ⟨by decide, by decide⟩ ⟨by omega, by omega⟩ zv_101 ⟨by decide, by decide⟩ ⟨by omega, by omega⟩ hv hm hT (by omega) (by omega)) (cwV 5 F.2.2.2.2.1 (good_up gT_X7_header) rfl rfl rfl hdX7_header ⟨Nat.le_of_ble_eq_true rfl, Nat.le_of_ble_eq_true rfl⟩) hm (by decide) rfl rfl rfl (Nat.le_of_ble_eq_true rfl) dX7_groupTold_265 ⟨Nat.zero_le _, Nat.zero_le _⟩) hS (fun I_257 R_258 J_259 AI_260 AJ_261 AR_262 H locs hp_263 hH hS => ?_)
                                      dsimp only at hp_263
                                      obtain ⟨rfl, rfl, rfl, rfl, rfl, hv, hT, hhd, q_264⟩ := hp_263
                                      replace hhd := hid hhd
                                      have hQ : mQ gh I_218 J_220 AI_260 AJ mo b nn nr nt cc (pCf b nn (cF b nn nr nt cc h) (hc + 2)) (hc + 2) := mQ_bad hQ (by omega) rfl
                                      have hfin : thn (f, h, 0) (fun t _ => sGrp b nn nr nt cc t) = (pCf b nn (cF b nn nr nt cc h) (hc + 2), hc + 2, 0) := (thn_k q0).trans (by show sGrp b nn nr nt cc h = _; unfold sGrp; exact thn_t sr_103 rfl (thn_t sr_117 rfl (thn_t hS9 rfl (sFo_v (by omega) (by omega) pr_226.1))))
                                      exact g_vret F hr hlk hH hS hz ⟨rfl, rfl, rfl, hv, hT, pf, by first | (dsimp only; omega) | omega | rfl, by (try dsimp only); exact (fun hf => absurd hf (by omega)), by (try dsimp only); exact (fun hf => absurd hf (by omega)), by (try dsimp only); rw [hfin]; exact hQ, by (try dsimp only); rw [hfin]; exact pIc_n (by omega), by (try dsimp only); rw [hfin]; exact zIf_n (by omega), by (try dsimp only); rw [hfin]; exact zIf_n (by omega), fun b hb => (((q_264 b hb).trans (q_256 b hb)).trans (q_164 b hb)).trans (fA9 b hb)⟩ dX7_groupTold_268
                                · have nfo := pFo_n hfo2 (by omega)
                                  refine lv_aload_n F.1 F.2.1 dX7_groupTold_216 rfl (lv_at hl 6 rfl) ?_
                                  refine z_iconst F dX7_groupTold_217 ?_
                                  refine g_callv (g_runV (As := [.int (iI 1)]) (rest := []) (ci := 7) F hl.1 hH hS hz (c_X7_wrongf l g gh T b nn nr nt cc 0 (hc + 1) I_140 R J_142 AI_160 AJ AR mo 1 ⟨by decide, by decide⟩ hv hm hT (by omega) h65 hbM hr7 (by omega) hn9 (by omega) hQ) (cwV 1 F.2.2.2.2.1 (good_up gT_X7_wrong) rfl rfl rfl hdX7_wrong ⟨Nat.le_of_ble_eq_true rfl, Nat.le_of_ble_eq_true rfl⟩) hm (by decide) rfl rfl rfl (Nat.le_of_ble_eq_true rfl) dX7_groupTold_218 ⟨Nat.zero_le _, Nat.zero_le _⟩) hS (fun I_265 R_266 J_267 AI_268 AJ_269 AR_270 H locs hp_271 hH hS => ?_)
                                  dsimp only at hp_271
                                  obtain ⟨r_272, er_272⟩ : ∃ qQ : pR, qQ = thn (0, (hc + 1), 0) (fun t _ => (1, t, 0)) := ⟨_, rfl⟩
                                  rw [← er_272] at hp_271
                                  obtain ⟨rfl, rfl, rfl, rfl, rfl, hv, pfq, q_273, hQ⟩ := hp_271
                                  have pf := qF_t pf pfq
                                  have u_274_2 : (I_265 mo 2).toInt = (I mo 2).toInt := by rw [pf 2 (by decide) (by decide) (by decide) (by decide) (by decide)]
                                  have u_274_5 : (I_265 mo 5).toInt = (I mo 5).toInt := by rw [pf 5 (by decide) (by decide) (by decide) (by decide) (by decide)]
                                  have u_274_14 : (I_265 mo 14).toInt = (I mo 14).toInt := by rw [pf 14 (by decide) (by decide) (by decide) (by decide) (by decide)]
                                  have u_274_16 : (I_265 mo 16).toInt = (I mo 16).toInt := by rw [pf 16 (by decide) (by decide) (by decide) (by decide) (by decide)]
                                  have u_274_18 : (I_265 mo 18).toInt = (I mo 18).toInt := by rw [pf 18 (by decide) (by decide) (by decide) (by decide) (by decide)]
                                  have er_272 : r_272 = (1, (hc + 1), 0) := er_272
                                  have hQ : mQ gh I_265 J_142 AI_160 AJ mo b nn nr nt cc 1 (hc + 1) := by rw [er_272] at hQ; exact hQ
                                  have q9_r_272 : (1 : Int) ≠ 0 := by omega
                                  have g9_r_272 := mQ_f hQ q9_r_272
                                  refine lv_aload_n F.1 F.2.1 dX7_groupTold_221 rfl (lv_at hl 6 rfl) ?_
                                  have b_275 := mJ hv hm
                                  unfold mNum1 at b_275
                                  refine g_callv (g_runV (As := []) (rest := []) (ci := 7) F hl.1 hH hS hz (c_X7_nextf l g gh T b nn (tNd b nn (tPs b nn (hc + 1))) I_265 R J_142 AI_160 AJ AR mo hv hm hT (by omega) (mTp hv h65 hbM) hr7 (by omega) (by omega) (mQ_e0 hQ) tNd_le.1) (cwV 0 F.2.2.2.2.1 (good_up gT_X7_next) rfl rfl rfl hdX7_next ⟨Nat.le_of_ble_eq_true rfl, Nat.le_of_ble_eq_true rfl⟩) hm (by decide) rfl rfl rfl (Nat.le_of_ble_eq_true rfl) dX7_groupTold_222 ⟨Nat.zero_le _, Nat.zero_le _⟩) hS (fun I_276 R_277 J_278 AI_279 AJ_280 AR_281 H locs hp_282 hH hS => ?_)
                                  dsimp only at hp_282
                                  obtain ⟨rfl, rfl, rfl, rfl, hv, pfq, q_283, nx4, nxa, nxb⟩ := hp_282
                                  have pf := qF_t pf pfq
                                  have u_284_2 : (I_276 mo 2).toInt = (I mo 2).toInt := by rw [pf 2 (by decide) (by decide) (by decide) (by decide) (by decide)]
                                  have u_284_5 : (I_276 mo 5).toInt = (I mo 5).toInt := by rw [pf 5 (by decide) (by decide) (by decide) (by decide) (by decide)]
                                  have u_284_14 : (I_276 mo 14).toInt = (I mo 14).toInt := by rw [pf 14 (by decide) (by decide) (by decide) (by decide) (by decide)]
                                  have u_284_16 : (I_276 mo 16).toInt = (I mo 16).toInt := by rw [pf 16 (by decide) (by decide) (by decide) (by decide) (by decide)]
                                  have u_284_18 : (I_276 mo 18).toInt = (I mo 18).toInt := by rw [pf 18 (by decide) (by decide) (by decide) (by decide) (by decide)]
                                  have hQ : mQ gh I_276 J_278 AI_160 AJ mo b nn nr nt cc 1 (hc + 1) := by have q9 := mQ_nx hQ nx4 nxa; rw [thn_b (by omega)] at q9; exact q9
                                  clear nxa nxb
                                  refine lv_iload F.1 F.2.1 dX7_groupTold_225 (lv_at hl 0 rfl) ?_
                                  refine z_if_le (tgt := 242) F dX7_groupTold_227 (by decide) zfo (fun c_285 => ?_) (fun c_285 => ?_)
                                  · have nfo := pFo_n hfo2 (by omega)
                                    refine z_iconst F dX7_groupTold_242 ?_
                                    refine lv_istore (lv' := [(6, .int (iI 0)), (5, .int (iI fo)), (4, .int (iI v_171)), (2, .int (iI (n + 1))), (3, .int (iI v_156)), (1, .int (iI v_101)), (0, .ref mo)]) F.1 F.2.1 dX7_groupTold_243 hl (by decide) rfl (fun ls hl => ?_)
                                    refine lv_aload_n F.1 F.2.1 dX7_groupTold_245 rfl (lv_at hl 6 rfl) ?_
                                    refine lv_iload_n F.1 F.2.1 dX7_groupTold_246 rfl (lv_at hl 3 rfl) ?_
                                    refine lv_iload F.1 F.2.1 dX7_groupTold_247 (lv_at hl 0 rfl) ?_
                                    refine lv_iload F.1 F.2.1 dX7_groupTold_249 (lv_at hl 1 rfl) ?_
                                    refine z_iconst F dX7_groupTold_251 ?_
                                    refine z_iconst F dX7_groupTold_252 ?_
                                    have b_286 := mJ hv hm
                                    unfold mNum1 at b_286
                                    refine g_callv (g_runV (As := [.int (iI (n + 1)), .int (iI 0), .int (iI fo), .int (iI 0), .int (iI 0)]) (rest := []) (ci := 7) F hl.1 hH hS hz (c_X7_setsPartg l g gh T M I_276 R J_278 AI_160 AJ AR mo (n + 1) 0 fo 0 0 ⟨by omega, by omega⟩ ⟨by decide, by decide⟩ zfo ⟨by decide, by decide⟩ ⟨by decide, by decide⟩ hv hm hT (by omega) (by omega) (by omega)) (cwV 5 F.2.2.2.2.1 (good_up gT_X7_setsPart) rfl rfl rfl hdX7_setsPart ⟨Nat.le_of_ble_eq_true rfl, Nat.le_of_ble_eq_true rfl⟩) hm (by decide) rfl rfl rfl (Nat.le_of_ble_eq_true rfl) dX7_groupTold_253 ⟨Nat.zero_le _, Nat.zero_le _⟩) hS (fun I_287 R_288 J_289 AI_290 AJ_291 AR_292 H locs hp_293 hH hS => ?_)
                                    dsimp only at hp_293
                                    obtain ⟨rfl, rfl, rfl, rfl, rfl, hv, hT, hsp, q_294⟩ := hp_293
                                    replace hsp := hid hsp
                                    have hQ : mQ gh I_276 J_278 AI_290 AJ mo b nn nr nt cc 1 (hc + 1) := mQ_bad hQ (by omega) rfl
                                    refine lv_aload_n F.1 F.2.1 dX7_groupTold_256 rfl (lv_at hl 6 rfl) ?_
                                    refine z_bipush F dX7_groupTold_257 (by decide) ?_
                                    refine lv_iload_n F.1 F.2.1 dX7_groupTold_259 rfl (lv_at hl 3 rfl) ?_
                                    refine z_iconst F dX7_groupTold_260 ?_
                                    refine z_iadd F dX7_groupTold_261 ?_
                                    refine lv_iload_n F.1 F.2.1 dX7_groupTold_262 rfl (lv_at hl 5 rfl) ?_
                                    refine z_iconst F dX7_groupTold_263 ?_
                                    refine lv_iload_n F.1 F.2.1 dX7_groupTold_264 rfl (lv_at hl 3 rfl) ?_
                                    refine g_callv (g_runV (As := [.int (iI 7), .int (iI ((n + 1) + 1)), .int (iI v_101), .int (iI ((-1))), .int (iI (n + 1))]) (rest := []) (ci := 7) F hl.1 hH hS hz (c_X7_headerg l g gh T M I_276 R J_278 AI_290 AJ AR mo 7 ((n + 1) + 1) v_101 (-1) (n + 1) ⟨by decide, by decide⟩ ⟨by omega, by omega⟩ zv_101 ⟨by decide, by decide⟩ ⟨by omega, by omega⟩ hv hm hT (by omega) (by omega)) (cwV 5 F.2.2.2.2.1 (good_up gT_X7_header) rfl rfl rfl hdX7_header ⟨Nat.le_of_ble_eq_true rfl, Nat.le_of_ble_eq_true rfl⟩) hm (by decide) rfl rfl rfl (Nat.le_of_ble_eq_true rfl) dX7_groupTold_265 ⟨Nat.zero_le _, Nat.zero_le _⟩) hS (fun I_295 R_296 J_297 AI_298 AJ_299 AR_300 H locs hp_301 hH hS => ?_)
                                    dsimp only at hp_301
                                    obtain ⟨rfl, rfl, rfl, rfl, rfl, hv, hT, hhd, q_302⟩ := hp_301
                                    replace hhd := hid hhd
                                    have hQ : mQ gh I_276 J_278 AI_298 AJ mo b nn nr nt cc 1 (hc + 1) := mQ_bad hQ (by omega) rfl
                                    have hfin : thn (f, h, 0) (fun t _ => sGrp b nn nr nt cc t) = (1, hc + 1, 0) := (thn_k q0).trans (by show sGrp b nn nr nt cc h = _; unfold sGrp; exact thn_t sr_103 rfl (thn_t sr_117 rfl (thn_t hS9 rfl (sFo_n nfo))))
                                    exact g_vret F hr hlk hH hS hz ⟨rfl, rfl, rfl, hv, hT, pf, by first | (dsimp only; omega) | omega | rfl, by (try dsimp only); exact (fun hf => absurd hf (by omega)), by (try dsimp only); exact (fun hf => absurd hf (by omega)), by (try dsimp only); rw [hfin]; exact hQ, by (try dsimp only); rw [hfin]; exact pIc_n (by omega), by (try dsimp only); rw [hfin]; exact zIf_n (by omega), by (try dsimp only); rw [hfin]; exact zIf_n (by omega), fun b hb => (((q_302 b hb).trans (q_294 b hb)).trans (q_164 b hb)).trans (fA9 b hb)⟩ dX7_groupTold_268
                                  · exact absurd trivial (by omega)
                              refine lv_aload_n F.1 F.2.1 dX7_groupTold_156 rfl (lv_at hl 6 rfl) ?_
                              refine va_ldcS F.1 F.2.1 F.2.2.2.1 (F.2.2.2.2.2.2.1 20 _ rfl).1 dX7_groupTold_157 ?_
                              refine g_calli (g_runV (As := [.ref (gSK g 20)]) (rest := []) (ci := 7) F hl.1 hH hS hz (c_X7_isWordf l g gh T 20 _ 16 b nn nr nt cc 0 (hc + 1) I_140 R J_142 AI_160 AJ AR mo hv hm hT (rfl : sTab[20]? = some _) (by decide) (by decide +kernel) h65 hbM hr7 (by omega) hn9 (by omega) hQ) (cwV 1 F.2.2.2.2.1 (good_up gT_X7_isWord) rfl rfl rfl hdX7_isWord ⟨Nat.le_of_ble_eq_true rfl, Nat.le_of_ble_eq_true rfl⟩) hm (by decide) rfl rfl rfl (Nat.le_of_ble_eq_true rfl) dX7_groupTold_159 ⟨Nat.zero_le _, Nat.zero_le _⟩) hS (fun v_309 I_303 R_304 J_305 AI_306 AJ_307 AR_308 H locs zv_309 hp_310 hH hS => ?_)
                              dsimp only at hp_310
                              obtain ⟨rfl, rfl, rfl, rfl, rfl, rfl, q_311, q_312⟩ := hp_310
                              refine z_if_eq (tgt := 169) F dX7_groupTold_162 (by decide) zv_309 (fun c_313 => ?_) (fun c_313 => ?_)
                              · have t_314 := tIz_n q_312 (by omega)
                                refine lv_aload_n F.1 F.2.1 dX7_groupTold_169 rfl (lv_at hl 6 rfl) ?_
                                refine va_ldcS F.1 F.2.1 F.2.2.2.1 (F.2.2.2.2.2.2.1 21 _ rfl).1 dX7_groupTold_170 ?_
                                refine g_calli (g_runV (As := [.ref (gSK g 21)]) (rest := []) (ci := 7) F hl.1 hH hS hz (c_X7_isWordf l g gh T 21 _ 17 b nn nr nt cc 0 (hc + 1) I_140 R J_142 AI_160 AJ AR mo hv hm hT (rfl : sTab[21]? = some _) (by decide) (by decide +kernel) h65 hbM hr7 (by omega) hn9 (by omega) hQ) (cwV 1 F.2.2.2.2.1 (good_up gT_X7_isWord) rfl rfl rfl hdX7_isWord ⟨Nat.le_of_ble_eq_true rfl, Nat.le_of_ble_eq_true rfl⟩) hm (by decide) rfl rfl rfl (Nat.le_of_ble_eq_true rfl) dX7_groupTold_172 ⟨Nat.zero_le _, Nat.zero_le _⟩) hS (fun v_321 I_315 R_316 J_317 AI_318 AJ_319 AR_320 H locs zv_321 hp_322 hH hS => ?_)
                                dsimp only at hp_322
                                obtain ⟨rfl, rfl, rfl, rfl, rfl, rfl, q_323, q_324⟩ := hp_322
                                refine z_if_eq (tgt := 182) F dX7_groupTold_175 (by decide) zv_321 (fun c_325 => ?_) (fun c_325 => ?_)
                                · have t_326 := tIz_n q_324 (by omega)
                                  refine lv_aload_n F.1 F.2.1 dX7_groupTold_182 rfl (lv_at hl 6 rfl) ?_
                                  refine va_ldcS F.1 F.2.1 F.2.2.2.1 (F.2.2.2.2.2.2.1 22 _ rfl).1 dX7_groupTold_183 ?_
                                  refine g_calli (g_runV (As := [.ref (gSK g 22)]) (rest := []) (ci := 7) F hl.1 hH hS hz (c_X7_isWordf l g gh T 22 _ 18 b nn nr nt cc 0 (hc + 1) I_140 R J_142 AI_160 AJ AR mo hv hm hT (rfl : sTab[22]? = some _) (by decide) (by decide +kernel) h65 hbM hr7 (by omega) hn9 (by omega) hQ) (cwV 1 F.2.2.2.2.1 (good_up gT_X7_isWord) rfl rfl rfl hdX7_isWord ⟨Nat.le_of_ble_eq_true rfl, Nat.le_of_ble_eq_true rfl⟩) hm (by decide) rfl rfl rfl (Nat.le_of_ble_eq_true rfl) dX7_groupTold_185 ⟨Nat.zero_le _, Nat.zero_le _⟩) hS (fun v_333 I_327 R_328 J_329 AI_330 AJ_331 AR_332 H locs zv_333 hp_334 hH hS => ?_)
                                  dsimp only at hp_334
                                  obtain ⟨rfl, rfl, rfl, rfl, rfl, rfl, q_335, q_336⟩ := hp_334
                                  refine z_if_eq (tgt := 195) F dX7_groupTold_188 (by decide) zv_333 (fun c_337 => ?_) (fun c_337 => ?_)
                                  · have t_338 := tIz_n q_336 (by omega)
                                    refine lv_aload_n F.1 F.2.1 dX7_groupTold_195 rfl (lv_at hl 6 rfl) ?_
                                    refine va_ldcS F.1 F.2.1 F.2.2.2.1 (F.2.2.2.2.2.2.1 23 _ rfl).1 dX7_groupTold_196 ?_
                                    refine g_calli (g_runV (As := [.ref (gSK g 23)]) (rest := []) (ci := 7) F hl.1 hH hS hz (c_X7_isWordf l g gh T 23 _ 19 b nn nr nt cc 0 (hc + 1) I_140 R J_142 AI_160 AJ AR mo hv hm hT (rfl : sTab[23]? = some _) (by decide) (by decide +kernel) h65 hbM hr7 (by omega) hn9 (by omega) hQ) (cwV 1 F.2.2.2.2.1 (good_up gT_X7_isWord) rfl rfl rfl hdX7_isWord ⟨Nat.le_of_ble_eq_true rfl, Nat.le_of_ble_eq_true rfl⟩) hm (by decide) rfl rfl rfl (Nat.le_of_ble_eq_true rfl) dX7_groupTold_198 ⟨Nat.zero_le _, Nat.zero_le _⟩) hS (fun v_345 I_339 R_340 J_341 AI_342 AJ_343 AR_344 H locs zv_345 hp_346 hH hS => ?_)
                                    dsimp only at hp_346
                                    obtain ⟨rfl, rfl, rfl, rfl, rfl, rfl, q_347, q_348⟩ := hp_346
                                    refine z_if_eq (tgt := 208) F dX7_groupTold_201 (by decide) zv_345 (fun c_349 => ?_) (fun c_349 => ?_)
                                    · have t_350 := tIz_n q_348 (by omega)
                                      refine z_iconst F dX7_groupTold_208 ?_
                                      exact cut_209_178 (-1) H locs ls ⟨by decide, by decide⟩ (by omega) (by first | exact Or.inr ⟨by decide, by omega, by omega, by decide⟩ | exact Or.inl ⟨rfl, by omega⟩) hH hS (lv_sub hl [0, 1, 2, 3, 4, 5, 6] rfl)
                                    · have t_351 := tIz_y q_348 (by omega)
                                      refine z_iconst F dX7_groupTold_204 ?_
                                      refine z_goto (tgt := 209) F dX7_groupTold_205 (by decide) ?_
                                      exact cut_209_178 3 H locs ls ⟨by decide, by decide⟩ (by omega) (by first | exact Or.inr ⟨by decide, by omega, by omega, by decide⟩ | exact Or.inl ⟨rfl, by omega⟩) hH hS (lv_sub hl [0, 1, 2, 3, 4, 5, 6] rfl)
                                  · have t_352 := tIz_y q_336 (by omega)
                                    refine z_iconst F dX7_groupTold_191 ?_
                                    refine z_goto (tgt := 209) F dX7_groupTold_192 (by decide) ?_
                                    exact cut_209_178 2 H locs ls ⟨by decide, by decide⟩ (by omega) (by first | exact Or.inr ⟨by decide, by omega, by omega, by decide⟩ | exact Or.inl ⟨rfl, by omega⟩) hH hS (lv_sub hl [0, 1, 2, 3, 4, 5, 6] rfl)
                                · have t_353 := tIz_y q_324 (by omega)
                                  refine z_iconst F dX7_groupTold_178 ?_
                                  refine z_goto (tgt := 209) F dX7_groupTold_179 (by decide) ?_
                                  exact cut_209_178 1 H locs ls ⟨by decide, by decide⟩ (by omega) (by first | exact Or.inr ⟨by decide, by omega, by omega, by decide⟩ | exact Or.inl ⟨rfl, by omega⟩) hH hS (lv_sub hl [0, 1, 2, 3, 4, 5, 6] rfl)
                              · have t_354 := tIz_y q_312 (by omega)
                                refine z_iconst F dX7_groupTold_165 ?_
                                refine z_goto (tgt := 209) F dX7_groupTold_166 (by decide) ?_
                                exact cut_209_178 0 H locs ls ⟨by decide, by decide⟩ (by omega) (by first | exact Or.inr ⟨by decide, by omega, by omega, by decide⟩ | exact Or.inl ⟨rfl, by omega⟩) hH hS (lv_sub hl [0, 1, 2, 3, 4, 5, 6] rfl)
                            · exact absurd trivial (by omega)
                          · have t_355 := tIz_y q_174 (by omega)
                            refine lv_aload_n F.1 F.2.1 dX7_groupTold_149 rfl (lv_at hl 6 rfl) ?_
                            refine g_callv (g_runV (As := []) (rest := []) (ci := 7) F hl.1 hH hS hz (c_X7_nextf l g gh T b nn (tNd b nn (tPs b nn (hc + 1))) I_140 R J_142 AI_160 AJ AR mo hv hm hT (by omega) (mTp hv h65 hbM) hr7 (by omega) (by omega) (mQ_e0 hQ) tNd_le.1) (cwV 0 F.2.2.2.2.1 (good_up gT_X7_next) rfl rfl rfl hdX7_next ⟨Nat.le_of_ble_eq_true rfl, Nat.le_of_ble_eq_true rfl⟩) hm (by decide) rfl rfl rfl (Nat.le_of_ble_eq_true rfl) dX7_groupTold_150 ⟨Nat.zero_le _, Nat.zero_le _⟩) hS (fun I_356 R_357 J_358 AI_359 AJ_360 AR_361 H locs hp_362 hH hS => ?_)
                            dsimp only at hp_362
                            obtain ⟨rfl, rfl, rfl, rfl, hv, pfq, q_363, nx4, nxa, nxb⟩ := hp_362
                            have pf := qF_t pf pfq
                            have u_364_2 : (I_356 mo 2).toInt = (I mo 2).toInt := by rw [pf 2 (by decide) (by decide) (by decide) (by decide) (by decide)]
                            have u_364_5 : (I_356 mo 5).toInt = (I mo 5).toInt := by rw [pf 5 (by decide) (by decide) (by decide) (by decide) (by decide)]
                            have u_364_14 : (I_356 mo 14).toInt = (I mo 14).toInt := by rw [pf 14 (by decide) (by decide) (by decide) (by decide) (by decide)]
                            have u_364_16 : (I_356 mo 16).toInt = (I mo 16).toInt := by rw [pf 16 (by decide) (by decide) (by decide) (by decide) (by decide)]
                            have u_364_18 : (I_356 mo 18).toInt = (I mo 18).toInt := by rw [pf 18 (by decide) (by decide) (by decide) (by decide) (by decide)]
                            have hQ : mQ gh I_356 J_358 AI_160 AJ mo b nn nr nt cc 0 (hc + 2) := mQ_nx hQ nx4 nxa
                            clear nxa nxb
                            have hTs : sBy b nn (cF b nn nr nt cc h) n L hc = (0, hc + 1, pV b nn hc) := absurd pr_148.2.1 (by omega)
                            have hsq := sBys_go hsq (f := (3 - n).toNat) (by omega) hTs.symm rfl (by omega)
                            have hil := iL_go hil (by omega) (sBy_h hTs.symm rfl).1 (spC_y (by omega))
                            refine z_goto (tgt := 18) F dX7_groupTold_153 (by decide) ?_
                            exact ih18 (n + 1) v_156 v_171 I_356 J_358 AI_160 H locs ls ⟨by omega, by omega⟩ zv_156 zv_171 hv hT pf (by omega) ((fun hf => ⟨by omega, grpP_step (by omega) (hp (by omega)).2 (hsp (by omega)) (by omega)⟩)) ⟨_, _, hQ, by rw [show (4 - (n + 1)).toNat = (3 - n).toNat by omega]; exact hsq, hcn, hil, hqa⟩ (by omega) hfr (fun b hb => (q_164 b hb).trans (fA9 b hb)) (by omega) hH hS (lv_sub hl [0, 2, 1, 5, 6] rfl)
                      · have hQ : mQ gh I_140 J_142 AI_122 AJ mo b nn nr nt cc (pCf b nn (cF b nn nr nt cc h) hc) hc := by rw [er_148] at hQ; exact hQ
                        have sr_148 := sr_148.symm.trans er_148
                        have g9r_148 := mQ_f hQ (by omega)
                        replace q_150 := hid q_150
                        obtain ⟨f1, ef1⟩ : ∃ q, q = (I_140 mo 24).toInt := ⟨_, rfl⟩
                        have hc1 : Hid (f1 = 0 → 0 ≤ v_146 ∧ v_146 ≤ 3) := fun h9 => by omega
                        refine lv_istore (lv' := [(6, .int (iI v_146)), (5, .int (iI 0)), (4, .int (iI mr)), (3, .int (iI had)), (2, .int (iI n)), (1, .int (iI v_101)), (0, .ref mo)]) F.1 F.2.1 dX7_groupTold_107 hl (by decide) rfl (fun ls hl => ?_)
                        refine lv_aload_n F.1 F.2.1 dX7_groupTold_109 rfl (lv_at hl 6 rfl) ?_
                        refine g_getI (ci := 7) (k := 24) F hH rfl (by decide) iX7 hm (by decide) rfl k81 dX7_groupTold_110 ?_
                        have b_365 := mJ hv hm
                        unfold mNum1 at b_365
                        refine z_if_ne (tgt := 123) F dX7_groupTold_113 (by decide) (zr_t _) (fun c_366 => ?_) (fun c_366 => ?_)
                        · refine lv_aload_n F.1 F.2.1 dX7_groupTold_123 rfl (lv_at hl 6 rfl) ?_
                          refine lv_iload_n F.1 F.2.1 dX7_groupTold_124 rfl (lv_at hl 4 rfl) ?_
                          refine lv_iload F.1 F.2.1 dX7_groupTold_125 (lv_at hl 0 rfl) ?_
                          refine z_iconst F dX7_groupTold_127 ?_
                          refine z_iconst F dX7_groupTold_128 ?_
                          refine z_iconst F dX7_groupTold_129 ?_
                          refine g_callv (g_runV (As := [.int (iI n), .int (iI v_146), .int (iI 0), .int (iI 0), .int (iI 0)]) (rest := []) (ci := 7) F hl.1 hH hS hz (c_X7_setsPartg l g gh T M I_140 R J_142 AI_122 AJ AR mo n v_146 0 0 0 zn zv_146 ⟨by decide, by decide⟩ ⟨by decide, by decide⟩ ⟨by decide, by decide⟩ hv hm hT (by omega) (by omega) (by omega)) (cwV 5 F.2.2.2.2.1 (good_up gT_X7_setsPart) rfl rfl rfl hdX7_setsPart ⟨Nat.le_of_ble_eq_true rfl, Nat.le_of_ble_eq_true rfl⟩) hm (by decide) rfl rfl rfl (Nat.le_of_ble_eq_true rfl) dX7_groupTold_130 ⟨Nat.zero_le _, Nat.zero_le _⟩) hS (fun I_367 R_368 J_369 AI_370 AJ_371 AR_372 H locs hp_373 hH hS => ?_)
                          dsimp only at hp_373
                          obtain ⟨rfl, rfl, rfl, rfl, rfl, hv, hT, hsp, q_374⟩ := hp_373
                          replace hsp := hid hsp
                          have hQ : mQ gh I_140 J_142 AI_370 AJ mo b nn nr nt cc (pCf b nn (cF b nn nr nt cc h) hc) hc := mQ_bad hQ (by omega) rfl
                          refine z_iinc (lv' := [(2, .int (iI (n + 1))), (6, .int (iI v_146)), (5, .int (iI 0)), (4, .int (iI mr)), (3, .int (iI had)), (1, .int (iI v_101)), (0, .ref mo)]) F dX7_groupTold_133 hl (k := 4) rfl (by decide) rfl (fun ls hl => ?_)
                          refine lv_aload_n F.1 F.2.1 dX7_groupTold_136 rfl (lv_at hl 6 rfl) ?_
                          refine z_bipush F dX7_groupTold_137 (by decide) ?_
                          refine g_calli (g_runV (As := [.int (iI 44)]) (rest := []) (ci := 7) F hl.1 hH hS hz (c_X7_isSignf l g gh T b nn nr nt cc (pCf b nn (cF b nn nr nt cc h) hc) hc I_140 R J_142 AI_370 AJ AR mo 44 ⟨by decide, by decide⟩ hv hm hT h65 hbM hr7 (by omega) hn9 (by omega) (by omega) hQ) (cwV 1 F.2.2.2.2.1 (good_up gT_X7_isSign) rfl rfl rfl hdX7_isSign ⟨Nat.le_of_ble_eq_true rfl, Nat.le_of_ble_eq_true rfl⟩) hm (by decide) rfl rfl rfl (Nat.le_of_ble_eq_true rfl) dX7_groupTold_139 ⟨Nat.zero_le _, Nat.zero_le _⟩) hS (fun v_381 I_375 R_376 J_377 AI_378 AJ_379 AR_380 H locs zv_381 hp_382 hH hS => ?_)
                          dsimp only at hp_382
                          obtain ⟨rfl, rfl, rfl, rfl, rfl, rfl, q_383, q_384⟩ := hp_382
                          replace q_383 := q_383.1
                          refine lv_istore (lv' := [(4, .int (iI v_381)), (2, .int (iI (n + 1))), (6, .int (iI v_146)), (5, .int (iI 0)), (3, .int (iI had)), (1, .int (iI v_101)), (0, .ref mo)]) F.1 F.2.1 dX7_groupTold_142 hl (by decide) rfl (fun ls hl => ?_)
                          refine lv_iload F.1 F.2.1 dX7_groupTold_144 (lv_at hl 0 rfl) ?_
                          refine z_if_eq (tgt := 153) F dX7_groupTold_146 (by decide) zv_381 (fun c_385 => ?_) (fun c_385 => ?_)
                          · have t_386 := tIz_0 q_384 (by omega)
                            refine z_goto (tgt := 18) F dX7_groupTold_153 (by decide) ?_
                            refine lv_iload F.1 F.2.1 dX7_groupTold_18 (lv_at hl 0 rfl) ?_
                            refine z_if_eq (tgt := 156) F dX7_groupTold_20 (by decide) zv_381 (fun c_387 => ?_) (fun c_387 => ?_)
                            · have t_388 := tIz_0 q_384 (by omega)
                              have hTs : sBy b nn (cF b nn nr nt cc h) n L hc = (pCf b nn (cF b nn nr nt cc h) hc, hc, 0) := sBy_x (by omega)
                              have hS9 : sBys b nn (cF b nn nr nt cc h) 4 0 [] (h + 2) = (pCf b nn (cF b nn nr nt cc h) hc, hc, 0) := sBys_no hsq (f := (3 - n).toNat) (by omega) hTs.symm (by omega)
                              have hfin : thn (f, h, 0) (fun t _ => sGrp b nn nr nt cc t) = (pCf b nn (cF b nn nr nt cc h) hc, hc, 0) := (thn_k q0).trans (by show sGrp b nn nr nt cc h = _; unfold sGrp; exact thn_t sr_103 rfl (thn_t sr_117 rfl (thn_x hS9.symm (by omega))))
                              exact cut_156_3 v_101 (n + 1) I_140 J_142 AI_370 H locs ls zv_101 ⟨by omega, by omega⟩ hv hT pf ⟨_, _, by omega, hQ, hfin⟩ (by omega) (by omega) (fun b hb => (q_374 b hb).trans (fA9 b hb)) hH hS (lv_sub hl [6, 5, 1] rfl)
                            · exact absurd trivial (by omega)
                          · exact absurd (tIz_1 q_384 (by omega)).1 (by omega)
                        · exact absurd (mQ_z hQ (by omega)) (by omega)
                    · refine lv_aload_n F.1 F.2.1 dX7_groupTold_84 rfl (lv_at hl 5 rfl) ?_
                      refine lv_iload F.1 F.2.1 dX7_groupTold_85 (lv_at hl 0 rfl) ?_
                      refine z_if_eq (tgt := 94) F dX7_groupTold_87 (by decide) ⟨by decide, by decide⟩ (fun c_389 => ?_) (fun c_389 => ?_)
                      · refine z_iconst F dX7_groupTold_94 ?_
                        refine g_callv (g_runV (As := [.int (iI 1)]) (rest := []) (ci := 7) F hl.1 hH hS hz (c_X7_wrongf l g gh T b nn nr nt cc 0 hc I_120 R J_121 AI_122 AJ AR mo 1 ⟨by decide, by decide⟩ hv hm hT (by omega) h65 hbM hr7 (by omega) hn9 (by omega) hQ) (cwV 1 F.2.2.2.2.1 (good_up gT_X7_wrong) rfl rfl rfl hdX7_wrong ⟨Nat.le_of_ble_eq_true rfl, Nat.le_of_ble_eq_true rfl⟩) hm (by decide) rfl rfl rfl (Nat.le_of_ble_eq_true rfl) dX7_groupTold_95 ⟨Nat.zero_le _, Nat.zero_le _⟩) hS (fun I_390 R_391 J_392 AI_393 AJ_394 AR_395 H locs hp_396 hH hS => ?_)
                        dsimp only at hp_396
                        obtain ⟨r_397, er_397⟩ : ∃ qQ : pR, qQ = thn (0, hc, 0) (fun t _ => (1, t, 0)) := ⟨_, rfl⟩
                        rw [← er_397] at hp_396
                        obtain ⟨rfl, rfl, rfl, rfl, rfl, hv, pfq, q_398, hQ⟩ := hp_396
                        have pf := qF_t pf pfq
                        have u_399_2 : (I_390 mo 2).toInt = (I mo 2).toInt := by rw [pf 2 (by decide) (by decide) (by decide) (by decide) (by decide)]
                        have u_399_5 : (I_390 mo 5).toInt = (I mo 5).toInt := by rw [pf 5 (by decide) (by decide) (by decide) (by decide) (by decide)]
                        have u_399_14 : (I_390 mo 14).toInt = (I mo 14).toInt := by rw [pf 14 (by decide) (by decide) (by decide) (by decide) (by decide)]
                        have u_399_16 : (I_390 mo 16).toInt = (I mo 16).toInt := by rw [pf 16 (by decide) (by decide) (by decide) (by decide) (by decide)]
                        have u_399_18 : (I_390 mo 18).toInt = (I mo 18).toInt := by rw [pf 18 (by decide) (by decide) (by decide) (by decide) (by decide)]
                        have er_397 : r_397 = (1, hc, 0) := er_397
                        have hQ : mQ gh I_390 J_121 AI_122 AJ mo b nn nr nt cc 1 hc := by rw [er_397] at hQ; exact hQ
                        have q9_r_397 : (1 : Int) ≠ 0 := by omega
                        have g9_r_397 := mQ_f hQ q9_r_397
                        refine lv_aload_n F.1 F.2.1 dX7_groupTold_98 rfl (lv_at hl 5 rfl) ?_
                        refine lv_aload_n F.1 F.2.1 dX7_groupTold_99 rfl (lv_at hl 5 rfl) ?_
                        refine lv_iload_n F.1 F.2.1 dX7_groupTold_100 rfl (lv_at hl 4 rfl) ?_
                        have b_401 := mJ hv hm
                        unfold mNum1 at b_401
                        refine g_calli (g_runV (As := [.int (iI v_101)]) (rest := [.ref mo]) (ci := 7) F hl.1 hH hS hz (c_X7_columns l g gh T I_390 R J_121 AI_122 AJ AR mo v_101 zv_101 hv hm hT (by omega)) (cwV 1 F.2.2.2.2.1 (good_up gT_X7_columns) rfl rfl rfl hdX7_columns ⟨Nat.le_of_ble_eq_true rfl, Nat.le_of_ble_eq_true rfl⟩) hm (by decide) rfl rfl rfl (Nat.le_of_ble_eq_true rfl) dX7_groupTold_101 ⟨Nat.zero_le _, Nat.zero_le _⟩) hS (fun v_408 I_402 R_403 J_404 AI_405 AJ_406 AR_407 H locs zv_408 hp_409 hH hS => ?_)
                        dsimp only at hp_409
                        obtain ⟨rfl, rfl, rfl, rfl, rfl, rfl, q_400⟩ := hp_409
                        refine g_calli (g_runV (As := [.int (iI v_408)]) (rest := []) (ci := 7) F hl.1 hH hS hz (c_X7_columnf l g gh T b nn nr nt cc 1 hc I_390 R J_121 AI_122 AJ AR mo v_408 zv_408 hv hm hT (by omega) h65 hbM hr7 (by omega) hn9 (by omega) hQ) (cwV 1 F.2.2.2.2.1 (good_up gT_X7_column) rfl rfl rfl hdX7_column ⟨Nat.le_of_ble_eq_true rfl, Nat.le_of_ble_eq_true rfl⟩) hm (by decide) rfl rfl rfl (Nat.le_of_ble_eq_true rfl) dX7_groupTold_104 ⟨Nat.zero_le _, Nat.zero_le _⟩) hS (fun v_416 I_410 R_411 J_412 AI_413 AJ_414 AR_415 H locs zv_416 hp_417 hH hS => ?_)
                        dsimp only at hp_417
                        obtain ⟨r_418, er_418⟩ : ∃ qQ : pR, qQ = thn (1, hc, 0) (fun t _ => sCol b nn v_408 t) := ⟨_, rfl⟩
                        rw [← er_418] at hp_417
                        obtain ⟨rfl, rfl, rfl, rfl, hv, pfq, q_419, q_420, hQ, q_421⟩ := hp_417
                        have pf := qF_t pf pfq
                        have u_422_2 : (I_410 mo 2).toInt = (I mo 2).toInt := by rw [pf 2 (by decide) (by decide) (by decide) (by decide) (by decide)]
                        have u_422_5 : (I_410 mo 5).toInt = (I mo 5).toInt := by rw [pf 5 (by decide) (by decide) (by decide) (by decide) (by decide)]
                        have u_422_14 : (I_410 mo 14).toInt = (I mo 14).toInt := by rw [pf 14 (by decide) (by decide) (by decide) (by decide) (by decide)]
                        have u_422_16 : (I_410 mo 16).toInt = (I mo 16).toInt := by rw [pf 16 (by decide) (by decide) (by decide) (by decide) (by decide)]
                        have u_422_18 : (I_410 mo 18).toInt = (I mo 18).toInt := by rw [pf 18 (by decide) (by decide) (by decide) (by decide) (by decide)]
                        rw [thn_b (by omega)] at er_418
                        have hQ : mQ gh I_410 J_412 AI_122 AJ mo b nn nr nt cc 1 hc := by rw [er_418] at hQ; exact hQ
                        replace q_420 := hid q_420
                        obtain ⟨f1, ef1⟩ : ∃ q, q = (I_410 mo 24).toInt := ⟨_, rfl⟩
                        have hc1 : Hid (f1 = 0 → 0 ≤ v_416 ∧ v_416 ≤ 3) := fun h9 => by omega
                        refine lv_istore (lv' := [(6, .int (iI v_416)), (5, .int (iI 0)), (4, .int (iI mr)), (3, .int (iI had)), (2, .int (iI n)), (1, .int (iI v_101)), (0, .ref mo)]) F.1 F.2.1 dX7_groupTold_107 hl (by decide) rfl (fun ls hl => ?_)
                        refine lv_aload_n F.1 F.2.1 dX7_groupTold_109 rfl (lv_at hl 6 rfl) ?_
                        refine g_getI (ci := 7) (k := 24) F hH rfl (by decide) iX7 hm (by decide) rfl k81 dX7_groupTold_110 ?_
                        have b_423 := mJ hv hm
                        unfold mNum1 at b_423
                        refine z_if_ne (tgt := 123) F dX7_groupTold_113 (by decide) (zr_t _) (fun c_424 => ?_) (fun c_424 => ?_)
                        · refine lv_aload_n F.1 F.2.1 dX7_groupTold_123 rfl (lv_at hl 6 rfl) ?_
                          refine lv_iload_n F.1 F.2.1 dX7_groupTold_124 rfl (lv_at hl 4 rfl) ?_
                          refine lv_iload F.1 F.2.1 dX7_groupTold_125 (lv_at hl 0 rfl) ?_
                          refine z_iconst F dX7_groupTold_127 ?_
                          refine z_iconst F dX7_groupTold_128 ?_
                          refine z_iconst F dX7_groupTold_129 ?_
                          refine g_callv (g_runV (As := [.int (iI n), .int (iI v_416), .int (iI 0), .int (iI 0), .int (iI 0)]) (rest := []) (ci := 7) F hl.1 hH hS hz (c_X7_setsPartg l g gh T M I_410 R J_412 AI_122 AJ AR mo n v_416 0 0 0 zn zv_416 ⟨by decide, by decide⟩ ⟨by decide, by decide⟩ ⟨by decide, by decide⟩ hv hm hT (by omega) (by omega) (by omega)) (cwV 5 F.2.2.2.2.1 (good_up gT_X7_setsPart) rfl rfl rfl hdX7_setsPart ⟨Nat.le_of_ble_eq_true rfl, Nat.le_of_ble_eq_true rfl⟩) hm (by decide) rfl rfl rfl (Nat.le_of_ble_eq_true rfl) dX7_groupTold_130 ⟨Nat.zero_le _, Nat.zero_le _⟩) hS (fun I_425 R_426 J_427 AI_428 AJ_429 AR_430 H locs hp_431 hH hS => ?_)
                          dsimp only at hp_431
                          obtain ⟨rfl, rfl, rfl, rfl, rfl, hv, hT, hsp, q_432⟩ := hp_431
                          replace hsp := hid hsp
                          have hQ : mQ gh I_410 J_412 AI_428 AJ mo b nn nr nt cc 1 hc := mQ_bad hQ (by omega) rfl
                          refine z_iinc (lv' := [(2, .int (iI (n + 1))), (6, .int (iI v_416)), (5, .int (iI 0)), (4, .int (iI mr)), (3, .int (iI had)), (1, .int (iI v_101)), (0, .ref mo)]) F dX7_groupTold_133 hl (k := 4) rfl (by decide) rfl (fun ls hl => ?_)
                          refine lv_aload_n F.1 F.2.1 dX7_groupTold_136 rfl (lv_at hl 6 rfl) ?_
                          refine z_bipush F dX7_groupTold_137 (by decide) ?_
                          refine g_calli (g_runV (As := [.int (iI 44)]) (rest := []) (ci := 7) F hl.1 hH hS hz (c_X7_isSignf l g gh T b nn nr nt cc 1 hc I_410 R J_412 AI_428 AJ AR mo 44 ⟨by decide, by decide⟩ hv hm hT h65 hbM hr7 (by omega) hn9 (by omega) (by omega) hQ) (cwV 1 F.2.2.2.2.1 (good_up gT_X7_isSign) rfl rfl rfl hdX7_isSign ⟨Nat.le_of_ble_eq_true rfl, Nat.le_of_ble_eq_true rfl⟩) hm (by decide) rfl rfl rfl (Nat.le_of_ble_eq_true rfl) dX7_groupTold_139 ⟨Nat.zero_le _, Nat.zero_le _⟩) hS (fun v_439 I_433 R_434 J_435 AI_436 AJ_437 AR_438 H locs zv_439 hp_440 hH hS => ?_)
                          dsimp only at hp_440
                          obtain ⟨rfl, rfl, rfl, rfl, rfl, rfl, q_441, q_442⟩ := hp_440
                          replace q_441 := q_441.1
                          refine lv_istore (lv' := [(4, .int (iI v_439)), (2, .int (iI (n + 1))), (6, .int (iI v_416)), (5, .int (iI 0)), (3, .int (iI had)), (1, .int (iI v_101)), (0, .ref mo)]) F.1 F.2.1 dX7_groupTold_142 hl (by decide) rfl (fun ls hl => ?_)
                          refine lv_iload F.1 F.2.1 dX7_groupTold_144 (lv_at hl 0 rfl) ?_
                          refine z_if_eq (tgt := 153) F dX7_groupTold_146 (by decide) zv_439 (fun c_443 => ?_) (fun c_443 => ?_)
                          · have t_444 := tIz_0 q_442 (by omega)
                            refine z_goto (tgt := 18) F dX7_groupTold_153 (by decide) ?_
                            refine lv_iload F.1 F.2.1 dX7_groupTold_18 (lv_at hl 0 rfl) ?_
                            refine z_if_eq (tgt := 156) F dX7_groupTold_20 (by decide) zv_439 (fun c_445 => ?_) (fun c_445 => ?_)
                            · have t_446 := tIz_0 q_442 (by omega)
                              have hTs : sBy b nn (cF b nn nr nt cc h) n L hc = (1, hc, 0) := pE1 (sBy_x (c := (cF b nn nr nt cc h)) (pCf_n1 (by omega))) (by omega)
                              have hS9 : sBys b nn (cF b nn nr nt cc h) 4 0 [] (h + 2) = (1, hc, 0) := sBys_no hsq (f := (3 - n).toNat) (by omega) hTs.symm (by omega)
                              have hfin : thn (f, h, 0) (fun t _ => sGrp b nn nr nt cc t) = (1, hc, 0) := (thn_k q0).trans (by show sGrp b nn nr nt cc h = _; unfold sGrp; exact thn_t sr_103 rfl (thn_t sr_117 rfl (thn_x hS9.symm (by omega))))
                              exact cut_156_3 v_101 (n + 1) I_410 J_412 AI_428 H locs ls zv_101 ⟨by omega, by omega⟩ hv hT pf ⟨_, _, by omega, hQ, hfin⟩ (by omega) (by omega) (fun b hb => (q_432 b hb).trans (fA9 b hb)) hH hS (lv_sub hl [6, 5, 1] rfl)
                            · exact absurd trivial (by omega)
                          · exact absurd (tIz_1 q_442 (by omega)).1 (by omega)
                        · exact absurd (mQ_z hQ (by omega)) (by omega)
                      · exact absurd trivial (by omega)
                  · exact absurd trivial (by omega)
                · have t_447 := tkM_1 ((mQ_k hQ rfl).symm.trans (by omega))
                  have t_447v := mQ_v hQ rfl (by omega)
                  have t_447c := pV_c t_447
                  refine z_iconst F dX7_groupTold_38 ?_
                  refine z_goto (tgt := 43) F dX7_groupTold_39 (by decide) ?_
                  refine lv_istore (lv' := [(5, .int (iI 1)), (4, .int (iI mr)), (3, .int (iI had)), (2, .int (iI n)), (1, .int (iI v_101)), (0, .ref mo)]) F.1 F.2.1 dX7_groupTold_43 hl (by decide) rfl (fun ls hl => ?_)
                  refine lv_iload F.1 F.2.1 dX7_groupTold_45 (lv_at hl 0 rfl) ?_
                  refine z_if_eq (tgt := 79) F dX7_groupTold_47 (by decide) ⟨by decide, by decide⟩ (fun c_448 => ?_) (fun c_448 => ?_)
                  · exact absurd trivial (by omega)
                  · refine lv_aload_n F.1 F.2.1 dX7_groupTold_50 rfl (lv_at hl 5 rfl) ?_
                    refine g_getI (ci := 7) (k := 23) F hH rfl (by decide) iX7 hm (by decide) rfl k97 dX7_groupTold_51 ?_
                    refine lv_aload_n F.1 F.2.1 dX7_groupTold_54 rfl (lv_at hl 5 rfl) ?_
                    refine lv_iload_n F.1 F.2.1 dX7_groupTold_55 rfl (lv_at hl 4 rfl) ?_
                    refine g_calli (g_runV (As := [.int (iI v_101)]) (rest := [.int (iI ((I_120 mo 23).toInt))]) (ci := 7) F hl.1 hH hS hz (c_X7_columns l g gh T I_120 R J_121 AI_122 AJ AR mo v_101 zv_101 hv hm hT (by omega)) (cwV 1 F.2.2.2.2.1 (good_up gT_X7_columns) rfl rfl rfl hdX7_columns ⟨Nat.le_of_ble_eq_true rfl, Nat.le_of_ble_eq_true rfl⟩) hm (by decide) rfl rfl rfl (Nat.le_of_ble_eq_true rfl) dX7_groupTold_56 ⟨Nat.zero_le _, Nat.zero_le _⟩) hS (fun v_456 I_450 R_451 J_452 AI_453 AJ_454 AR_455 H locs zv_456 hp_457 hH hS => ?_)
                    dsimp only at hp_457
                    obtain ⟨rfl, rfl, rfl, rfl, rfl, rfl, q_449⟩ := hp_457
                    have cvv_456 : v_456 = cF b nn nr nt cc h := q_449.trans ((mQ_c hQ rfl vlr_103.1 vlr_103.2.1).trans vlr_103.2.2)
                    refine z_icmp_ge (tgt := 74) F dX7_groupTold_59 (by decide) (zr_t _) zv_456 (fun c_458 => ?_) (fun c_458 => ?_)
                    · refine lv_aload_n F.1 F.2.1 dX7_groupTold_74 rfl (lv_at hl 5 rfl) ?_
                      refine z_iconst F dX7_groupTold_75 ?_
                      refine g_callv (g_runV (As := [.int (iI 2)]) (rest := []) (ci := 7) F hl.1 hH hS hz (c_X7_wrongf l g gh T b nn nr nt cc 0 hc I_120 R J_121 AI_122 AJ AR mo 2 ⟨by decide, by decide⟩ hv hm hT (by omega) h65 hbM hr7 (by omega) hn9 (by omega) hQ) (cwV 1 F.2.2.2.2.1 (good_up gT_X7_wrong) rfl rfl rfl hdX7_wrong ⟨Nat.le_of_ble_eq_true rfl, Nat.le_of_ble_eq_true rfl⟩) hm (by decide) rfl rfl rfl (Nat.le_of_ble_eq_true rfl) dX7_groupTold_76 ⟨Nat.zero_le _, Nat.zero_le _⟩) hS (fun I_459 R_460 J_461 AI_462 AJ_463 AR_464 H locs hp_465 hH hS => ?_)
                      dsimp only at hp_465
                      obtain ⟨r_466, er_466⟩ : ∃ qQ : pR, qQ = thn (0, hc, 0) (fun t _ => (2, t, 0)) := ⟨_, rfl⟩
                      rw [← er_466] at hp_465
                      obtain ⟨rfl, rfl, rfl, rfl, rfl, hv, pfq, q_467, hQ⟩ := hp_465
                      have pf := qF_t pf pfq
                      have u_468_2 : (I_459 mo 2).toInt = (I mo 2).toInt := by rw [pf 2 (by decide) (by decide) (by decide) (by decide) (by decide)]
                      have u_468_5 : (I_459 mo 5).toInt = (I mo 5).toInt := by rw [pf 5 (by decide) (by decide) (by decide) (by decide) (by decide)]
                      have u_468_14 : (I_459 mo 14).toInt = (I mo 14).toInt := by rw [pf 14 (by decide) (by decide) (by decide) (by decide) (by decide)]
                      have u_468_16 : (I_459 mo 16).toInt = (I mo 16).toInt := by rw [pf 16 (by decide) (by decide) (by decide) (by decide) (by decide)]
                      have u_468_18 : (I_459 mo 18).toInt = (I mo 18).toInt := by rw [pf 18 (by decide) (by decide) (by decide) (by decide) (by decide)]
                      have er_466 : r_466 = (2, hc, 0) := er_466
                      have hQ : mQ gh I_459 J_121 AI_122 AJ mo b nn nr nt cc 2 hc := by rw [er_466] at hQ; exact hQ
                      have q9_r_466 : (2 : Int) ≠ 0 := by omega
                      have g9_r_466 := mQ_f hQ q9_r_466
                      refine lv_iload_n F.1 F.2.1 dX7_groupTold_79 rfl (lv_at hl 3 rfl) ?_
                      refine z_iconst F dX7_groupTold_80 ?_
                      refine z_icmp_ne (tgt := 98) F dX7_groupTold_81 (by decide) zn ⟨by decide, by decide⟩ (fun c_469 => ?_) (fun c_469 => ?_)
                      · refine lv_aload_n F.1 F.2.1 dX7_groupTold_98 rfl (lv_at hl 5 rfl) ?_
                        refine lv_aload_n F.1 F.2.1 dX7_groupTold_99 rfl (lv_at hl 5 rfl) ?_
                        refine lv_iload_n F.1 F.2.1 dX7_groupTold_100 rfl (lv_at hl 4 rfl) ?_
                        have b_471 := mJ hv hm
                        unfold mNum1 at b_471
                        refine g_calli (g_runV (As := [.int (iI v_101)]) (rest := [.ref mo]) (ci := 7) F hl.1 hH hS hz (c_X7_columns l g gh T I_459 R J_121 AI_122 AJ AR mo v_101 zv_101 hv hm hT (by omega)) (cwV 1 F.2.2.2.2.1 (good_up gT_X7_columns) rfl rfl rfl hdX7_columns ⟨Nat.le_of_ble_eq_true rfl, Nat.le_of_ble_eq_true rfl⟩) hm (by decide) rfl rfl rfl (Nat.le_of_ble_eq_true rfl) dX7_groupTold_101 ⟨Nat.zero_le _, Nat.zero_le _⟩) hS (fun v_478 I_472 R_473 J_474 AI_475 AJ_476 AR_477 H locs zv_478 hp_479 hH hS => ?_)
                        dsimp only at hp_479
                        obtain ⟨rfl, rfl, rfl, rfl, rfl, rfl, q_470⟩ := hp_479
                        refine g_calli (g_runV (As := [.int (iI v_478)]) (rest := []) (ci := 7) F hl.1 hH hS hz (c_X7_columnf l g gh T b nn nr nt cc 2 hc I_459 R J_121 AI_122 AJ AR mo v_478 zv_478 hv hm hT (by omega) h65 hbM hr7 (by omega) hn9 (by omega) hQ) (cwV 1 F.2.2.2.2.1 (good_up gT_X7_column) rfl rfl rfl hdX7_column ⟨Nat.le_of_ble_eq_true rfl, Nat.le_of_ble_eq_true rfl⟩) hm (by decide) rfl rfl rfl (Nat.le_of_ble_eq_true rfl) dX7_groupTold_104 ⟨Nat.zero_le _, Nat.zero_le _⟩) hS (fun v_486 I_480 R_481 J_482 AI_483 AJ_484 AR_485 H locs zv_486 hp_487 hH hS => ?_)
                        dsimp only at hp_487
                        obtain ⟨r_488, er_488⟩ : ∃ qQ : pR, qQ = thn (2, hc, 0) (fun t _ => sCol b nn v_478 t) := ⟨_, rfl⟩
                        rw [← er_488] at hp_487
                        obtain ⟨rfl, rfl, rfl, rfl, hv, pfq, q_489, q_490, hQ, q_491⟩ := hp_487
                        have pf := qF_t pf pfq
                        have u_492_2 : (I_480 mo 2).toInt = (I mo 2).toInt := by rw [pf 2 (by decide) (by decide) (by decide) (by decide) (by decide)]
                        have u_492_5 : (I_480 mo 5).toInt = (I mo 5).toInt := by rw [pf 5 (by decide) (by decide) (by decide) (by decide) (by decide)]
                        have u_492_14 : (I_480 mo 14).toInt = (I mo 14).toInt := by rw [pf 14 (by decide) (by decide) (by decide) (by decide) (by decide)]
                        have u_492_16 : (I_480 mo 16).toInt = (I mo 16).toInt := by rw [pf 16 (by decide) (by decide) (by decide) (by decide) (by decide)]
                        have u_492_18 : (I_480 mo 18).toInt = (I mo 18).toInt := by rw [pf 18 (by decide) (by decide) (by decide) (by decide) (by decide)]
                        rw [thn_b (by omega)] at er_488
                        have hQ : mQ gh I_480 J_482 AI_122 AJ mo b nn nr nt cc 2 hc := by rw [er_488] at hQ; exact hQ
                        replace q_490 := hid q_490
                        obtain ⟨f1, ef1⟩ : ∃ q, q = (I_480 mo 24).toInt := ⟨_, rfl⟩
                        have hc1 : Hid (f1 = 0 → 0 ≤ v_486 ∧ v_486 ≤ 3) := fun h9 => by omega
                        refine lv_istore (lv' := [(6, .int (iI v_486)), (5, .int (iI 1)), (4, .int (iI mr)), (3, .int (iI had)), (2, .int (iI n)), (1, .int (iI v_101)), (0, .ref mo)]) F.1 F.2.1 dX7_groupTold_107 hl (by decide) rfl (fun ls hl => ?_)
                        refine lv_aload_n F.1 F.2.1 dX7_groupTold_109 rfl (lv_at hl 6 rfl) ?_
                        refine g_getI (ci := 7) (k := 24) F hH rfl (by decide) iX7 hm (by decide) rfl k81 dX7_groupTold_110 ?_
                        have b_493 := mJ hv hm
                        unfold mNum1 at b_493
                        refine z_if_ne (tgt := 123) F dX7_groupTold_113 (by decide) (zr_t _) (fun c_494 => ?_) (fun c_494 => ?_)
                        · refine lv_aload_n F.1 F.2.1 dX7_groupTold_123 rfl (lv_at hl 6 rfl) ?_
                          refine lv_iload_n F.1 F.2.1 dX7_groupTold_124 rfl (lv_at hl 4 rfl) ?_
                          refine lv_iload F.1 F.2.1 dX7_groupTold_125 (lv_at hl 0 rfl) ?_
                          refine z_iconst F dX7_groupTold_127 ?_
                          refine z_iconst F dX7_groupTold_128 ?_
                          refine z_iconst F dX7_groupTold_129 ?_
                          refine g_callv (g_runV (As := [.int (iI n), .int (iI v_486), .int (iI 0), .int (iI 0), .int (iI 0)]) (rest := []) (ci := 7) F hl.1 hH hS hz (c_X7_setsPartg l g gh T M I_480 R J_482 AI_122 AJ AR mo n v_486 0 0 0 zn zv_486 ⟨by decide, by decide⟩ ⟨by decide, by decide⟩ ⟨by decide, by decide⟩ hv hm hT (by omega) (by omega) (by omega)) (cwV 5 F.2.2.2.2.1 (good_up gT_X7_setsPart) rfl rfl rfl hdX7_setsPart ⟨Nat.le_of_ble_eq_true rfl, Nat.le_of_ble_eq_true rfl⟩) hm (by decide) rfl rfl rfl (Nat.le_of_ble_eq_true rfl) dX7_groupTold_130 ⟨Nat.zero_le _, Nat.zero_le _⟩) hS (fun I_495 R_496 J_497 AI_498 AJ_499 AR_500 H locs hp_501 hH hS => ?_)
                          dsimp only at hp_501
                          obtain ⟨rfl, rfl, rfl, rfl, rfl, hv, hT, hsp, q_502⟩ := hp_501
                          replace hsp := hid hsp
                          have hQ : mQ gh I_480 J_482 AI_498 AJ mo b nn nr nt cc 2 hc := mQ_bad hQ (by omega) rfl
                          refine z_iinc (lv' := [(2, .int (iI (n + 1))), (6, .int (iI v_486)), (5, .int (iI 1)), (4, .int (iI mr)), (3, .int (iI had)), (1, .int (iI v_101)), (0, .ref mo)]) F dX7_groupTold_133 hl (k := 4) rfl (by decide) rfl (fun ls hl => ?_)
                          refine lv_aload_n F.1 F.2.1 dX7_groupTold_136 rfl (lv_at hl 6 rfl) ?_
                          refine z_bipush F dX7_groupTold_137 (by decide) ?_
                          refine g_calli (g_runV (As := [.int (iI 44)]) (rest := []) (ci := 7) F hl.1 hH hS hz (c_X7_isSignf l g gh T b nn nr nt cc 2 hc I_480 R J_482 AI_498 AJ AR mo 44 ⟨by decide, by decide⟩ hv hm hT h65 hbM hr7 (by omega) hn9 (by omega) (by omega) hQ) (cwV 1 F.2.2.2.2.1 (good_up gT_X7_isSign) rfl rfl rfl hdX7_isSign ⟨Nat.le_of_ble_eq_true rfl, Nat.le_of_ble_eq_true rfl⟩) hm (by decide) rfl rfl rfl (Nat.le_of_ble_eq_true rfl) dX7_groupTold_139 ⟨Nat.zero_le _, Nat.zero_le _⟩) hS (fun v_509 I_503 R_504 J_505 AI_506 AJ_507 AR_508 H locs zv_509 hp_510 hH hS => ?_)
                          dsimp only at hp_510
                          obtain ⟨rfl, rfl, rfl, rfl, rfl, rfl, q_511, q_512⟩ := hp_510
                          replace q_511 := q_511.1
                          refine lv_istore (lv' := [(4, .int (iI v_509)), (2, .int (iI (n + 1))), (6, .int (iI v_486)), (5, .int (iI 1)), (3, .int (iI had)), (1, .int (iI v_101)), (0, .ref mo)]) F.1 F.2.1 dX7_groupTold_142 hl (by decide) rfl (fun ls hl => ?_)
                          refine lv_iload F.1 F.2.1 dX7_groupTold_144 (lv_at hl 0 rfl) ?_
                          refine z_if_eq (tgt := 153) F dX7_groupTold_146 (by decide) zv_509 (fun c_513 => ?_) (fun c_513 => ?_)
                          · have t_514 := tIz_0 q_512 (by omega)
                            refine z_goto (tgt := 18) F dX7_groupTold_153 (by decide) ?_
                            refine lv_iload F.1 F.2.1 dX7_groupTold_18 (lv_at hl 0 rfl) ?_
                            refine z_if_eq (tgt := 156) F dX7_groupTold_20 (by decide) zv_509 (fun c_515 => ?_) (fun c_515 => ?_)
                            · have t_516 := tIz_0 q_512 (by omega)
                              have hTs : sBy b nn (cF b nn nr nt cc h) n L hc = (2, hc, 0) := pE2 (sBy_x (pCf_n2 (by omega) (by omega))) (by omega) (by omega)
                              have hS9 : sBys b nn (cF b nn nr nt cc h) 4 0 [] (h + 2) = (2, hc, 0) := sBys_no hsq (f := (3 - n).toNat) (by omega) hTs.symm (by omega)
                              have hfin : thn (f, h, 0) (fun t _ => sGrp b nn nr nt cc t) = (2, hc, 0) := (thn_k q0).trans (by show sGrp b nn nr nt cc h = _; unfold sGrp; exact thn_t sr_103 rfl (thn_t sr_117 rfl (thn_x hS9.symm (by omega))))
                              exact cut_156_3 v_101 (n + 1) I_480 J_482 AI_498 H locs ls zv_101 ⟨by omega, by omega⟩ hv hT pf ⟨_, _, by omega, hQ, hfin⟩ (by omega) (by omega) (fun b hb => (q_502 b hb).trans (fA9 b hb)) hH hS (lv_sub hl [6, 5, 1] rfl)
                            · exact absurd trivial (by omega)
                          · exact absurd (tIz_1 q_512 (by omega)).1 (by omega)
                        · exact absurd (mQ_z hQ (by omega)) (by omega)
                      · refine lv_aload_n F.1 F.2.1 dX7_groupTold_84 rfl (lv_at hl 5 rfl) ?_
                        refine lv_iload F.1 F.2.1 dX7_groupTold_85 (lv_at hl 0 rfl) ?_
                        refine z_if_eq (tgt := 94) F dX7_groupTold_87 (by decide) ⟨by decide, by decide⟩ (fun c_517 => ?_) (fun c_517 => ?_)
                        · exact absurd trivial (by omega)
                        · refine z_iconst F dX7_groupTold_90 ?_
                          refine z_goto (tgt := 95) F dX7_groupTold_91 (by decide) ?_
                          have b_518 := mJ hv hm
                          unfold mNum1 at b_518
                          refine g_callv (g_runV (As := [.int (iI 4)]) (rest := []) (ci := 7) F hl.1 hH hS hz (c_X7_wrongf l g gh T b nn nr nt cc 2 hc I_459 R J_121 AI_122 AJ AR mo 4 ⟨by decide, by decide⟩ hv hm hT (by omega) h65 hbM hr7 (by omega) hn9 (by omega) hQ) (cwV 1 F.2.2.2.2.1 (good_up gT_X7_wrong) rfl rfl rfl hdX7_wrong ⟨Nat.le_of_ble_eq_true rfl, Nat.le_of_ble_eq_true rfl⟩) hm (by decide) rfl rfl rfl (Nat.le_of_ble_eq_true rfl) dX7_groupTold_95 ⟨Nat.zero_le _, Nat.zero_le _⟩) hS (fun I_519 R_520 J_521 AI_522 AJ_523 AR_524 H locs hp_525 hH hS => ?_)
                          dsimp only at hp_525
                          obtain ⟨r_526, er_526⟩ : ∃ qQ : pR, qQ = thn (2, hc, 0) (fun t _ => (4, t, 0)) := ⟨_, rfl⟩
                          rw [← er_526] at hp_525
                          obtain ⟨rfl, rfl, rfl, rfl, rfl, hv, pfq, q_527, hQ⟩ := hp_525
                          have pf := qF_t pf pfq
                          have u_528_2 : (I_519 mo 2).toInt = (I mo 2).toInt := by rw [pf 2 (by decide) (by decide) (by decide) (by decide) (by decide)]
                          have u_528_5 : (I_519 mo 5).toInt = (I mo 5).toInt := by rw [pf 5 (by decide) (by decide) (by decide) (by decide) (by decide)]
                          have u_528_14 : (I_519 mo 14).toInt = (I mo 14).toInt := by rw [pf 14 (by decide) (by decide) (by decide) (by decide) (by decide)]
                          have u_528_16 : (I_519 mo 16).toInt = (I mo 16).toInt := by rw [pf 16 (by decide) (by decide) (by decide) (by decide) (by decide)]
                          have u_528_18 : (I_519 mo 18).toInt = (I mo 18).toInt := by rw [pf 18 (by decide) (by decide) (by decide) (by decide) (by decide)]
                          rw [thn_b (by omega)] at er_526
                          have hQ : mQ gh I_519 J_121 AI_122 AJ mo b nn nr nt cc 2 hc := by rw [er_526] at hQ; exact hQ
                          refine lv_aload_n F.1 F.2.1 dX7_groupTold_98 rfl (lv_at hl 5 rfl) ?_
                          refine lv_aload_n F.1 F.2.1 dX7_groupTold_99 rfl (lv_at hl 5 rfl) ?_
                          refine lv_iload_n F.1 F.2.1 dX7_groupTold_100 rfl (lv_at hl 4 rfl) ?_
                          have b_530 := mJ hv hm
                          unfold mNum1 at b_530
                          refine g_calli (g_runV (As := [.int (iI v_101)]) (rest := [.ref mo]) (ci := 7) F hl.1 hH hS hz (c_X7_columns l g gh T I_519 R J_121 AI_122 AJ AR mo v_101 zv_101 hv hm hT (by omega)) (cwV 1 F.2.2.2.2.1 (good_up gT_X7_columns) rfl rfl rfl hdX7_columns ⟨Nat.le_of_ble_eq_true rfl, Nat.le_of_ble_eq_true rfl⟩) hm (by decide) rfl rfl rfl (Nat.le_of_ble_eq_true rfl) dX7_groupTold_101 ⟨Nat.zero_le _, Nat.zero_le _⟩) hS (fun v_537 I_531 R_532 J_533 AI_534 AJ_535 AR_536 H locs zv_537 hp_538 hH hS => ?_)
                          dsimp only at hp_538
                          obtain ⟨rfl, rfl, rfl, rfl, rfl, rfl, q_529⟩ := hp_538
                          refine g_calli (g_runV (As := [.int (iI v_537)]) (rest := []) (ci := 7) F hl.1 hH hS hz (c_X7_columnf l g gh T b nn nr nt cc 2 hc I_519 R J_121 AI_122 AJ AR mo v_537 zv_537 hv hm hT (by omega) h65 hbM hr7 (by omega) hn9 (by omega) hQ) (cwV 1 F.2.2.2.2.1 (good_up gT_X7_column) rfl rfl rfl hdX7_column ⟨Nat.le_of_ble_eq_true rfl, Nat.le_of_ble_eq_true rfl⟩) hm (by decide) rfl rfl rfl (Nat.le_of_ble_eq_true rfl) dX7_groupTold_104 ⟨Nat.zero_le _, Nat.zero_le _⟩) hS (fun v_545 I_539 R_540 J_541 AI_542 AJ_543 AR_544 H locs zv_545 hp_546 hH hS => ?_)
                          dsimp only at hp_546
                          obtain ⟨r_547, er_547⟩ : ∃ qQ : pR, qQ = thn (2, hc, 0) (fun t _ => sCol b nn v_537 t) := ⟨_, rfl⟩
                          rw [← er_547] at hp_546
                          obtain ⟨rfl, rfl, rfl, rfl, hv, pfq, q_548, q_549, hQ, q_550⟩ := hp_546
                          have pf := qF_t pf pfq
                          have u_551_2 : (I_539 mo 2).toInt = (I mo 2).toInt := by rw [pf 2 (by decide) (by decide) (by decide) (by decide) (by decide)]
                          have u_551_5 : (I_539 mo 5).toInt = (I mo 5).toInt := by rw [pf 5 (by decide) (by decide) (by decide) (by decide) (by decide)]
                          have u_551_14 : (I_539 mo 14).toInt = (I mo 14).toInt := by rw [pf 14 (by decide) (by decide) (by decide) (by decide) (by decide)]
                          have u_551_16 : (I_539 mo 16).toInt = (I mo 16).toInt := by rw [pf 16 (by decide) (by decide) (by decide) (by decide) (by decide)]
                          have u_551_18 : (I_539 mo 18).toInt = (I mo 18).toInt := by rw [pf 18 (by decide) (by decide) (by decide) (by decide) (by decide)]
                          rw [thn_b (by omega)] at er_547
                          have hQ : mQ gh I_539 J_541 AI_122 AJ mo b nn nr nt cc 2 hc := by rw [er_547] at hQ; exact hQ
                          replace q_549 := hid q_549
                          obtain ⟨f1, ef1⟩ : ∃ q, q = (I_539 mo 24).toInt := ⟨_, rfl⟩
                          have hc1 : Hid (f1 = 0 → 0 ≤ v_545 ∧ v_545 ≤ 3) := fun h9 => by omega
                          refine lv_istore (lv' := [(6, .int (iI v_545)), (5, .int (iI 1)), (4, .int (iI mr)), (3, .int (iI had)), (2, .int (iI n)), (1, .int (iI v_101)), (0, .ref mo)]) F.1 F.2.1 dX7_groupTold_107 hl (by decide) rfl (fun ls hl => ?_)
                          refine lv_aload_n F.1 F.2.1 dX7_groupTold_109 rfl (lv_at hl 6 rfl) ?_
                          refine g_getI (ci := 7) (k := 24) F hH rfl (by decide) iX7 hm (by decide) rfl k81 dX7_groupTold_110 ?_
                          have b_552 := mJ hv hm
                          unfold mNum1 at b_552
                          refine z_if_ne (tgt := 123) F dX7_groupTold_113 (by decide) (zr_t _) (fun c_553 => ?_) (fun c_553 => ?_)
                          · refine lv_aload_n F.1 F.2.1 dX7_groupTold_123 rfl (lv_at hl 6 rfl) ?_
                            refine lv_iload_n F.1 F.2.1 dX7_groupTold_124 rfl (lv_at hl 4 rfl) ?_
                            refine lv_iload F.1 F.2.1 dX7_groupTold_125 (lv_at hl 0 rfl) ?_
                            refine z_iconst F dX7_groupTold_127 ?_
                            refine z_iconst F dX7_groupTold_128 ?_
                            refine z_iconst F dX7_groupTold_129 ?_
                            refine g_callv (g_runV (As := [.int (iI n), .int (iI v_545), .int (iI 0), .int (iI 0), .int (iI 0)]) (rest := []) (ci := 7) F hl.1 hH hS hz (c_X7_setsPartg l g gh T M I_539 R J_541 AI_122 AJ AR mo n v_545 0 0 0 zn zv_545 ⟨by decide, by decide⟩ ⟨by decide, by decide⟩ ⟨by decide, by decide⟩ hv hm hT (by omega) (by omega) (by omega)) (cwV 5 F.2.2.2.2.1 (good_up gT_X7_setsPart) rfl rfl rfl hdX7_setsPart ⟨Nat.le_of_ble_eq_true rfl, Nat.le_of_ble_eq_true rfl⟩) hm (by decide) rfl rfl rfl (Nat.le_of_ble_eq_true rfl) dX7_groupTold_130 ⟨Nat.zero_le _, Nat.zero_le _⟩) hS (fun I_554 R_555 J_556 AI_557 AJ_558 AR_559 H locs hp_560 hH hS => ?_)
                            dsimp only at hp_560
                            obtain ⟨rfl, rfl, rfl, rfl, rfl, hv, hT, hsp, q_561⟩ := hp_560
                            replace hsp := hid hsp
                            have hQ : mQ gh I_539 J_541 AI_557 AJ mo b nn nr nt cc 2 hc := mQ_bad hQ (by omega) rfl
                            refine z_iinc (lv' := [(2, .int (iI (n + 1))), (6, .int (iI v_545)), (5, .int (iI 1)), (4, .int (iI mr)), (3, .int (iI had)), (1, .int (iI v_101)), (0, .ref mo)]) F dX7_groupTold_133 hl (k := 4) rfl (by decide) rfl (fun ls hl => ?_)
                            refine lv_aload_n F.1 F.2.1 dX7_groupTold_136 rfl (lv_at hl 6 rfl) ?_
                            refine z_bipush F dX7_groupTold_137 (by decide) ?_
                            refine g_calli (g_runV (As := [.int (iI 44)]) (rest := []) (ci := 7) F hl.1 hH hS hz (c_X7_isSignf l g gh T b nn nr nt cc 2 hc I_539 R J_541 AI_557 AJ AR mo 44 ⟨by decide, by decide⟩ hv hm hT h65 hbM hr7 (by omega) hn9 (by omega) (by omega) hQ) (cwV 1 F.2.2.2.2.1 (good_up gT_X7_isSign) rfl rfl rfl hdX7_isSign ⟨Nat.le_of_ble_eq_true rfl, Nat.le_of_ble_eq_true rfl⟩) hm (by decide) rfl rfl rfl (Nat.le_of_ble_eq_true rfl) dX7_groupTold_139 ⟨Nat.zero_le _, Nat.zero_le _⟩) hS (fun v_568 I_562 R_563 J_564 AI_565 AJ_566 AR_567 H locs zv_568 hp_569 hH hS => ?_)
                            dsimp only at hp_569
                            obtain ⟨rfl, rfl, rfl, rfl, rfl, rfl, q_570, q_571⟩ := hp_569
                            replace q_570 := q_570.1
                            refine lv_istore (lv' := [(4, .int (iI v_568)), (2, .int (iI (n + 1))), (6, .int (iI v_545)), (5, .int (iI 1)), (3, .int (iI had)), (1, .int (iI v_101)), (0, .ref mo)]) F.1 F.2.1 dX7_groupTold_142 hl (by decide) rfl (fun ls hl => ?_)
                            refine lv_iload F.1 F.2.1 dX7_groupTold_144 (lv_at hl 0 rfl) ?_
                            refine z_if_eq (tgt := 153) F dX7_groupTold_146 (by decide) zv_568 (fun c_572 => ?_) (fun c_572 => ?_)
                            · have t_573 := tIz_0 q_571 (by omega)
                              refine z_goto (tgt := 18) F dX7_groupTold_153 (by decide) ?_
                              refine lv_iload F.1 F.2.1 dX7_groupTold_18 (lv_at hl 0 rfl) ?_
                              refine z_if_eq (tgt := 156) F dX7_groupTold_20 (by decide) zv_568 (fun c_574 => ?_) (fun c_574 => ?_)
                              · have t_575 := tIz_0 q_571 (by omega)
                                have hTs : sBy b nn (cF b nn nr nt cc h) n L hc = (2, hc, 0) := pE2 (sBy_x (pCf_n2 (by omega) (by omega))) (by omega) (by omega)
                                have hS9 : sBys b nn (cF b nn nr nt cc h) 4 0 [] (h + 2) = (2, hc, 0) := sBys_no hsq (f := (3 - n).toNat) (by omega) hTs.symm (by omega)
                                have hfin : thn (f, h, 0) (fun t _ => sGrp b nn nr nt cc t) = (2, hc, 0) := (thn_k q0).trans (by show sGrp b nn nr nt cc h = _; unfold sGrp; exact thn_t sr_103 rfl (thn_t sr_117 rfl (thn_x hS9.symm (by omega))))
                                exact cut_156_3 v_101 (n + 1) I_539 J_541 AI_557 H locs ls zv_101 ⟨by omega, by omega⟩ hv hT pf ⟨_, _, by omega, hQ, hfin⟩ (by omega) (by omega) (fun b hb => (q_561 b hb).trans (fA9 b hb)) hH hS (lv_sub hl [6, 5, 1] rfl)
                              · exact absurd trivial (by omega)
                            · exact absurd (tIz_1 q_571 (by omega)).1 (by omega)
                          · exact absurd (mQ_z hQ (by omega)) (by omega)
                    · refine lv_iload_n F.1 F.2.1 dX7_groupTold_62 rfl (lv_at hl 2 rfl) ?_
                      refine lv_aload_n F.1 F.2.1 dX7_groupTold_63 rfl (lv_at hl 5 rfl) ?_
                      refine g_getI (ci := 7) (k := 23) F hH rfl (by decide) iX7 hm (by decide) rfl k97 dX7_groupTold_64 ?_
                      refine lv_ishr F.1 F.2.1 dX7_groupTold_67 ?_
                      refine z_top (fun v_576 zv_576 ev_576 => ?_)
                      refine z_iconst F dX7_groupTold_68 ?_
                      refine lv_iand F.1 F.2.1 dX7_groupTold_69 ?_
                      refine z_top (fun v_577 zv_577 ev_577 => ?_)
                      have hb69 : v_577 = mBit had (pV b nn hc) := by rw [ev_577, ev_576, show (I_120 mo 23).toInt = pV b nn hc by omega]; rfl
                      refine z_iconst F dX7_groupTold_70 ?_
                      refine z_icmp_ne (tgt := 79) F dX7_groupTold_71 (by decide) zv_577 ⟨by decide, by decide⟩ (fun c_578 => ?_) (fun c_578 => ?_)
                      · have hmem : ¬ pV b nn hc ∈ L := fun e9 => absurd ((hcn _ (by omega) (by omega)).mpr e9) (by omega)
                        refine lv_iload_n F.1 F.2.1 dX7_groupTold_79 rfl (lv_at hl 3 rfl) ?_
                        refine z_iconst F dX7_groupTold_80 ?_
                        refine z_icmp_ne (tgt := 98) F dX7_groupTold_81 (by decide) zn ⟨by decide, by decide⟩ (fun c_579 => ?_) (fun c_579 => ?_)
                        · refine lv_aload_n F.1 F.2.1 dX7_groupTold_98 rfl (lv_at hl 5 rfl) ?_
                          refine lv_aload_n F.1 F.2.1 dX7_groupTold_99 rfl (lv_at hl 5 rfl) ?_
                          refine lv_iload_n F.1 F.2.1 dX7_groupTold_100 rfl (lv_at hl 4 rfl) ?_
                          refine g_calli (g_runV (As := [.int (iI v_101)]) (rest := [.ref mo]) (ci := 7) F hl.1 hH hS hz (c_X7_columns l g gh T I_120 R J_121 AI_122 AJ AR mo v_101 zv_101 hv hm hT (by omega)) (cwV 1 F.2.2.2.2.1 (good_up gT_X7_columns) rfl rfl rfl hdX7_columns ⟨Nat.le_of_ble_eq_true rfl, Nat.le_of_ble_eq_true rfl⟩) hm (by decide) rfl rfl rfl (Nat.le_of_ble_eq_true rfl) dX7_groupTold_101 ⟨Nat.zero_le _, Nat.zero_le _⟩) hS (fun v_587 I_581 R_582 J_583 AI_584 AJ_585 AR_586 H locs zv_587 hp_588 hH hS => ?_)
                          dsimp only at hp_588
                          obtain ⟨rfl, rfl, rfl, rfl, rfl, rfl, q_580⟩ := hp_588
                          have cvv_587 : v_587 = cF b nn nr nt cc h := q_580.trans ((mQ_c hQ rfl vlr_103.1 vlr_103.2.1).trans vlr_103.2.2)
                          refine g_calli (g_runV (As := [.int (iI v_587)]) (rest := []) (ci := 7) F hl.1 hH hS hz (c_X7_columnf l g gh T b nn nr nt cc 0 hc I_120 R J_121 AI_122 AJ AR mo v_587 zv_587 hv hm hT (by omega) h65 hbM hr7 (by omega) hn9 (by omega) hQ) (cwV 1 F.2.2.2.2.1 (good_up gT_X7_column) rfl rfl rfl hdX7_column ⟨Nat.le_of_ble_eq_true rfl, Nat.le_of_ble_eq_true rfl⟩) hm (by decide) rfl rfl rfl (Nat.le_of_ble_eq_true rfl) dX7_groupTold_104 ⟨Nat.zero_le _, Nat.zero_le _⟩) hS (fun v_595 I_589 R_590 J_591 AI_592 AJ_593 AR_594 H locs zv_595 hp_596 hH hS => ?_)
                          dsimp only at hp_596
                          rw [show v_587 = cF b nn nr nt cc h by omega] at hp_596
                          obtain ⟨r_597, er_597⟩ : ∃ qQ : pR, qQ = thn (0, hc, 0) (fun t _ => sCol b nn (cF b nn nr nt cc h) t) := ⟨_, rfl⟩
                          rw [← er_597] at hp_596
                          obtain ⟨rfl, rfl, rfl, rfl, hv, pfq, q_598, q_599, hQ, q_600⟩ := hp_596
                          have pf := qF_t pf pfq
                          have u_601_2 : (I_589 mo 2).toInt = (I mo 2).toInt := by rw [pf 2 (by decide) (by decide) (by decide) (by decide) (by decide)]
                          have u_601_5 : (I_589 mo 5).toInt = (I mo 5).toInt := by rw [pf 5 (by decide) (by decide) (by decide) (by decide) (by decide)]
                          have u_601_14 : (I_589 mo 14).toInt = (I mo 14).toInt := by rw [pf 14 (by decide) (by decide) (by decide) (by decide) (by decide)]
                          have u_601_16 : (I_589 mo 16).toInt = (I mo 16).toInt := by rw [pf 16 (by decide) (by decide) (by decide) (by decide) (by decide)]
                          have u_601_18 : (I_589 mo 18).toInt = (I mo 18).toInt := by rw [pf 18 (by decide) (by decide) (by decide) (by decide) (by decide)]
                          have er_597 : r_597 = sCol b nn (cF b nn nr nt cc h) hc := er_597
                          have sr_597 := er_597
                          rcases sCol_c er_597 with ⟨er_597, pr_597⟩ | ⟨er_597, pr_597⟩
                          · have hQ : mQ gh I_589 J_591 AI_122 AJ mo b nn nr nt cc 0 (hc + 1) := by rw [er_597] at hQ; exact hQ
                            have sr_597 : sCol b nn (cF b nn nr nt cc h) hc = (0, hc + 1, pV b nn hc) := sr_597.symm.trans er_597
                            have vlr_597 := q_600 (by rw [er_597])
                            try rw [er_597] at vlr_597
                            try dsimp only at vlr_597
                            have kq_599 := q_599 (mQ_0 hQ rfl)
                            replace q_599 := hid q_599
                            obtain ⟨f1, ef1⟩ : ∃ q, q = (I_589 mo 24).toInt := ⟨_, rfl⟩
                            have hc1 : Hid (f1 = 0 → 0 ≤ v_595 ∧ v_595 ≤ 3) := fun h9 => by omega
                            refine lv_istore (lv' := [(6, .int (iI v_595)), (5, .int (iI 1)), (4, .int (iI mr)), (3, .int (iI had)), (2, .int (iI n)), (1, .int (iI v_101)), (0, .ref mo)]) F.1 F.2.1 dX7_groupTold_107 hl (by decide) rfl (fun ls hl => ?_)
                            refine lv_aload_n F.1 F.2.1 dX7_groupTold_109 rfl (lv_at hl 6 rfl) ?_
                            refine g_getI (ci := 7) (k := 24) F hH rfl (by decide) iX7 hm (by decide) rfl k81 dX7_groupTold_110 ?_
                            have b_602 := mJ hv hm
                            unfold mNum1 at b_602
                            refine z_if_ne (tgt := 123) F dX7_groupTold_113 (by decide) (zr_t _) (fun c_603 => ?_) (fun c_603 => ?_)
                            · exact absurd (mQ_0 hQ rfl) (by omega)
                            · refine lv_iload_n F.1 F.2.1 dX7_groupTold_116 rfl (lv_at hl 3 rfl) ?_
                              refine z_iconst F dX7_groupTold_117 ?_
                              refine lv_iload F.1 F.2.1 dX7_groupTold_118 (lv_at hl 0 rfl) ?_
                              refine lv_ishl F.1 F.2.1 dX7_groupTold_120 ?_
                              refine z_top (fun v_604 zv_604 ev_604 => ?_)
                              refine lv_ior F.1 F.2.1 dX7_groupTold_121 ?_
                              refine z_top (fun v_605 zv_605 ev_605 => ?_)
                              have hcn : mGn v_605 (v_595 :: L) := mGn_s hcn (by omega) ev_604 ev_605
                              rw [show v_595 = pV b nn hc by omega] at hcn
                              refine lv_istore_n (lv' := [(3, .int (iI v_605)), (6, .int (iI v_595)), (5, .int (iI 1)), (4, .int (iI mr)), (2, .int (iI n)), (1, .int (iI v_101)), (0, .ref mo)]) F.1 F.2.1 dX7_groupTold_122 rfl hl (by decide) rfl (fun ls hl => ?_)
                              refine lv_aload_n F.1 F.2.1 dX7_groupTold_123 rfl (lv_at hl 6 rfl) ?_
                              refine lv_iload_n F.1 F.2.1 dX7_groupTold_124 rfl (lv_at hl 4 rfl) ?_
                              refine lv_iload F.1 F.2.1 dX7_groupTold_125 (lv_at hl 1 rfl) ?_
                              refine z_iconst F dX7_groupTold_127 ?_
                              refine z_iconst F dX7_groupTold_128 ?_
                              refine z_iconst F dX7_groupTold_129 ?_
                              refine g_callv (g_runV (As := [.int (iI n), .int (iI v_595), .int (iI 0), .int (iI 0), .int (iI 0)]) (rest := []) (ci := 7) F hl.1 hH hS hz (c_X7_setsPartg l g gh T M I_589 R J_591 AI_122 AJ AR mo n v_595 0 0 0 zn zv_595 ⟨by decide, by decide⟩ ⟨by decide, by decide⟩ ⟨by decide, by decide⟩ hv hm hT (by omega) (by omega) (by omega)) (cwV 5 F.2.2.2.2.1 (good_up gT_X7_setsPart) rfl rfl rfl hdX7_setsPart ⟨Nat.le_of_ble_eq_true rfl, Nat.le_of_ble_eq_true rfl⟩) hm (by decide) rfl rfl rfl (Nat.le_of_ble_eq_true rfl) dX7_groupTold_130 ⟨Nat.zero_le _, Nat.zero_le _⟩) hS (fun I_606 R_607 J_608 AI_609 AJ_610 AR_611 H locs hp_612 hH hS => ?_)
                              dsimp only at hp_612
                              obtain ⟨rfl, rfl, rfl, rfl, rfl, hv, hT, hsp, q_613⟩ := hp_612
                              replace hsp := hid hsp
                              have hQ : mQ gh I_589 J_591 AI_609 AJ mo b nn nr nt cc 0 (hc + 1) := mQ_a hQ (fun hf9 z9 h09 h19 => (hsp hf9).1 z9 h09 (Or.inl (by omega)))
                              have hct := rBy_mk (b := b) (n := nn) (hc := hc) (k := n) (by omega) (hsp (mQ_0 hQ rfl)) (by omega)
                              have hqa := rAll_s rBy_l hqa hil (by omega) (Int.le_refl 0) (hsp (mQ_0 hQ rfl)) (by omega) hct
                              have hfr := frM_p hfr (by omega) (hsp (mQ_0 hQ rfl))
                              refine z_iinc (lv' := [(2, .int (iI (n + 1))), (3, .int (iI v_605)), (6, .int (iI v_595)), (5, .int (iI 1)), (4, .int (iI mr)), (1, .int (iI v_101)), (0, .ref mo)]) F dX7_groupTold_133 hl (k := 4) rfl (by decide) rfl (fun ls hl => ?_)
                              refine lv_aload_n F.1 F.2.1 dX7_groupTold_136 rfl (lv_at hl 6 rfl) ?_
                              refine z_bipush F dX7_groupTold_137 (by decide) ?_
                              refine g_calli (g_runV (As := [.int (iI 44)]) (rest := []) (ci := 7) F hl.1 hH hS hz (c_X7_isSignf l g gh T b nn nr nt cc 0 (hc + 1) I_589 R J_591 AI_609 AJ AR mo 44 ⟨by decide, by decide⟩ hv hm hT h65 hbM hr7 (by omega) hn9 (by omega) (by omega) hQ) (cwV 1 F.2.2.2.2.1 (good_up gT_X7_isSign) rfl rfl rfl hdX7_isSign ⟨Nat.le_of_ble_eq_true rfl, Nat.le_of_ble_eq_true rfl⟩) hm (by decide) rfl rfl rfl (Nat.le_of_ble_eq_true rfl) dX7_groupTold_139 ⟨Nat.zero_le _, Nat.zero_le _⟩) hS (fun v_620 I_614 R_615 J_616 AI_617 AJ_618 AR_619 H locs zv_620 hp_621 hH hS => ?_)
                              dsimp only at hp_621
                              obtain ⟨rfl, rfl, rfl, rfl, rfl, rfl, q_622, q_623⟩ := hp_621
                              replace q_622 := q_622.1
                              refine lv_istore (lv' := [(4, .int (iI v_620)), (2, .int (iI (n + 1))), (3, .int (iI v_605)), (6, .int (iI v_595)), (5, .int (iI 1)), (1, .int (iI v_101)), (0, .ref mo)]) F.1 F.2.1 dX7_groupTold_142 hl (by decide) rfl (fun ls hl => ?_)
                              refine lv_iload F.1 F.2.1 dX7_groupTold_144 (lv_at hl 0 rfl) ?_
                              refine z_if_eq (tgt := 153) F dX7_groupTold_146 (by decide) zv_620 (fun c_624 => ?_) (fun c_624 => ?_)
                              · have t_625 := tIz_n q_623 (by omega)
                                have hTs : sBy b nn (cF b nn nr nt cc h) n L hc = (0, hc + 1, pV b nn hc) := sBy_ok (by omega) hmem (by omega)
                                have hp : Hid ((I_589 mo 24).toInt = 0 → (n + 1) ≤ 3 ∧ grpP (AI_609 (gh 53 0)) M (n + 1)) := ((fun hf => ⟨by omega, grpP_step (by omega) (hp (by omega)).2 (hsp (by omega)) (by omega)⟩))
                                have hS9 : sBys b nn (cF b nn nr nt cc h) 4 0 [] (h + 2) = (0, hc + 1, n + 1) := sBys_st hsq (f := (3 - n).toNat) (by omega) hTs.symm rfl (by omega)
                                have hcnt := iL_st hil (by omega) (sBy_h hTs.symm rfl).1 (spC_n (by omega))
                                refine z_goto (tgt := 18) F dX7_groupTold_153 (by decide) ?_
                                refine lv_iload F.1 F.2.1 dX7_groupTold_18 (lv_at hl 0 rfl) ?_
                                refine z_if_eq (tgt := 156) F dX7_groupTold_20 (by decide) zv_620 (fun c_626 => ?_) (fun c_626 => ?_)
                                · have t_627 := tIz_n q_623 (by omega)
                                  obtain ⟨f3, ef3⟩ : ∃ q, q = (I_589 mo 24).toInt := ⟨_, rfl⟩
                                  have cut_209_627 : ∀ (fo : Int) (H : Heap) (locs : List Loc) (ls : Array Slot), zr fo → (-1 ≤ fo ∧ fo ≤ 3) → (pFo fo (pK b nn (hc + 1)) (pV b nn (hc + 1))) → gH g I_589 R J_591 AI_609 AJ AR H → va_S (gA g) s.heap H locs → lv_has ls 7 [(4, .int (iI v_620)), (2, .int (iI (n + 1))), (3, .int (iI v_605)), (6, .int (iI v_595)), (5, .int (iI 1)), (1, .int (iI v_101)), (0, .ref mo)] → W p l e rmX7_groupToldg s m ([.ref mo] : List Value).toArray below meth c H locs 0 0 (MQ below (gQv g (fun w : gS => R = w.2.1 ∧ AJ = w.2.2.2.2.1 ∧ AR = w.2.2.2.2.2 ∧ (mInv g gh R (w.1) (w.2.2.2.1)) ∧ ((w.2.2.2.1) (gh 50 0) = T) ∧ (qF mo I (w.1)) ∧ (((w.1) mo 20).toInt ≤ 936 ∧ (I mo 24).toInt ≤ ((w.1) mo 24).toInt) ∧ (((w.1) mo 24).toInt = 0 → ((w.1) mo 21).toInt = 4 → ((w.1) mo 23).toInt = 59 → rowOK ((w.2.2.2.1) (gh 53 0)) M) ∧ (((w.1) mo 24).toInt = 0 → tI ((w.2.2.2.1) (gh 53 0)) (40 * M) = 7) ∧ (mQ gh (w.1) (w.2.2.1) (w.2.2.2.1) AJ mo b nn nr nt cc (thn (f, h, 0) (fun t _ => sGrp b nn nr nt cc t)).1 (thn (f, h, 0) (fun t _ => sGrp b nn nr nt cc t)).2.1) ∧ (pIc (thn (f, h, 0) (fun t _ => sGrp b nn nr nt cc t)).1 (pK b nn (thn (f, h, 0) (fun t _ => sGrp b nn nr nt cc t)).2.1) (tI ((w.2.2.2.1) (gh 53 0)) (40 * (nr : Int) + 1)) (thn (f, h, 0) (fun t _ => sGrp b nn nr nt cc t)).2.2) ∧ (zIf (thn (f, h, 0) (fun t _ => sGrp b nn nr nt cc t)).1 (frM M (AI (gh 53 0)) ((w.2.2.2.1) (gh 53 0)))) ∧ (zIf (thn (f, h, 0) (fun t _ => sGrp b nn nr nt cc t)).1 (mGrp b nn nr nt h ((w.2.2.2.1) (gh 53 0)) M)) ∧ (∀ b, b ≠ gh 53 0 → (w.2.2.2.1) b = AI b))) ([.ref mo] : List Value).toArray s 0 0 (gA g)) (F0 m 209 ls [.int (iI fo)]) := by
                                    intro fo H locs ls zfo hfo hfo2 hH hS hl
                                    refine lv_istore (lv' := [(5, .int (iI fo)), (4, .int (iI v_620)), (2, .int (iI (n + 1))), (3, .int (iI v_605)), (6, .int (iI v_595)), (1, .int (iI v_101)), (0, .ref mo)]) F.1 F.2.1 dX7_groupTold_209 hl (by decide) rfl (fun ls hl => ?_)
                                    refine lv_iload F.1 F.2.1 dX7_groupTold_211 (lv_at hl 0 rfl) ?_
                                    refine z_if_ge (tgt := 221) F dX7_groupTold_213 (by decide) zfo (fun c_629 => ?_) (fun c_629 => ?_)
                                    · have yfo := pFo_y hfo2 (by omega)
                                      refine lv_aload_n F.1 F.2.1 dX7_groupTold_221 rfl (lv_at hl 6 rfl) ?_
                                      refine g_callv (g_runV (As := []) (rest := []) (ci := 7) F hl.1 hH hS hz (c_X7_nextf l g gh T b nn (tNd b nn (tPs b nn (hc + 1))) I_589 R J_591 AI_609 AJ AR mo hv hm hT (by omega) (mTp hv h65 hbM) hr7 (by omega) (by omega) (mQ_e0 hQ) tNd_le.1) (cwV 0 F.2.2.2.2.1 (good_up gT_X7_next) rfl rfl rfl hdX7_next ⟨Nat.le_of_ble_eq_true rfl, Nat.le_of_ble_eq_true rfl⟩) hm (by decide) rfl rfl rfl (Nat.le_of_ble_eq_true rfl) dX7_groupTold_222 ⟨Nat.zero_le _, Nat.zero_le _⟩) hS (fun I_630 R_631 J_632 AI_633 AJ_634 AR_635 H locs hp_636 hH hS => ?_)
                                      dsimp only at hp_636
                                      obtain ⟨rfl, rfl, rfl, rfl, hv, pfq, q_637, nx4, nxa, nxb⟩ := hp_636
                                      have pf := qF_t pf pfq
                                      have u_638_2 : (I_630 mo 2).toInt = (I mo 2).toInt := by rw [pf 2 (by decide) (by decide) (by decide) (by decide) (by decide)]
                                      have u_638_5 : (I_630 mo 5).toInt = (I mo 5).toInt := by rw [pf 5 (by decide) (by decide) (by decide) (by decide) (by decide)]
                                      have u_638_14 : (I_630 mo 14).toInt = (I mo 14).toInt := by rw [pf 14 (by decide) (by decide) (by decide) (by decide) (by decide)]
                                      have u_638_16 : (I_630 mo 16).toInt = (I mo 16).toInt := by rw [pf 16 (by decide) (by decide) (by decide) (by decide) (by decide)]
                                      have u_638_18 : (I_630 mo 18).toInt = (I mo 18).toInt := by rw [pf 18 (by decide) (by decide) (by decide) (by decide) (by decide)]
                                      have hQ : mQ gh I_630 J_632 AI_609 AJ mo b nn nr nt cc 0 (hc + 2) := mQ_nx hQ nx4 nxa
                                      clear nxa nxb
                                      refine lv_iload F.1 F.2.1 dX7_groupTold_225 (lv_at hl 0 rfl) ?_
                                      refine z_if_le (tgt := 242) F dX7_groupTold_227 (by decide) zfo (fun c_639 => ?_) (fun c_639 => ?_)
                                      · refine z_iconst F dX7_groupTold_242 ?_
                                        refine lv_istore (lv' := [(6, .int (iI 0)), (5, .int (iI fo)), (4, .int (iI v_620)), (2, .int (iI (n + 1))), (3, .int (iI v_605)), (1, .int (iI v_101)), (0, .ref mo)]) F.1 F.2.1 dX7_groupTold_243 hl (by decide) rfl (fun ls hl => ?_)
                                        refine lv_aload_n F.1 F.2.1 dX7_groupTold_245 rfl (lv_at hl 6 rfl) ?_
                                        refine lv_iload_n F.1 F.2.1 dX7_groupTold_246 rfl (lv_at hl 3 rfl) ?_
                                        refine lv_iload F.1 F.2.1 dX7_groupTold_247 (lv_at hl 0 rfl) ?_
                                        refine lv_iload F.1 F.2.1 dX7_groupTold_249 (lv_at hl 1 rfl) ?_
                                        refine z_iconst F dX7_groupTold_251 ?_
                                        refine z_iconst F dX7_groupTold_252 ?_
                                        have b_640 := mJ hv hm
                                        unfold mNum1 at b_640
                                        refine g_callv (g_runV (As := [.int (iI (n + 1)), .int (iI 0), .int (iI fo), .int (iI 0), .int (iI 0)]) (rest := []) (ci := 7) F hl.1 hH hS hz (c_X7_setsPartg l g gh T M I_630 R J_632 AI_609 AJ AR mo (n + 1) 0 fo 0 0 ⟨by omega, by omega⟩ ⟨by decide, by decide⟩ zfo ⟨by decide, by decide⟩ ⟨by decide, by decide⟩ hv hm hT (by omega) (by omega) (by omega)) (cwV 5 F.2.2.2.2.1 (good_up gT_X7_setsPart) rfl rfl rfl hdX7_setsPart ⟨Nat.le_of_ble_eq_true rfl, Nat.le_of_ble_eq_true rfl⟩) hm (by decide) rfl rfl rfl (Nat.le_of_ble_eq_true rfl) dX7_groupTold_253 ⟨Nat.zero_le _, Nat.zero_le _⟩) hS (fun I_641 R_642 J_643 AI_644 AJ_645 AR_646 H locs hp_647 hH hS => ?_)
                                        dsimp only at hp_647
                                        obtain ⟨rfl, rfl, rfl, rfl, rfl, hv, hT, hsp, q_648⟩ := hp_647
                                        replace hsp := hid hsp
                                        have hQ : mQ gh I_630 J_632 AI_644 AJ mo b nn nr nt cc 0 (hc + 2) := mQ_a hQ (fun hf9 z9 h09 h19 => (hsp hf9).1 z9 h09 (Or.inl (by omega)))
                                        have e99 : pV b nn (hc + 1 + 1) = pV b nn (hc + 2) := rfl
                                        have hft := mGrp_f (b := b) (n := nn) (hc := hc + 1) (hsp (mQ_0 hQ rfl)) hfo2 (by omega) (by omega)
                                        have hqa := rAll_p rBy_l (by omega) (Int.le_refl 0) (hsp (mQ_0 hQ rfl)) (by omega) hqa
                                        have hfr := frM_p hfr (by omega) (hsp (mQ_0 hQ rfl))
                                        refine lv_aload_n F.1 F.2.1 dX7_groupTold_256 rfl (lv_at hl 6 rfl) ?_
                                        refine z_bipush F dX7_groupTold_257 (by decide) ?_
                                        refine lv_iload_n F.1 F.2.1 dX7_groupTold_259 rfl (lv_at hl 3 rfl) ?_
                                        refine z_iconst F dX7_groupTold_260 ?_
                                        refine z_iadd F dX7_groupTold_261 ?_
                                        refine lv_iload_n F.1 F.2.1 dX7_groupTold_262 rfl (lv_at hl 5 rfl) ?_
                                        refine z_iconst F dX7_groupTold_263 ?_
                                        refine lv_iload_n F.1 F.2.1 dX7_groupTold_264 rfl (lv_at hl 3 rfl) ?_
                                        refine g_callv (g_runV (As := [.int (iI 7), .int (iI ((n + 1) + 1)), .int (iI v_101), .int (iI ((-1))), .int (iI (n + 1))]) (rest := []) (ci := 7) F hl.1 hH hS hz (c_X7_headerg l g gh T M I_630 R J_632 AI_644 AJ AR mo 7 ((n + 1) + 1) v_101 (-1) (n + 1) ⟨by decide, by decide⟩ ⟨by omega, by omega⟩ zv_101 ⟨by decide, by decide⟩ ⟨by omega, by omega⟩ hv hm hT (by omega) (by omega)) (cwV 5 F.2.2.2.2.1 (good_up gT_X7_header) rfl rfl rfl hdX7_header ⟨Nat.le_of_ble_eq_true rfl, Nat.le_of_ble_eq_true rfl⟩) hm (by decide) rfl rfl rfl (Nat.le_of_ble_eq_true rfl) dX7_groupTold_265 ⟨Nat.zero_le _, Nat.zero_le _⟩) hS (fun I_649 R_650 J_651 AI_652 AJ_653 AR_654 H locs hp_655 hH hS => ?_)
                                        dsimp only at hp_655
                                        obtain ⟨rfl, rfl, rfl, rfl, rfl, hv, hT, hhd, q_656⟩ := hp_655
                                        replace hhd := hid hhd
                                        have hQ : mQ gh I_630 J_632 AI_652 AJ mo b nn nr nt cc 0 (hc + 2) := mQ_a hQ (fun hf9 z9 h09 h19 => (hhd hf9).1 z9 h09 (Or.inl (by omega)))
                                        have hfr := frM_h hfr (hhd (mQ_0 hQ rfl))
                                        have hqa := rAll_h rBy_l (by omega) (Int.le_refl 0) (hhd (mQ_0 hQ rfl)) hqa
                                        have hft : mP (AI_652 (gh 53 0)) M (n + 1) 1 = _ ∧ mP (AI_652 (gh 53 0)) M (n + 1) 0 = _ := ⟨(hP_m (by omega) (by omega) (by decide) (hhd (mQ_0 hQ rfl))).trans hft.1, (hP_m (by omega) (by omega) (by decide) (hhd (mQ_0 hQ rfl))).trans hft.2⟩
                                        have hg9 : mP (AI_652 (gh 53 0)) M (n + 1) 1 = pV b nn (nxB (iPos nxB (h + 2) (iCnt nxB (spC b nn) 4 (h + 2) - 1))) - 16 ∧ mP (AI_652 (gh 53 0)) M (n + 1) 0 = (if pV b nn (nxB (iPos nxB (h + 2) (iCnt nxB (spC b nn) 4 (h + 2) - 1))) = 16 then 0 else pV b nn (nxB (iPos nxB (h + 2) (iCnt nxB (spC b nn) 4 (h + 2) - 1)) + 1)) := by rw [show iCnt nxB (spC b nn) 4 (h + 2) - 1 = n.toNat by omega, ← iL_p hil]; exact hft
                                        have hfin : thn (f, h, 0) (fun t _ => sGrp b nn nr nt cc t) = (0, hc + 2, n + 1 + 1) := (thn_k q0).trans (by show sGrp b nn nr nt cc h = _; unfold sGrp; exact thn_t sr_103 rfl (thn_t sr_117 rfl (thn_t hS9 rfl (sFo_0 (by omega) (by omega)))))
                                        exact g_vret F hr hlk hH hS hz ⟨rfl, rfl, rfl, hv, hT, pf, by first | (dsimp only; omega) | omega | rfl, by (try dsimp only); intro hf ht hn; have q9 := hp (by omega); exact row_mk (by omega) (hhd (by omega)) (by omega) (by omega) (by omega) (by omega) (fun h => absurd h (by omega)) (fun h => absurd h (by omega)) (fun h => absurd h (by omega)) (fun h => absurd h (by omega)) (fun h => absurd h (by omega)) (fun _ => ⟨by omega, grpP_step (by omega) q9.2 (hsp (by omega)) (by omega)⟩) (fun h => absurd h (by omega)), by (try dsimp only); intro hf; exact (hhd (by omega)).2.1, by (try dsimp only); rw [hfin]; exact hQ, by (try dsimp only); rw [hfin]; have q9 := (hhd (mQ_0 hQ rfl)).2.2.1; rw [show M = (nr : Int) by omega] at q9; (try dsimp only); exact pIc_y (by omega), by (try dsimp only); rw [hfin]; exact zIf_y (hfr), by (try dsimp only); rw [hfin]; exact zIf_y (⟨⟨(hhd (mQ_0 hQ rfl)).2.2.2.1.trans vfr_103, (hhd (mQ_0 hQ rfl)).2.2.2.2.1⟩, (hhd (mQ_0 hQ rfl)).2.2.2.2.2.trans (by omega), by rw [hcnt]; exact hqa, by rw [hcnt]; exact hg9.1, by rw [hcnt]; exact hg9.2⟩), fun b hb => (((q_656 b hb).trans (q_648 b hb)).trans (q_613 b hb)).trans (fA9 b hb)⟩ dX7_groupTold_268
                                      · refine lv_aload_n F.1 F.2.1 dX7_groupTold_230 rfl (lv_at hl 6 rfl) ?_
                                        refine lv_aload_n F.1 F.2.1 dX7_groupTold_231 rfl (lv_at hl 6 rfl) ?_
                                        refine lv_iload_n F.1 F.2.1 dX7_groupTold_232 rfl (lv_at hl 5 rfl) ?_
                                        have b_658 := mJ hv hm
                                        unfold mNum1 at b_658
                                        refine g_calli (g_runV (As := [.int (iI v_101)]) (rest := [.ref mo]) (ci := 7) F hl.1 hH hS hz (c_X7_columns l g gh T I_630 R J_632 AI_609 AJ AR mo v_101 zv_101 hv hm hT (by omega)) (cwV 1 F.2.2.2.2.1 (good_up gT_X7_columns) rfl rfl rfl hdX7_columns ⟨Nat.le_of_ble_eq_true rfl, Nat.le_of_ble_eq_true rfl⟩) hm (by decide) rfl rfl rfl (Nat.le_of_ble_eq_true rfl) dX7_groupTold_233 ⟨Nat.zero_le _, Nat.zero_le _⟩) hS (fun v_665 I_659 R_660 J_661 AI_662 AJ_663 AR_664 H locs zv_665 hp_666 hH hS => ?_)
                                        dsimp only at hp_666
                                        obtain ⟨rfl, rfl, rfl, rfl, rfl, rfl, q_657⟩ := hp_666
                                        have cvv_665 : v_665 = cF b nn nr nt cc h := q_657.trans ((mQ_c hQ rfl vlr_103.1 vlr_103.2.1).trans vlr_103.2.2)
                                        refine g_calli (g_runV (As := [.int (iI v_665)]) (rest := []) (ci := 7) F hl.1 hH hS hz (c_X7_columnf l g gh T b nn nr nt cc 0 (hc + 2) I_630 R J_632 AI_609 AJ AR mo v_665 zv_665 hv hm hT (by omega) h65 hbM hr7 (by omega) hn9 (by omega) hQ) (cwV 1 F.2.2.2.2.1 (good_up gT_X7_column) rfl rfl rfl hdX7_column ⟨Nat.le_of_ble_eq_true rfl, Nat.le_of_ble_eq_true rfl⟩) hm (by decide) rfl rfl rfl (Nat.le_of_ble_eq_true rfl) dX7_groupTold_236 ⟨Nat.zero_le _, Nat.zero_le _⟩) hS (fun v_673 I_667 R_668 J_669 AI_670 AJ_671 AR_672 H locs zv_673 hp_674 hH hS => ?_)
                                        dsimp only at hp_674
                                        rw [show v_665 = cF b nn nr nt cc h by omega] at hp_674
                                        obtain ⟨r_675, er_675⟩ : ∃ qQ : pR, qQ = thn (0, (hc + 2), 0) (fun t _ => sCol b nn (cF b nn nr nt cc h) t) := ⟨_, rfl⟩
                                        rw [← er_675] at hp_674
                                        obtain ⟨rfl, rfl, rfl, rfl, hv, pfq, q_676, q_677, hQ, q_678⟩ := hp_674
                                        have pf := qF_t pf pfq
                                        have u_679_2 : (I_667 mo 2).toInt = (I mo 2).toInt := by rw [pf 2 (by decide) (by decide) (by decide) (by decide) (by decide)]
                                        have u_679_5 : (I_667 mo 5).toInt = (I mo 5).toInt := by rw [pf 5 (by decide) (by decide) (by decide) (by decide) (by decide)]
                                        have u_679_14 : (I_667 mo 14).toInt = (I mo 14).toInt := by rw [pf 14 (by decide) (by decide) (by decide) (by decide) (by decide)]
                                        have u_679_16 : (I_667 mo 16).toInt = (I mo 16).toInt := by rw [pf 16 (by decide) (by decide) (by decide) (by decide) (by decide)]
                                        have u_679_18 : (I_667 mo 18).toInt = (I mo 18).toInt := by rw [pf 18 (by decide) (by decide) (by decide) (by decide) (by decide)]
                                        have er_675 : r_675 = sCol b nn (cF b nn nr nt cc h) (hc + 2) := er_675
                                        have sr_675 := er_675
                                        rcases sCol_c er_675 with ⟨er_675, pr_675⟩ | ⟨er_675, pr_675⟩
                                        · have hQ : mQ gh I_667 J_669 AI_609 AJ mo b nn nr nt cc 0 (hc + 3) := by rw [er_675] at hQ; exact hQ
                                          have sr_675 : sCol b nn (cF b nn nr nt cc h) (hc + 2) = (0, hc + 3, pV b nn (hc + 2)) := sr_675.symm.trans er_675
                                          have vlr_675 := q_678 (by rw [er_675])
                                          try rw [er_675] at vlr_675
                                          try dsimp only at vlr_675
                                          have kq_677 := q_677 (mQ_0 hQ rfl)
                                          replace q_677 := hid q_677
                                          refine z_goto (tgt := 243) F dX7_groupTold_239 (by decide) ?_
                                          refine lv_istore (lv' := [(6, .int (iI v_673)), (5, .int (iI fo)), (4, .int (iI v_620)), (2, .int (iI (n + 1))), (3, .int (iI v_605)), (1, .int (iI v_101)), (0, .ref mo)]) F.1 F.2.1 dX7_groupTold_243 hl (by decide) rfl (fun ls hl => ?_)
                                          refine lv_aload_n F.1 F.2.1 dX7_groupTold_245 rfl (lv_at hl 6 rfl) ?_
                                          refine lv_iload_n F.1 F.2.1 dX7_groupTold_246 rfl (lv_at hl 3 rfl) ?_
                                          refine lv_iload F.1 F.2.1 dX7_groupTold_247 (lv_at hl 0 rfl) ?_
                                          refine lv_iload F.1 F.2.1 dX7_groupTold_249 (lv_at hl 1 rfl) ?_
                                          refine z_iconst F dX7_groupTold_251 ?_
                                          refine z_iconst F dX7_groupTold_252 ?_
                                          have b_680 := mJ hv hm
                                          unfold mNum1 at b_680
                                          refine g_callv (g_runV (As := [.int (iI (n + 1)), .int (iI v_673), .int (iI fo), .int (iI 0), .int (iI 0)]) (rest := []) (ci := 7) F hl.1 hH hS hz (c_X7_setsPartg l g gh T M I_667 R J_669 AI_609 AJ AR mo (n + 1) v_673 fo 0 0 ⟨by omega, by omega⟩ zv_673 zfo ⟨by decide, by decide⟩ ⟨by decide, by decide⟩ hv hm hT (by omega) (by omega) (by omega)) (cwV 5 F.2.2.2.2.1 (good_up gT_X7_setsPart) rfl rfl rfl hdX7_setsPart ⟨Nat.le_of_ble_eq_true rfl, Nat.le_of_ble_eq_true rfl⟩) hm (by decide) rfl rfl rfl (Nat.le_of_ble_eq_true rfl) dX7_groupTold_253 ⟨Nat.zero_le _, Nat.zero_le _⟩) hS (fun I_681 R_682 J_683 AI_684 AJ_685 AR_686 H locs hp_687 hH hS => ?_)
                                          dsimp only at hp_687
                                          obtain ⟨rfl, rfl, rfl, rfl, rfl, hv, hT, hsp, q_688⟩ := hp_687
                                          replace hsp := hid hsp
                                          have hQ : mQ gh I_667 J_669 AI_684 AJ mo b nn nr nt cc 0 (hc + 3) := mQ_a hQ (fun hf9 z9 h09 h19 => (hsp hf9).1 z9 h09 (Or.inl (by omega)))
                                          have e99 : pV b nn (hc + 1 + 1) = pV b nn (hc + 2) := rfl
                                          have hft := mGrp_f (b := b) (n := nn) (hc := hc + 1) (hsp (mQ_0 hQ rfl)) hfo2 (by omega) (by omega)
                                          have hqa := rAll_p rBy_l (by omega) (Int.le_refl 0) (hsp (mQ_0 hQ rfl)) (by omega) hqa
                                          have hfr := frM_p hfr (by omega) (hsp (mQ_0 hQ rfl))
                                          refine lv_aload_n F.1 F.2.1 dX7_groupTold_256 rfl (lv_at hl 6 rfl) ?_
                                          refine z_bipush F dX7_groupTold_257 (by decide) ?_
                                          refine lv_iload_n F.1 F.2.1 dX7_groupTold_259 rfl (lv_at hl 3 rfl) ?_
                                          refine z_iconst F dX7_groupTold_260 ?_
                                          refine z_iadd F dX7_groupTold_261 ?_
                                          refine lv_iload_n F.1 F.2.1 dX7_groupTold_262 rfl (lv_at hl 5 rfl) ?_
                                          refine z_iconst F dX7_groupTold_263 ?_
                                          refine lv_iload_n F.1 F.2.1 dX7_groupTold_264 rfl (lv_at hl 3 rfl) ?_
                                          refine g_callv (g_runV (As := [.int (iI 7), .int (iI ((n + 1) + 1)), .int (iI v_101), .int (iI ((-1))), .int (iI (n + 1))]) (rest := []) (ci := 7) F hl.1 hH hS hz (c_X7_headerg l g gh T M I_667 R J_669 AI_684 AJ AR mo 7 ((n + 1) + 1) v_101 (-1) (n + 1) ⟨by decide, by decide⟩ ⟨by omega, by omega⟩ zv_101 ⟨by decide, by decide⟩ ⟨by omega, by omega⟩ hv hm hT (by omega) (by omega)) (cwV 5 F.2.2.2.2.1 (good_up gT_X7_header) rfl rfl rfl hdX7_header ⟨Nat.le_of_ble_eq_true rfl, Nat.le_of_ble_eq_true rfl⟩) hm (by decide) rfl rfl rfl (Nat.le_of_ble_eq_true rfl) dX7_groupTold_265 ⟨Nat.zero_le _, Nat.zero_le _⟩) hS (fun I_689 R_690 J_691 AI_692 AJ_693 AR_694 H locs hp_695 hH hS => ?_)
                                          dsimp only at hp_695
                                          obtain ⟨rfl, rfl, rfl, rfl, rfl, hv, hT, hhd, q_696⟩ := hp_695
                                          replace hhd := hid hhd
                                          have hQ : mQ gh I_667 J_669 AI_692 AJ mo b nn nr nt cc 0 (hc + 3) := mQ_a hQ (fun hf9 z9 h09 h19 => (hhd hf9).1 z9 h09 (Or.inl (by omega)))
                                          have hfr := frM_h hfr (hhd (mQ_0 hQ rfl))
                                          have hqa := rAll_h rBy_l (by omega) (Int.le_refl 0) (hhd (mQ_0 hQ rfl)) hqa
                                          have hft : mP (AI_692 (gh 53 0)) M (n + 1) 1 = _ ∧ mP (AI_692 (gh 53 0)) M (n + 1) 0 = _ := ⟨(hP_m (by omega) (by omega) (by decide) (hhd (mQ_0 hQ rfl))).trans hft.1, (hP_m (by omega) (by omega) (by decide) (hhd (mQ_0 hQ rfl))).trans hft.2⟩
                                          have hg9 : mP (AI_692 (gh 53 0)) M (n + 1) 1 = pV b nn (nxB (iPos nxB (h + 2) (iCnt nxB (spC b nn) 4 (h + 2) - 1))) - 16 ∧ mP (AI_692 (gh 53 0)) M (n + 1) 0 = (if pV b nn (nxB (iPos nxB (h + 2) (iCnt nxB (spC b nn) 4 (h + 2) - 1))) = 16 then 0 else pV b nn (nxB (iPos nxB (h + 2) (iCnt nxB (spC b nn) 4 (h + 2) - 1)) + 1)) := by rw [show iCnt nxB (spC b nn) 4 (h + 2) - 1 = n.toNat by omega, ← iL_p hil]; exact hft
                                          have hfin : thn (f, h, 0) (fun t _ => sGrp b nn nr nt cc t) = (0, hc + 3, n + 1 + 1) := (thn_k q0).trans (by show sGrp b nn nr nt cc h = _; unfold sGrp; exact thn_t sr_103 rfl (thn_t sr_117 rfl (thn_t hS9 rfl (sFo_c (by omega) (by omega) pr_675.1))))
                                          exact g_vret F hr hlk hH hS hz ⟨rfl, rfl, rfl, hv, hT, pf, by first | (dsimp only; omega) | omega | rfl, by (try dsimp only); intro hf ht hn; have q9 := hp (by omega); exact row_mk (by omega) (hhd (by omega)) (by omega) (by omega) (by omega) (by omega) (fun h => absurd h (by omega)) (fun h => absurd h (by omega)) (fun h => absurd h (by omega)) (fun h => absurd h (by omega)) (fun h => absurd h (by omega)) (fun _ => ⟨by omega, grpP_step (by omega) q9.2 (hsp (by omega)) (by omega)⟩) (fun h => absurd h (by omega)), by (try dsimp only); intro hf; exact (hhd (by omega)).2.1, by (try dsimp only); rw [hfin]; exact hQ, by (try dsimp only); rw [hfin]; have q9 := (hhd (mQ_0 hQ rfl)).2.2.1; rw [show M = (nr : Int) by omega] at q9; (try dsimp only); exact pIc_y (by omega), by (try dsimp only); rw [hfin]; exact zIf_y (hfr), by (try dsimp only); rw [hfin]; exact zIf_y (⟨⟨(hhd (mQ_0 hQ rfl)).2.2.2.1.trans vfr_103, (hhd (mQ_0 hQ rfl)).2.2.2.2.1⟩, (hhd (mQ_0 hQ rfl)).2.2.2.2.2.trans (by omega), by rw [hcnt]; exact hqa, by rw [hcnt]; exact hg9.1, by rw [hcnt]; exact hg9.2⟩), fun b hb => (((q_696 b hb).trans (q_688 b hb)).trans (q_613 b hb)).trans (fA9 b hb)⟩ dX7_groupTold_268
                                        · have hQ : mQ gh I_667 J_669 AI_609 AJ mo b nn nr nt cc (pCf b nn (cF b nn nr nt cc h) (hc + 2)) (hc + 2) := by rw [er_675] at hQ; exact hQ
                                          have sr_675 := sr_675.symm.trans er_675
                                          have g9r_675 := mQ_f hQ (by omega)
                                          replace q_677 := hid q_677
                                          refine z_goto (tgt := 243) F dX7_groupTold_239 (by decide) ?_
                                          refine lv_istore (lv' := [(6, .int (iI v_673)), (5, .int (iI fo)), (4, .int (iI v_620)), (2, .int (iI (n + 1))), (3, .int (iI v_605)), (1, .int (iI v_101)), (0, .ref mo)]) F.1 F.2.1 dX7_groupTold_243 hl (by decide) rfl (fun ls hl => ?_)
                                          refine lv_aload_n F.1 F.2.1 dX7_groupTold_245 rfl (lv_at hl 6 rfl) ?_
                                          refine lv_iload_n F.1 F.2.1 dX7_groupTold_246 rfl (lv_at hl 3 rfl) ?_
                                          refine lv_iload F.1 F.2.1 dX7_groupTold_247 (lv_at hl 0 rfl) ?_
                                          refine lv_iload F.1 F.2.1 dX7_groupTold_249 (lv_at hl 1 rfl) ?_
                                          refine z_iconst F dX7_groupTold_251 ?_
                                          refine z_iconst F dX7_groupTold_252 ?_
                                          have b_697 := mJ hv hm
                                          unfold mNum1 at b_697
                                          refine g_callv (g_runV (As := [.int (iI (n + 1)), .int (iI v_673), .int (iI fo), .int (iI 0), .int (iI 0)]) (rest := []) (ci := 7) F hl.1 hH hS hz (c_X7_setsPartg l g gh T M I_667 R J_669 AI_609 AJ AR mo (n + 1) v_673 fo 0 0 ⟨by omega, by omega⟩ zv_673 zfo ⟨by decide, by decide⟩ ⟨by decide, by decide⟩ hv hm hT (by omega) (by omega) (by omega)) (cwV 5 F.2.2.2.2.1 (good_up gT_X7_setsPart) rfl rfl rfl hdX7_setsPart ⟨Nat.le_of_ble_eq_true rfl, Nat.le_of_ble_eq_true rfl⟩) hm (by decide) rfl rfl rfl (Nat.le_of_ble_eq_true rfl) dX7_groupTold_253 ⟨Nat.zero_le _, Nat.zero_le _⟩) hS (fun I_698 R_699 J_700 AI_701 AJ_702 AR_703 H locs hp_704 hH hS => ?_)
                                          dsimp only at hp_704
                                          obtain ⟨rfl, rfl, rfl, rfl, rfl, hv, hT, hsp, q_705⟩ := hp_704
                                          replace hsp := hid hsp
                                          have hQ : mQ gh I_667 J_669 AI_701 AJ mo b nn nr nt cc (pCf b nn (cF b nn nr nt cc h) (hc + 2)) (hc + 2) := mQ_bad hQ (by omega) rfl
                                          refine lv_aload_n F.1 F.2.1 dX7_groupTold_256 rfl (lv_at hl 6 rfl) ?_
                                          refine z_bipush F dX7_groupTold_257 (by decide) ?_
                                          refine lv_iload_n F.1 F.2.1 dX7_groupTold_259 rfl (lv_at hl 3 rfl) ?_
                                          refine z_iconst F dX7_groupTold_260 ?_
                                          refine z_iadd F dX7_groupTold_261 ?_
                                          refine lv_iload_n F.1 F.2.1 dX7_groupTold_262 rfl (lv_at hl 5 rfl) ?_
                                          refine z_iconst F dX7_groupTold_263 ?_
                                          refine lv_iload_n F.1 F.2.1 dX7_groupTold_264 rfl (lv_at hl 3 rfl) ?_
                                          refine g_callv (g_runV (As := [.int (iI 7), .int (iI ((n + 1) + 1)), .int (iI v_101), .int (iI ((-1))), .int (iI (n + 1))]) (rest := []) (ci := 7) F hl.1 hH hS hz (c_X7_headerg l g gh T M I_667 R J_669 AI_701 AJ AR mo 7 ((n + 1) + 1) v_101 (-1) (n + 1) ⟨by decide, by decide⟩ ⟨by omega, by omega⟩ zv_101 ⟨by decide, by decide⟩ ⟨by omega, by omega⟩ hv hm hT (by omega) (by omega)) (cwV 5 F.2.2.2.2.1 (good_up gT_X7_header) rfl rfl rfl hdX7_header ⟨Nat.le_of_ble_eq_true rfl, Nat.le_of_ble_eq_true rfl⟩) hm (by decide) rfl rfl rfl (Nat.le_of_ble_eq_true rfl) dX7_groupTold_265 ⟨Nat.zero_le _, Nat.zero_le _⟩) hS (fun I_706 R_707 J_708 AI_709 AJ_710 AR_711 H locs hp_712 hH hS => ?_)
                                          dsimp only at hp_712
                                          obtain ⟨rfl, rfl, rfl, rfl, rfl, hv, hT, hhd, q_713⟩ := hp_712
                                          replace hhd := hid hhd
                                          have hQ : mQ gh I_667 J_669 AI_709 AJ mo b nn nr nt cc (pCf b nn (cF b nn nr nt cc h) (hc + 2)) (hc + 2) := mQ_bad hQ (by omega) rfl
                                          have hfin : thn (f, h, 0) (fun t _ => sGrp b nn nr nt cc t) = (pCf b nn (cF b nn nr nt cc h) (hc + 2), hc + 2, 0) := (thn_k q0).trans (by show sGrp b nn nr nt cc h = _; unfold sGrp; exact thn_t sr_103 rfl (thn_t sr_117 rfl (thn_t hS9 rfl (sFo_v (by omega) (by omega) pr_675.1))))
                                          exact g_vret F hr hlk hH hS hz ⟨rfl, rfl, rfl, hv, hT, pf, by first | (dsimp only; omega) | omega | rfl, by (try dsimp only); exact (fun hf => absurd hf (by omega)), by (try dsimp only); exact (fun hf => absurd hf (by omega)), by (try dsimp only); rw [hfin]; exact hQ, by (try dsimp only); rw [hfin]; exact pIc_n (by omega), by (try dsimp only); rw [hfin]; exact zIf_n (by omega), by (try dsimp only); rw [hfin]; exact zIf_n (by omega), fun b hb => (((q_713 b hb).trans (q_705 b hb)).trans (q_613 b hb)).trans (fA9 b hb)⟩ dX7_groupTold_268
                                    · have nfo := pFo_n hfo2 (by omega)
                                      refine lv_aload_n F.1 F.2.1 dX7_groupTold_216 rfl (lv_at hl 6 rfl) ?_
                                      refine z_iconst F dX7_groupTold_217 ?_
                                      refine g_callv (g_runV (As := [.int (iI 1)]) (rest := []) (ci := 7) F hl.1 hH hS hz (c_X7_wrongf l g gh T b nn nr nt cc 0 (hc + 1) I_589 R J_591 AI_609 AJ AR mo 1 ⟨by decide, by decide⟩ hv hm hT (by omega) h65 hbM hr7 (by omega) hn9 (by omega) hQ) (cwV 1 F.2.2.2.2.1 (good_up gT_X7_wrong) rfl rfl rfl hdX7_wrong ⟨Nat.le_of_ble_eq_true rfl, Nat.le_of_ble_eq_true rfl⟩) hm (by decide) rfl rfl rfl (Nat.le_of_ble_eq_true rfl) dX7_groupTold_218 ⟨Nat.zero_le _, Nat.zero_le _⟩) hS (fun I_714 R_715 J_716 AI_717 AJ_718 AR_719 H locs hp_720 hH hS => ?_)
                                      dsimp only at hp_720
                                      obtain ⟨r_721, er_721⟩ : ∃ qQ : pR, qQ = thn (0, (hc + 1), 0) (fun t _ => (1, t, 0)) := ⟨_, rfl⟩
                                      rw [← er_721] at hp_720
                                      obtain ⟨rfl, rfl, rfl, rfl, rfl, hv, pfq, q_722, hQ⟩ := hp_720
                                      have pf := qF_t pf pfq
                                      have u_723_2 : (I_714 mo 2).toInt = (I mo 2).toInt := by rw [pf 2 (by decide) (by decide) (by decide) (by decide) (by decide)]
                                      have u_723_5 : (I_714 mo 5).toInt = (I mo 5).toInt := by rw [pf 5 (by decide) (by decide) (by decide) (by decide) (by decide)]
                                      have u_723_14 : (I_714 mo 14).toInt = (I mo 14).toInt := by rw [pf 14 (by decide) (by decide) (by decide) (by decide) (by decide)]
                                      have u_723_16 : (I_714 mo 16).toInt = (I mo 16).toInt := by rw [pf 16 (by decide) (by decide) (by decide) (by decide) (by decide)]
                                      have u_723_18 : (I_714 mo 18).toInt = (I mo 18).toInt := by rw [pf 18 (by decide) (by decide) (by decide) (by decide) (by decide)]
                                      have er_721 : r_721 = (1, (hc + 1), 0) := er_721
                                      have hQ : mQ gh I_714 J_591 AI_609 AJ mo b nn nr nt cc 1 (hc + 1) := by rw [er_721] at hQ; exact hQ
                                      have q9_r_721 : (1 : Int) ≠ 0 := by omega
                                      have g9_r_721 := mQ_f hQ q9_r_721
                                      refine lv_aload_n F.1 F.2.1 dX7_groupTold_221 rfl (lv_at hl 6 rfl) ?_
                                      have b_724 := mJ hv hm
                                      unfold mNum1 at b_724
                                      refine g_callv (g_runV (As := []) (rest := []) (ci := 7) F hl.1 hH hS hz (c_X7_nextf l g gh T b nn (tNd b nn (tPs b nn (hc + 1))) I_714 R J_591 AI_609 AJ AR mo hv hm hT (by omega) (mTp hv h65 hbM) hr7 (by omega) (by omega) (mQ_e0 hQ) tNd_le.1) (cwV 0 F.2.2.2.2.1 (good_up gT_X7_next) rfl rfl rfl hdX7_next ⟨Nat.le_of_ble_eq_true rfl, Nat.le_of_ble_eq_true rfl⟩) hm (by decide) rfl rfl rfl (Nat.le_of_ble_eq_true rfl) dX7_groupTold_222 ⟨Nat.zero_le _, Nat.zero_le _⟩) hS (fun I_725 R_726 J_727 AI_728 AJ_729 AR_730 H locs hp_731 hH hS => ?_)
                                      dsimp only at hp_731
                                      obtain ⟨rfl, rfl, rfl, rfl, hv, pfq, q_732, nx4, nxa, nxb⟩ := hp_731
                                      have pf := qF_t pf pfq
                                      have u_733_2 : (I_725 mo 2).toInt = (I mo 2).toInt := by rw [pf 2 (by decide) (by decide) (by decide) (by decide) (by decide)]
                                      have u_733_5 : (I_725 mo 5).toInt = (I mo 5).toInt := by rw [pf 5 (by decide) (by decide) (by decide) (by decide) (by decide)]
                                      have u_733_14 : (I_725 mo 14).toInt = (I mo 14).toInt := by rw [pf 14 (by decide) (by decide) (by decide) (by decide) (by decide)]
                                      have u_733_16 : (I_725 mo 16).toInt = (I mo 16).toInt := by rw [pf 16 (by decide) (by decide) (by decide) (by decide) (by decide)]
                                      have u_733_18 : (I_725 mo 18).toInt = (I mo 18).toInt := by rw [pf 18 (by decide) (by decide) (by decide) (by decide) (by decide)]
                                      have hQ : mQ gh I_725 J_727 AI_609 AJ mo b nn nr nt cc 1 (hc + 1) := by have q9 := mQ_nx hQ nx4 nxa; rw [thn_b (by omega)] at q9; exact q9
                                      clear nxa nxb
                                      refine lv_iload F.1 F.2.1 dX7_groupTold_225 (lv_at hl 0 rfl) ?_
                                      refine z_if_le (tgt := 242) F dX7_groupTold_227 (by decide) zfo (fun c_734 => ?_) (fun c_734 => ?_)
                                      · have nfo := pFo_n hfo2 (by omega)
                                        refine z_iconst F dX7_groupTold_242 ?_
                                        refine lv_istore (lv' := [(6, .int (iI 0)), (5, .int (iI fo)), (4, .int (iI v_620)), (2, .int (iI (n + 1))), (3, .int (iI v_605)), (1, .int (iI v_101)), (0, .ref mo)]) F.1 F.2.1 dX7_groupTold_243 hl (by decide) rfl (fun ls hl => ?_)
                                        refine lv_aload_n F.1 F.2.1 dX7_groupTold_245 rfl (lv_at hl 6 rfl) ?_
                                        refine lv_iload_n F.1 F.2.1 dX7_groupTold_246 rfl (lv_at hl 3 rfl) ?_
                                        refine lv_iload F.1 F.2.1 dX7_groupTold_247 (lv_at hl 0 rfl) ?_
                                        refine lv_iload F.1 F.2.1 dX7_groupTold_249 (lv_at hl 1 rfl) ?_
                                        refine z_iconst F dX7_groupTold_251 ?_
                                        refine z_iconst F dX7_groupTold_252 ?_
                                        have b_735 := mJ hv hm
                                        unfold mNum1 at b_735
                                        refine g_callv (g_runV (As := [.int (iI (n + 1)), .int (iI 0), .int (iI fo), .int (iI 0), .int (iI 0)]) (rest := []) (ci := 7) F hl.1 hH hS hz (c_X7_setsPartg l g gh T M I_725 R J_727 AI_609 AJ AR mo (n + 1) 0 fo 0 0 ⟨by omega, by omega⟩ ⟨by decide, by decide⟩ zfo ⟨by decide, by decide⟩ ⟨by decide, by decide⟩ hv hm hT (by omega) (by omega) (by omega)) (cwV 5 F.2.2.2.2.1 (good_up gT_X7_setsPart) rfl rfl rfl hdX7_setsPart ⟨Nat.le_of_ble_eq_true rfl, Nat.le_of_ble_eq_true rfl⟩) hm (by decide) rfl rfl rfl (Nat.le_of_ble_eq_true rfl) dX7_groupTold_253 ⟨Nat.zero_le _, Nat.zero_le _⟩) hS (fun I_736 R_737 J_738 AI_739 AJ_740 AR_741 H locs hp_742 hH hS => ?_)
                                        dsimp only at hp_742
                                        obtain ⟨rfl, rfl, rfl, rfl, rfl, hv, hT, hsp, q_743⟩ := hp_742
                                        replace hsp := hid hsp
                                        have hQ : mQ gh I_725 J_727 AI_739 AJ mo b nn nr nt cc 1 (hc + 1) := mQ_bad hQ (by omega) rfl
                                        refine lv_aload_n F.1 F.2.1 dX7_groupTold_256 rfl (lv_at hl 6 rfl) ?_
                                        refine z_bipush F dX7_groupTold_257 (by decide) ?_
                                        refine lv_iload_n F.1 F.2.1 dX7_groupTold_259 rfl (lv_at hl 3 rfl) ?_
                                        refine z_iconst F dX7_groupTold_260 ?_
                                        refine z_iadd F dX7_groupTold_261 ?_
                                        refine lv_iload_n F.1 F.2.1 dX7_groupTold_262 rfl (lv_at hl 5 rfl) ?_
                                        refine z_iconst F dX7_groupTold_263 ?_
                                        refine lv_iload_n F.1 F.2.1 dX7_groupTold_264 rfl (lv_at hl 3 rfl) ?_
                                        refine g_callv (g_runV (As := [.int (iI 7), .int (iI ((n + 1) + 1)), .int (iI v_101), .int (iI ((-1))), .int (iI (n + 1))]) (rest := []) (ci := 7) F hl.1 hH hS hz (c_X7_headerg l g gh T M I_725 R J_727 AI_739 AJ AR mo 7 ((n + 1) + 1) v_101 (-1) (n + 1) ⟨by decide, by decide⟩ ⟨by omega, by omega⟩ zv_101 ⟨by decide, by decide⟩ ⟨by omega, by omega⟩ hv hm hT (by omega) (by omega)) (cwV 5 F.2.2.2.2.1 (good_up gT_X7_header) rfl rfl rfl hdX7_header ⟨Nat.le_of_ble_eq_true rfl, Nat.le_of_ble_eq_true rfl⟩) hm (by decide) rfl rfl rfl (Nat.le_of_ble_eq_true rfl) dX7_groupTold_265 ⟨Nat.zero_le _, Nat.zero_le _⟩) hS (fun I_744 R_745 J_746 AI_747 AJ_748 AR_749 H locs hp_750 hH hS => ?_)
                                        dsimp only at hp_750
                                        obtain ⟨rfl, rfl, rfl, rfl, rfl, hv, hT, hhd, q_751⟩ := hp_750
                                        replace hhd := hid hhd
                                        have hQ : mQ gh I_725 J_727 AI_747 AJ mo b nn nr nt cc 1 (hc + 1) := mQ_bad hQ (by omega) rfl
                                        have hfin : thn (f, h, 0) (fun t _ => sGrp b nn nr nt cc t) = (1, hc + 1, 0) := (thn_k q0).trans (by show sGrp b nn nr nt cc h = _; unfold sGrp; exact thn_t sr_103 rfl (thn_t sr_117 rfl (thn_t hS9 rfl (sFo_n nfo))))
                                        exact g_vret F hr hlk hH hS hz ⟨rfl, rfl, rfl, hv, hT, pf, by first | (dsimp only; omega) | omega | rfl, by (try dsimp only); exact (fun hf => absurd hf (by omega)), by (try dsimp only); exact (fun hf => absurd hf (by omega)), by (try dsimp only); rw [hfin]; exact hQ, by (try dsimp only); rw [hfin]; exact pIc_n (by omega), by (try dsimp only); rw [hfin]; exact zIf_n (by omega), by (try dsimp only); rw [hfin]; exact zIf_n (by omega), fun b hb => (((q_751 b hb).trans (q_743 b hb)).trans (q_613 b hb)).trans (fA9 b hb)⟩ dX7_groupTold_268
                                      · exact absurd trivial (by omega)
                                  refine lv_aload_n F.1 F.2.1 dX7_groupTold_156 rfl (lv_at hl 6 rfl) ?_
                                  refine va_ldcS F.1 F.2.1 F.2.2.2.1 (F.2.2.2.2.2.2.1 20 _ rfl).1 dX7_groupTold_157 ?_
                                  refine g_calli (g_runV (As := [.ref (gSK g 20)]) (rest := []) (ci := 7) F hl.1 hH hS hz (c_X7_isWordf l g gh T 20 _ 16 b nn nr nt cc 0 (hc + 1) I_589 R J_591 AI_609 AJ AR mo hv hm hT (rfl : sTab[20]? = some _) (by decide) (by decide +kernel) h65 hbM hr7 (by omega) hn9 (by omega) hQ) (cwV 1 F.2.2.2.2.1 (good_up gT_X7_isWord) rfl rfl rfl hdX7_isWord ⟨Nat.le_of_ble_eq_true rfl, Nat.le_of_ble_eq_true rfl⟩) hm (by decide) rfl rfl rfl (Nat.le_of_ble_eq_true rfl) dX7_groupTold_159 ⟨Nat.zero_le _, Nat.zero_le _⟩) hS (fun v_758 I_752 R_753 J_754 AI_755 AJ_756 AR_757 H locs zv_758 hp_759 hH hS => ?_)
                                  dsimp only at hp_759
                                  obtain ⟨rfl, rfl, rfl, rfl, rfl, rfl, q_760, q_761⟩ := hp_759
                                  refine z_if_eq (tgt := 169) F dX7_groupTold_162 (by decide) zv_758 (fun c_762 => ?_) (fun c_762 => ?_)
                                  · have t_763 := tIz_n q_761 (by omega)
                                    refine lv_aload_n F.1 F.2.1 dX7_groupTold_169 rfl (lv_at hl 6 rfl) ?_
                                    refine va_ldcS F.1 F.2.1 F.2.2.2.1 (F.2.2.2.2.2.2.1 21 _ rfl).1 dX7_groupTold_170 ?_
                                    refine g_calli (g_runV (As := [.ref (gSK g 21)]) (rest := []) (ci := 7) F hl.1 hH hS hz (c_X7_isWordf l g gh T 21 _ 17 b nn nr nt cc 0 (hc + 1) I_589 R J_591 AI_609 AJ AR mo hv hm hT (rfl : sTab[21]? = some _) (by decide) (by decide +kernel) h65 hbM hr7 (by omega) hn9 (by omega) hQ) (cwV 1 F.2.2.2.2.1 (good_up gT_X7_isWord) rfl rfl rfl hdX7_isWord ⟨Nat.le_of_ble_eq_true rfl, Nat.le_of_ble_eq_true rfl⟩) hm (by decide) rfl rfl rfl (Nat.le_of_ble_eq_true rfl) dX7_groupTold_172 ⟨Nat.zero_le _, Nat.zero_le _⟩) hS (fun v_770 I_764 R_765 J_766 AI_767 AJ_768 AR_769 H locs zv_770 hp_771 hH hS => ?_)
                                    dsimp only at hp_771
                                    obtain ⟨rfl, rfl, rfl, rfl, rfl, rfl, q_772, q_773⟩ := hp_771
                                    refine z_if_eq (tgt := 182) F dX7_groupTold_175 (by decide) zv_770 (fun c_774 => ?_) (fun c_774 => ?_)
                                    · have t_775 := tIz_n q_773 (by omega)
                                      refine lv_aload_n F.1 F.2.1 dX7_groupTold_182 rfl (lv_at hl 6 rfl) ?_
                                      refine va_ldcS F.1 F.2.1 F.2.2.2.1 (F.2.2.2.2.2.2.1 22 _ rfl).1 dX7_groupTold_183 ?_
                                      refine g_calli (g_runV (As := [.ref (gSK g 22)]) (rest := []) (ci := 7) F hl.1 hH hS hz (c_X7_isWordf l g gh T 22 _ 18 b nn nr nt cc 0 (hc + 1) I_589 R J_591 AI_609 AJ AR mo hv hm hT (rfl : sTab[22]? = some _) (by decide) (by decide +kernel) h65 hbM hr7 (by omega) hn9 (by omega) hQ) (cwV 1 F.2.2.2.2.1 (good_up gT_X7_isWord) rfl rfl rfl hdX7_isWord ⟨Nat.le_of_ble_eq_true rfl, Nat.le_of_ble_eq_true rfl⟩) hm (by decide) rfl rfl rfl (Nat.le_of_ble_eq_true rfl) dX7_groupTold_185 ⟨Nat.zero_le _, Nat.zero_le _⟩) hS (fun v_782 I_776 R_777 J_778 AI_779 AJ_780 AR_781 H locs zv_782 hp_783 hH hS => ?_)
                                      dsimp only at hp_783
                                      obtain ⟨rfl, rfl, rfl, rfl, rfl, rfl, q_784, q_785⟩ := hp_783
                                      refine z_if_eq (tgt := 195) F dX7_groupTold_188 (by decide) zv_782 (fun c_786 => ?_) (fun c_786 => ?_)
                                      · have t_787 := tIz_n q_785 (by omega)
                                        refine lv_aload_n F.1 F.2.1 dX7_groupTold_195 rfl (lv_at hl 6 rfl) ?_
                                        refine va_ldcS F.1 F.2.1 F.2.2.2.1 (F.2.2.2.2.2.2.1 23 _ rfl).1 dX7_groupTold_196 ?_
                                        refine g_calli (g_runV (As := [.ref (gSK g 23)]) (rest := []) (ci := 7) F hl.1 hH hS hz (c_X7_isWordf l g gh T 23 _ 19 b nn nr nt cc 0 (hc + 1) I_589 R J_591 AI_609 AJ AR mo hv hm hT (rfl : sTab[23]? = some _) (by decide) (by decide +kernel) h65 hbM hr7 (by omega) hn9 (by omega) hQ) (cwV 1 F.2.2.2.2.1 (good_up gT_X7_isWord) rfl rfl rfl hdX7_isWord ⟨Nat.le_of_ble_eq_true rfl, Nat.le_of_ble_eq_true rfl⟩) hm (by decide) rfl rfl rfl (Nat.le_of_ble_eq_true rfl) dX7_groupTold_198 ⟨Nat.zero_le _, Nat.zero_le _⟩) hS (fun v_794 I_788 R_789 J_790 AI_791 AJ_792 AR_793 H locs zv_794 hp_795 hH hS => ?_)
                                        dsimp only at hp_795
                                        obtain ⟨rfl, rfl, rfl, rfl, rfl, rfl, q_796, q_797⟩ := hp_795
                                        refine z_if_eq (tgt := 208) F dX7_groupTold_201 (by decide) zv_794 (fun c_798 => ?_) (fun c_798 => ?_)
                                        · have t_799 := tIz_n q_797 (by omega)
                                          refine z_iconst F dX7_groupTold_208 ?_
                                          exact cut_209_627 (-1) H locs ls ⟨by decide, by decide⟩ (by omega) (by first | exact Or.inr ⟨by decide, by omega, by omega, by decide⟩ | exact Or.inl ⟨rfl, by omega⟩) hH hS (lv_sub hl [0, 1, 2, 3, 4, 5, 6] rfl)
                                        · have t_800 := tIz_y q_797 (by omega)
                                          refine z_iconst F dX7_groupTold_204 ?_
                                          refine z_goto (tgt := 209) F dX7_groupTold_205 (by decide) ?_
                                          exact cut_209_627 3 H locs ls ⟨by decide, by decide⟩ (by omega) (by first | exact Or.inr ⟨by decide, by omega, by omega, by decide⟩ | exact Or.inl ⟨rfl, by omega⟩) hH hS (lv_sub hl [0, 1, 2, 3, 4, 5, 6] rfl)
                                      · have t_801 := tIz_y q_785 (by omega)
                                        refine z_iconst F dX7_groupTold_191 ?_
                                        refine z_goto (tgt := 209) F dX7_groupTold_192 (by decide) ?_
                                        exact cut_209_627 2 H locs ls ⟨by decide, by decide⟩ (by omega) (by first | exact Or.inr ⟨by decide, by omega, by omega, by decide⟩ | exact Or.inl ⟨rfl, by omega⟩) hH hS (lv_sub hl [0, 1, 2, 3, 4, 5, 6] rfl)
                                    · have t_802 := tIz_y q_773 (by omega)
                                      refine z_iconst F dX7_groupTold_178 ?_
                                      refine z_goto (tgt := 209) F dX7_groupTold_179 (by decide) ?_
                                      exact cut_209_627 1 H locs ls ⟨by decide, by decide⟩ (by omega) (by first | exact Or.inr ⟨by decide, by omega, by omega, by decide⟩ | exact Or.inl ⟨rfl, by omega⟩) hH hS (lv_sub hl [0, 1, 2, 3, 4, 5, 6] rfl)
                                  · have t_803 := tIz_y q_761 (by omega)
                                    refine z_iconst F dX7_groupTold_165 ?_
                                    refine z_goto (tgt := 209) F dX7_groupTold_166 (by decide) ?_
                                    exact cut_209_627 0 H locs ls ⟨by decide, by decide⟩ (by omega) (by first | exact Or.inr ⟨by decide, by omega, by omega, by decide⟩ | exact Or.inl ⟨rfl, by omega⟩) hH hS (lv_sub hl [0, 1, 2, 3, 4, 5, 6] rfl)
                                · exact absurd trivial (by omega)
                              · have t_804 := tIz_y q_623 (by omega)
                                refine lv_aload_n F.1 F.2.1 dX7_groupTold_149 rfl (lv_at hl 6 rfl) ?_
                                refine g_callv (g_runV (As := []) (rest := []) (ci := 7) F hl.1 hH hS hz (c_X7_nextf l g gh T b nn (tNd b nn (tPs b nn (hc + 1))) I_589 R J_591 AI_609 AJ AR mo hv hm hT (by omega) (mTp hv h65 hbM) hr7 (by omega) (by omega) (mQ_e0 hQ) tNd_le.1) (cwV 0 F.2.2.2.2.1 (good_up gT_X7_next) rfl rfl rfl hdX7_next ⟨Nat.le_of_ble_eq_true rfl, Nat.le_of_ble_eq_true rfl⟩) hm (by decide) rfl rfl rfl (Nat.le_of_ble_eq_true rfl) dX7_groupTold_150 ⟨Nat.zero_le _, Nat.zero_le _⟩) hS (fun I_805 R_806 J_807 AI_808 AJ_809 AR_810 H locs hp_811 hH hS => ?_)
                                dsimp only at hp_811
                                obtain ⟨rfl, rfl, rfl, rfl, hv, pfq, q_812, nx4, nxa, nxb⟩ := hp_811
                                have pf := qF_t pf pfq
                                have u_813_2 : (I_805 mo 2).toInt = (I mo 2).toInt := by rw [pf 2 (by decide) (by decide) (by decide) (by decide) (by decide)]
                                have u_813_5 : (I_805 mo 5).toInt = (I mo 5).toInt := by rw [pf 5 (by decide) (by decide) (by decide) (by decide) (by decide)]
                                have u_813_14 : (I_805 mo 14).toInt = (I mo 14).toInt := by rw [pf 14 (by decide) (by decide) (by decide) (by decide) (by decide)]
                                have u_813_16 : (I_805 mo 16).toInt = (I mo 16).toInt := by rw [pf 16 (by decide) (by decide) (by decide) (by decide) (by decide)]
                                have u_813_18 : (I_805 mo 18).toInt = (I mo 18).toInt := by rw [pf 18 (by decide) (by decide) (by decide) (by decide) (by decide)]
                                have hQ : mQ gh I_805 J_807 AI_609 AJ mo b nn nr nt cc 0 (hc + 2) := mQ_nx hQ nx4 nxa
                                clear nxa nxb
                                have hTs : sBy b nn (cF b nn nr nt cc h) n L hc = (0, hc + 1, pV b nn hc) := sBy_ok (by omega) hmem (by omega)
                                have hsq := sBys_go hsq (f := (3 - n).toNat) (by omega) hTs.symm rfl (by omega)
                                have hil := iL_go hil (by omega) (sBy_h hTs.symm rfl).1 (spC_y (by omega))
                                refine z_goto (tgt := 18) F dX7_groupTold_153 (by decide) ?_
                                exact ih18 (n + 1) v_605 v_620 I_805 J_807 AI_609 H locs ls ⟨by omega, by omega⟩ zv_605 zv_620 hv hT pf (by omega) ((fun hf => ⟨by omega, grpP_step (by omega) (hp (by omega)).2 (hsp (by omega)) (by omega)⟩)) ⟨_, _, hQ, by rw [show (4 - (n + 1)).toNat = (3 - n).toNat by omega]; exact hsq, hcn, hil, hqa⟩ (by omega) hfr (fun b hb => (q_613 b hb).trans (fA9 b hb)) (by omega) hH hS (lv_sub hl [0, 2, 1, 5, 6] rfl)
                          · have hQ : mQ gh I_589 J_591 AI_122 AJ mo b nn nr nt cc (pCf b nn (cF b nn nr nt cc h) hc) hc := by rw [er_597] at hQ; exact hQ
                            have sr_597 := sr_597.symm.trans er_597
                            have g9r_597 := mQ_f hQ (by omega)
                            replace q_599 := hid q_599
                            obtain ⟨f1, ef1⟩ : ∃ q, q = (I_589 mo 24).toInt := ⟨_, rfl⟩
                            have hc1 : Hid (f1 = 0 → 0 ≤ v_595 ∧ v_595 ≤ 3) := fun h9 => by omega
                            refine lv_istore (lv' := [(6, .int (iI v_595)), (5, .int (iI 1)), (4, .int (iI mr)), (3, .int (iI had)), (2, .int (iI n)), (1, .int (iI v_101)), (0, .ref mo)]) F.1 F.2.1 dX7_groupTold_107 hl (by decide) rfl (fun ls hl => ?_)
                            refine lv_aload_n F.1 F.2.1 dX7_groupTold_109 rfl (lv_at hl 6 rfl) ?_
                            refine g_getI (ci := 7) (k := 24) F hH rfl (by decide) iX7 hm (by decide) rfl k81 dX7_groupTold_110 ?_
                            have b_814 := mJ hv hm
                            unfold mNum1 at b_814
                            refine z_if_ne (tgt := 123) F dX7_groupTold_113 (by decide) (zr_t _) (fun c_815 => ?_) (fun c_815 => ?_)
                            · refine lv_aload_n F.1 F.2.1 dX7_groupTold_123 rfl (lv_at hl 6 rfl) ?_
                              refine lv_iload_n F.1 F.2.1 dX7_groupTold_124 rfl (lv_at hl 4 rfl) ?_
                              refine lv_iload F.1 F.2.1 dX7_groupTold_125 (lv_at hl 0 rfl) ?_
                              refine z_iconst F dX7_groupTold_127 ?_
                              refine z_iconst F dX7_groupTold_128 ?_
                              refine z_iconst F dX7_groupTold_129 ?_
                              refine g_callv (g_runV (As := [.int (iI n), .int (iI v_595), .int (iI 0), .int (iI 0), .int (iI 0)]) (rest := []) (ci := 7) F hl.1 hH hS hz (c_X7_setsPartg l g gh T M I_589 R J_591 AI_122 AJ AR mo n v_595 0 0 0 zn zv_595 ⟨by decide, by decide⟩ ⟨by decide, by decide⟩ ⟨by decide, by decide⟩ hv hm hT (by omega) (by omega) (by omega)) (cwV 5 F.2.2.2.2.1 (good_up gT_X7_setsPart) rfl rfl rfl hdX7_setsPart ⟨Nat.le_of_ble_eq_true rfl, Nat.le_of_ble_eq_true rfl⟩) hm (by decide) rfl rfl rfl (Nat.le_of_ble_eq_true rfl) dX7_groupTold_130 ⟨Nat.zero_le _, Nat.zero_le _⟩) hS (fun I_816 R_817 J_818 AI_819 AJ_820 AR_821 H locs hp_822 hH hS => ?_)
                              dsimp only at hp_822
                              obtain ⟨rfl, rfl, rfl, rfl, rfl, hv, hT, hsp, q_823⟩ := hp_822
                              replace hsp := hid hsp
                              have hQ : mQ gh I_589 J_591 AI_819 AJ mo b nn nr nt cc (pCf b nn (cF b nn nr nt cc h) hc) hc := mQ_bad hQ (by omega) rfl
                              refine z_iinc (lv' := [(2, .int (iI (n + 1))), (6, .int (iI v_595)), (5, .int (iI 1)), (4, .int (iI mr)), (3, .int (iI had)), (1, .int (iI v_101)), (0, .ref mo)]) F dX7_groupTold_133 hl (k := 4) rfl (by decide) rfl (fun ls hl => ?_)
                              refine lv_aload_n F.1 F.2.1 dX7_groupTold_136 rfl (lv_at hl 6 rfl) ?_
                              refine z_bipush F dX7_groupTold_137 (by decide) ?_
                              refine g_calli (g_runV (As := [.int (iI 44)]) (rest := []) (ci := 7) F hl.1 hH hS hz (c_X7_isSignf l g gh T b nn nr nt cc (pCf b nn (cF b nn nr nt cc h) hc) hc I_589 R J_591 AI_819 AJ AR mo 44 ⟨by decide, by decide⟩ hv hm hT h65 hbM hr7 (by omega) hn9 (by omega) (by omega) hQ) (cwV 1 F.2.2.2.2.1 (good_up gT_X7_isSign) rfl rfl rfl hdX7_isSign ⟨Nat.le_of_ble_eq_true rfl, Nat.le_of_ble_eq_true rfl⟩) hm (by decide) rfl rfl rfl (Nat.le_of_ble_eq_true rfl) dX7_groupTold_139 ⟨Nat.zero_le _, Nat.zero_le _⟩) hS (fun v_830 I_824 R_825 J_826 AI_827 AJ_828 AR_829 H locs zv_830 hp_831 hH hS => ?_)
                              dsimp only at hp_831
                              obtain ⟨rfl, rfl, rfl, rfl, rfl, rfl, q_832, q_833⟩ := hp_831
                              replace q_832 := q_832.1
                              refine lv_istore (lv' := [(4, .int (iI v_830)), (2, .int (iI (n + 1))), (6, .int (iI v_595)), (5, .int (iI 1)), (3, .int (iI had)), (1, .int (iI v_101)), (0, .ref mo)]) F.1 F.2.1 dX7_groupTold_142 hl (by decide) rfl (fun ls hl => ?_)
                              refine lv_iload F.1 F.2.1 dX7_groupTold_144 (lv_at hl 0 rfl) ?_
                              refine z_if_eq (tgt := 153) F dX7_groupTold_146 (by decide) zv_830 (fun c_834 => ?_) (fun c_834 => ?_)
                              · have t_835 := tIz_0 q_833 (by omega)
                                refine z_goto (tgt := 18) F dX7_groupTold_153 (by decide) ?_
                                refine lv_iload F.1 F.2.1 dX7_groupTold_18 (lv_at hl 0 rfl) ?_
                                refine z_if_eq (tgt := 156) F dX7_groupTold_20 (by decide) zv_830 (fun c_836 => ?_) (fun c_836 => ?_)
                                · have t_837 := tIz_0 q_833 (by omega)
                                  have hTs : sBy b nn (cF b nn nr nt cc h) n L hc = (pCf b nn (cF b nn nr nt cc h) hc, hc, 0) := sBy_x (by omega)
                                  have hS9 : sBys b nn (cF b nn nr nt cc h) 4 0 [] (h + 2) = (pCf b nn (cF b nn nr nt cc h) hc, hc, 0) := sBys_no hsq (f := (3 - n).toNat) (by omega) hTs.symm (by omega)
                                  have hfin : thn (f, h, 0) (fun t _ => sGrp b nn nr nt cc t) = (pCf b nn (cF b nn nr nt cc h) hc, hc, 0) := (thn_k q0).trans (by show sGrp b nn nr nt cc h = _; unfold sGrp; exact thn_t sr_103 rfl (thn_t sr_117 rfl (thn_x hS9.symm (by omega))))
                                  exact cut_156_3 v_101 (n + 1) I_589 J_591 AI_819 H locs ls zv_101 ⟨by omega, by omega⟩ hv hT pf ⟨_, _, by omega, hQ, hfin⟩ (by omega) (by omega) (fun b hb => (q_823 b hb).trans (fA9 b hb)) hH hS (lv_sub hl [6, 5, 1] rfl)
                                · exact absurd trivial (by omega)
                              · exact absurd (tIz_1 q_833 (by omega)).1 (by omega)
                            · exact absurd (mQ_z hQ (by omega)) (by omega)
                        · refine lv_aload_n F.1 F.2.1 dX7_groupTold_84 rfl (lv_at hl 5 rfl) ?_
                          refine lv_iload F.1 F.2.1 dX7_groupTold_85 (lv_at hl 0 rfl) ?_
                          refine z_if_eq (tgt := 94) F dX7_groupTold_87 (by decide) ⟨by decide, by decide⟩ (fun c_838 => ?_) (fun c_838 => ?_)
                          · exact absurd trivial (by omega)
                          · refine z_iconst F dX7_groupTold_90 ?_
                            refine z_goto (tgt := 95) F dX7_groupTold_91 (by decide) ?_
                            refine g_callv (g_runV (As := [.int (iI 4)]) (rest := []) (ci := 7) F hl.1 hH hS hz (c_X7_wrongf l g gh T b nn nr nt cc 0 hc I_120 R J_121 AI_122 AJ AR mo 4 ⟨by decide, by decide⟩ hv hm hT (by omega) h65 hbM hr7 (by omega) hn9 (by omega) hQ) (cwV 1 F.2.2.2.2.1 (good_up gT_X7_wrong) rfl rfl rfl hdX7_wrong ⟨Nat.le_of_ble_eq_true rfl, Nat.le_of_ble_eq_true rfl⟩) hm (by decide) rfl rfl rfl (Nat.le_of_ble_eq_true rfl) dX7_groupTold_95 ⟨Nat.zero_le _, Nat.zero_le _⟩) hS (fun I_839 R_840 J_841 AI_842 AJ_843 AR_844 H locs hp_845 hH hS => ?_)
                            dsimp only at hp_845
                            obtain ⟨r_846, er_846⟩ : ∃ qQ : pR, qQ = thn (0, hc, 0) (fun t _ => (4, t, 0)) := ⟨_, rfl⟩
                            rw [← er_846] at hp_845
                            obtain ⟨rfl, rfl, rfl, rfl, rfl, hv, pfq, q_847, hQ⟩ := hp_845
                            have pf := qF_t pf pfq
                            have u_848_2 : (I_839 mo 2).toInt = (I mo 2).toInt := by rw [pf 2 (by decide) (by decide) (by decide) (by decide) (by decide)]
                            have u_848_5 : (I_839 mo 5).toInt = (I mo 5).toInt := by rw [pf 5 (by decide) (by decide) (by decide) (by decide) (by decide)]
                            have u_848_14 : (I_839 mo 14).toInt = (I mo 14).toInt := by rw [pf 14 (by decide) (by decide) (by decide) (by decide) (by decide)]
                            have u_848_16 : (I_839 mo 16).toInt = (I mo 16).toInt := by rw [pf 16 (by decide) (by decide) (by decide) (by decide) (by decide)]
                            have u_848_18 : (I_839 mo 18).toInt = (I mo 18).toInt := by rw [pf 18 (by decide) (by decide) (by decide) (by decide) (by decide)]
                            have er_846 : r_846 = (4, hc, 0) := er_846
                            have hQ : mQ gh I_839 J_121 AI_122 AJ mo b nn nr nt cc 4 hc := by rw [er_846] at hQ; exact hQ
                            have q9_r_846 : (4 : Int) ≠ 0 := by omega
                            have g9_r_846 := mQ_f hQ q9_r_846
                            refine lv_aload_n F.1 F.2.1 dX7_groupTold_98 rfl (lv_at hl 5 rfl) ?_
                            refine lv_aload_n F.1 F.2.1 dX7_groupTold_99 rfl (lv_at hl 5 rfl) ?_
                            refine lv_iload_n F.1 F.2.1 dX7_groupTold_100 rfl (lv_at hl 4 rfl) ?_
                            have b_850 := mJ hv hm
                            unfold mNum1 at b_850
                            refine g_calli (g_runV (As := [.int (iI v_101)]) (rest := [.ref mo]) (ci := 7) F hl.1 hH hS hz (c_X7_columns l g gh T I_839 R J_121 AI_122 AJ AR mo v_101 zv_101 hv hm hT (by omega)) (cwV 1 F.2.2.2.2.1 (good_up gT_X7_columns) rfl rfl rfl hdX7_columns ⟨Nat.le_of_ble_eq_true rfl, Nat.le_of_ble_eq_true rfl⟩) hm (by decide) rfl rfl rfl (Nat.le_of_ble_eq_true rfl) dX7_groupTold_101 ⟨Nat.zero_le _, Nat.zero_le _⟩) hS (fun v_857 I_851 R_852 J_853 AI_854 AJ_855 AR_856 H locs zv_857 hp_858 hH hS => ?_)
                            dsimp only at hp_858
                            obtain ⟨rfl, rfl, rfl, rfl, rfl, rfl, q_849⟩ := hp_858
                            refine g_calli (g_runV (As := [.int (iI v_857)]) (rest := []) (ci := 7) F hl.1 hH hS hz (c_X7_columnf l g gh T b nn nr nt cc 4 hc I_839 R J_121 AI_122 AJ AR mo v_857 zv_857 hv hm hT (by omega) h65 hbM hr7 (by omega) hn9 (by omega) hQ) (cwV 1 F.2.2.2.2.1 (good_up gT_X7_column) rfl rfl rfl hdX7_column ⟨Nat.le_of_ble_eq_true rfl, Nat.le_of_ble_eq_true rfl⟩) hm (by decide) rfl rfl rfl (Nat.le_of_ble_eq_true rfl) dX7_groupTold_104 ⟨Nat.zero_le _, Nat.zero_le _⟩) hS (fun v_865 I_859 R_860 J_861 AI_862 AJ_863 AR_864 H locs zv_865 hp_866 hH hS => ?_)
                            dsimp only at hp_866
                            obtain ⟨r_867, er_867⟩ : ∃ qQ : pR, qQ = thn (4, hc, 0) (fun t _ => sCol b nn v_857 t) := ⟨_, rfl⟩
                            rw [← er_867] at hp_866
                            obtain ⟨rfl, rfl, rfl, rfl, hv, pfq, q_868, q_869, hQ, q_870⟩ := hp_866
                            have pf := qF_t pf pfq
                            have u_871_2 : (I_859 mo 2).toInt = (I mo 2).toInt := by rw [pf 2 (by decide) (by decide) (by decide) (by decide) (by decide)]
                            have u_871_5 : (I_859 mo 5).toInt = (I mo 5).toInt := by rw [pf 5 (by decide) (by decide) (by decide) (by decide) (by decide)]
                            have u_871_14 : (I_859 mo 14).toInt = (I mo 14).toInt := by rw [pf 14 (by decide) (by decide) (by decide) (by decide) (by decide)]
                            have u_871_16 : (I_859 mo 16).toInt = (I mo 16).toInt := by rw [pf 16 (by decide) (by decide) (by decide) (by decide) (by decide)]
                            have u_871_18 : (I_859 mo 18).toInt = (I mo 18).toInt := by rw [pf 18 (by decide) (by decide) (by decide) (by decide) (by decide)]
                            rw [thn_b (by omega)] at er_867
                            have hQ : mQ gh I_859 J_861 AI_122 AJ mo b nn nr nt cc 4 hc := by rw [er_867] at hQ; exact hQ
                            replace q_869 := hid q_869
                            obtain ⟨f1, ef1⟩ : ∃ q, q = (I_859 mo 24).toInt := ⟨_, rfl⟩
                            have hc1 : Hid (f1 = 0 → 0 ≤ v_865 ∧ v_865 ≤ 3) := fun h9 => by omega
                            refine lv_istore (lv' := [(6, .int (iI v_865)), (5, .int (iI 1)), (4, .int (iI mr)), (3, .int (iI had)), (2, .int (iI n)), (1, .int (iI v_101)), (0, .ref mo)]) F.1 F.2.1 dX7_groupTold_107 hl (by decide) rfl (fun ls hl => ?_)
                            refine lv_aload_n F.1 F.2.1 dX7_groupTold_109 rfl (lv_at hl 6 rfl) ?_
                            refine g_getI (ci := 7) (k := 24) F hH rfl (by decide) iX7 hm (by decide) rfl k81 dX7_groupTold_110 ?_
                            have b_872 := mJ hv hm
                            unfold mNum1 at b_872
                            refine z_if_ne (tgt := 123) F dX7_groupTold_113 (by decide) (zr_t _) (fun c_873 => ?_) (fun c_873 => ?_)
                            · refine lv_aload_n F.1 F.2.1 dX7_groupTold_123 rfl (lv_at hl 6 rfl) ?_
                              refine lv_iload_n F.1 F.2.1 dX7_groupTold_124 rfl (lv_at hl 4 rfl) ?_
                              refine lv_iload F.1 F.2.1 dX7_groupTold_125 (lv_at hl 0 rfl) ?_
                              refine z_iconst F dX7_groupTold_127 ?_
                              refine z_iconst F dX7_groupTold_128 ?_
                              refine z_iconst F dX7_groupTold_129 ?_
                              refine g_callv (g_runV (As := [.int (iI n), .int (iI v_865), .int (iI 0), .int (iI 0), .int (iI 0)]) (rest := []) (ci := 7) F hl.1 hH hS hz (c_X7_setsPartg l g gh T M I_859 R J_861 AI_122 AJ AR mo n v_865 0 0 0 zn zv_865 ⟨by decide, by decide⟩ ⟨by decide, by decide⟩ ⟨by decide, by decide⟩ hv hm hT (by omega) (by omega) (by omega)) (cwV 5 F.2.2.2.2.1 (good_up gT_X7_setsPart) rfl rfl rfl hdX7_setsPart ⟨Nat.le_of_ble_eq_true rfl, Nat.le_of_ble_eq_true rfl⟩) hm (by decide) rfl rfl rfl (Nat.le_of_ble_eq_true rfl) dX7_groupTold_130 ⟨Nat.zero_le _, Nat.zero_le _⟩) hS (fun I_874 R_875 J_876 AI_877 AJ_878 AR_879 H locs hp_880 hH hS => ?_)
                              dsimp only at hp_880
                              obtain ⟨rfl, rfl, rfl, rfl, rfl, hv, hT, hsp, q_881⟩ := hp_880
                              replace hsp := hid hsp
                              have hQ : mQ gh I_859 J_861 AI_877 AJ mo b nn nr nt cc 4 hc := mQ_bad hQ (by omega) rfl
                              refine z_iinc (lv' := [(2, .int (iI (n + 1))), (6, .int (iI v_865)), (5, .int (iI 1)), (4, .int (iI mr)), (3, .int (iI had)), (1, .int (iI v_101)), (0, .ref mo)]) F dX7_groupTold_133 hl (k := 4) rfl (by decide) rfl (fun ls hl => ?_)
                              refine lv_aload_n F.1 F.2.1 dX7_groupTold_136 rfl (lv_at hl 6 rfl) ?_
                              refine z_bipush F dX7_groupTold_137 (by decide) ?_
                              refine g_calli (g_runV (As := [.int (iI 44)]) (rest := []) (ci := 7) F hl.1 hH hS hz (c_X7_isSignf l g gh T b nn nr nt cc 4 hc I_859 R J_861 AI_877 AJ AR mo 44 ⟨by decide, by decide⟩ hv hm hT h65 hbM hr7 (by omega) hn9 (by omega) (by omega) hQ) (cwV 1 F.2.2.2.2.1 (good_up gT_X7_isSign) rfl rfl rfl hdX7_isSign ⟨Nat.le_of_ble_eq_true rfl, Nat.le_of_ble_eq_true rfl⟩) hm (by decide) rfl rfl rfl (Nat.le_of_ble_eq_true rfl) dX7_groupTold_139 ⟨Nat.zero_le _, Nat.zero_le _⟩) hS (fun v_888 I_882 R_883 J_884 AI_885 AJ_886 AR_887 H locs zv_888 hp_889 hH hS => ?_)
                              dsimp only at hp_889
                              obtain ⟨rfl, rfl, rfl, rfl, rfl, rfl, q_890, q_891⟩ := hp_889
                              replace q_890 := q_890.1
                              refine lv_istore (lv' := [(4, .int (iI v_888)), (2, .int (iI (n + 1))), (6, .int (iI v_865)), (5, .int (iI 1)), (3, .int (iI had)), (1, .int (iI v_101)), (0, .ref mo)]) F.1 F.2.1 dX7_groupTold_142 hl (by decide) rfl (fun ls hl => ?_)
                              refine lv_iload F.1 F.2.1 dX7_groupTold_144 (lv_at hl 0 rfl) ?_
                              refine z_if_eq (tgt := 153) F dX7_groupTold_146 (by decide) zv_888 (fun c_892 => ?_) (fun c_892 => ?_)
                              · have t_893 := tIz_0 q_891 (by omega)
                                refine z_goto (tgt := 18) F dX7_groupTold_153 (by decide) ?_
                                refine lv_iload F.1 F.2.1 dX7_groupTold_18 (lv_at hl 0 rfl) ?_
                                refine z_if_eq (tgt := 156) F dX7_groupTold_20 (by decide) zv_888 (fun c_894 => ?_) (fun c_894 => ?_)
                                · have t_895 := tIz_0 q_891 (by omega)
                                  have hTs : sBy b nn (cF b nn nr nt cc h) n L hc = (4, hc, 0) := sBy_4 (pCf_ok (by omega) (by omega)) hmem (by omega)
                                  have hS9 : sBys b nn (cF b nn nr nt cc h) 4 0 [] (h + 2) = (4, hc, 0) := sBys_no hsq (f := (3 - n).toNat) (by omega) hTs.symm (by omega)
                                  have hfin : thn (f, h, 0) (fun t _ => sGrp b nn nr nt cc t) = (4, hc, 0) := (thn_k q0).trans (by show sGrp b nn nr nt cc h = _; unfold sGrp; exact thn_t sr_103 rfl (thn_t sr_117 rfl (thn_x hS9.symm (by omega))))
                                  exact cut_156_3 v_101 (n + 1) I_859 J_861 AI_877 H locs ls zv_101 ⟨by omega, by omega⟩ hv hT pf ⟨_, _, by omega, hQ, hfin⟩ (by omega) (by omega) (fun b hb => (q_881 b hb).trans (fA9 b hb)) hH hS (lv_sub hl [6, 5, 1] rfl)
                                · exact absurd trivial (by omega)
                              · exact absurd (tIz_1 q_891 (by omega)).1 (by omega)
                            · exact absurd (mQ_z hQ (by omega)) (by omega)
                      · have hmem : pV b nn hc ∈ L := (hcn _ (by omega) (by omega)).mp (by omega)
                        refine lv_aload_n F.1 F.2.1 dX7_groupTold_74 rfl (lv_at hl 5 rfl) ?_
                        refine z_iconst F dX7_groupTold_75 ?_
                        refine g_callv (g_runV (As := [.int (iI 2)]) (rest := []) (ci := 7) F hl.1 hH hS hz (c_X7_wrongf l g gh T b nn nr nt cc 0 hc I_120 R J_121 AI_122 AJ AR mo 2 ⟨by decide, by decide⟩ hv hm hT (by omega) h65 hbM hr7 (by omega) hn9 (by omega) hQ) (cwV 1 F.2.2.2.2.1 (good_up gT_X7_wrong) rfl rfl rfl hdX7_wrong ⟨Nat.le_of_ble_eq_true rfl, Nat.le_of_ble_eq_true rfl⟩) hm (by decide) rfl rfl rfl (Nat.le_of_ble_eq_true rfl) dX7_groupTold_76 ⟨Nat.zero_le _, Nat.zero_le _⟩) hS (fun I_896 R_897 J_898 AI_899 AJ_900 AR_901 H locs hp_902 hH hS => ?_)
                        dsimp only at hp_902
                        obtain ⟨r_903, er_903⟩ : ∃ qQ : pR, qQ = thn (0, hc, 0) (fun t _ => (2, t, 0)) := ⟨_, rfl⟩
                        rw [← er_903] at hp_902
                        obtain ⟨rfl, rfl, rfl, rfl, rfl, hv, pfq, q_904, hQ⟩ := hp_902
                        have pf := qF_t pf pfq
                        have u_905_2 : (I_896 mo 2).toInt = (I mo 2).toInt := by rw [pf 2 (by decide) (by decide) (by decide) (by decide) (by decide)]
                        have u_905_5 : (I_896 mo 5).toInt = (I mo 5).toInt := by rw [pf 5 (by decide) (by decide) (by decide) (by decide) (by decide)]
                        have u_905_14 : (I_896 mo 14).toInt = (I mo 14).toInt := by rw [pf 14 (by decide) (by decide) (by decide) (by decide) (by decide)]
                        have u_905_16 : (I_896 mo 16).toInt = (I mo 16).toInt := by rw [pf 16 (by decide) (by decide) (by decide) (by decide) (by decide)]
                        have u_905_18 : (I_896 mo 18).toInt = (I mo 18).toInt := by rw [pf 18 (by decide) (by decide) (by decide) (by decide) (by decide)]
                        have er_903 : r_903 = (2, hc, 0) := er_903
                        have hQ : mQ gh I_896 J_121 AI_122 AJ mo b nn nr nt cc 2 hc := by rw [er_903] at hQ; exact hQ
                        have q9_r_903 : (2 : Int) ≠ 0 := by omega
                        have g9_r_903 := mQ_f hQ q9_r_903
                        refine lv_iload_n F.1 F.2.1 dX7_groupTold_79 rfl (lv_at hl 3 rfl) ?_
                        refine z_iconst F dX7_groupTold_80 ?_
                        refine z_icmp_ne (tgt := 98) F dX7_groupTold_81 (by decide) zn ⟨by decide, by decide⟩ (fun c_906 => ?_) (fun c_906 => ?_)
                        · refine lv_aload_n F.1 F.2.1 dX7_groupTold_98 rfl (lv_at hl 5 rfl) ?_
                          refine lv_aload_n F.1 F.2.1 dX7_groupTold_99 rfl (lv_at hl 5 rfl) ?_
                          refine lv_iload_n F.1 F.2.1 dX7_groupTold_100 rfl (lv_at hl 4 rfl) ?_
                          have b_908 := mJ hv hm
                          unfold mNum1 at b_908
                          refine g_calli (g_runV (As := [.int (iI v_101)]) (rest := [.ref mo]) (ci := 7) F hl.1 hH hS hz (c_X7_columns l g gh T I_896 R J_121 AI_122 AJ AR mo v_101 zv_101 hv hm hT (by omega)) (cwV 1 F.2.2.2.2.1 (good_up gT_X7_columns) rfl rfl rfl hdX7_columns ⟨Nat.le_of_ble_eq_true rfl, Nat.le_of_ble_eq_true rfl⟩) hm (by decide) rfl rfl rfl (Nat.le_of_ble_eq_true rfl) dX7_groupTold_101 ⟨Nat.zero_le _, Nat.zero_le _⟩) hS (fun v_915 I_909 R_910 J_911 AI_912 AJ_913 AR_914 H locs zv_915 hp_916 hH hS => ?_)
                          dsimp only at hp_916
                          obtain ⟨rfl, rfl, rfl, rfl, rfl, rfl, q_907⟩ := hp_916
                          refine g_calli (g_runV (As := [.int (iI v_915)]) (rest := []) (ci := 7) F hl.1 hH hS hz (c_X7_columnf l g gh T b nn nr nt cc 2 hc I_896 R J_121 AI_122 AJ AR mo v_915 zv_915 hv hm hT (by omega) h65 hbM hr7 (by omega) hn9 (by omega) hQ) (cwV 1 F.2.2.2.2.1 (good_up gT_X7_column) rfl rfl rfl hdX7_column ⟨Nat.le_of_ble_eq_true rfl, Nat.le_of_ble_eq_true rfl⟩) hm (by decide) rfl rfl rfl (Nat.le_of_ble_eq_true rfl) dX7_groupTold_104 ⟨Nat.zero_le _, Nat.zero_le _⟩) hS (fun v_923 I_917 R_918 J_919 AI_920 AJ_921 AR_922 H locs zv_923 hp_924 hH hS => ?_)
                          dsimp only at hp_924
                          obtain ⟨r_925, er_925⟩ : ∃ qQ : pR, qQ = thn (2, hc, 0) (fun t _ => sCol b nn v_915 t) := ⟨_, rfl⟩
                          rw [← er_925] at hp_924
                          obtain ⟨rfl, rfl, rfl, rfl, hv, pfq, q_926, q_927, hQ, q_928⟩ := hp_924
                          have pf := qF_t pf pfq
                          have u_929_2 : (I_917 mo 2).toInt = (I mo 2).toInt := by rw [pf 2 (by decide) (by decide) (by decide) (by decide) (by decide)]
                          have u_929_5 : (I_917 mo 5).toInt = (I mo 5).toInt := by rw [pf 5 (by decide) (by decide) (by decide) (by decide) (by decide)]
                          have u_929_14 : (I_917 mo 14).toInt = (I mo 14).toInt := by rw [pf 14 (by decide) (by decide) (by decide) (by decide) (by decide)]
                          have u_929_16 : (I_917 mo 16).toInt = (I mo 16).toInt := by rw [pf 16 (by decide) (by decide) (by decide) (by decide) (by decide)]
                          have u_929_18 : (I_917 mo 18).toInt = (I mo 18).toInt := by rw [pf 18 (by decide) (by decide) (by decide) (by decide) (by decide)]
                          rw [thn_b (by omega)] at er_925
                          have hQ : mQ gh I_917 J_919 AI_122 AJ mo b nn nr nt cc 2 hc := by rw [er_925] at hQ; exact hQ
                          replace q_927 := hid q_927
                          obtain ⟨f1, ef1⟩ : ∃ q, q = (I_917 mo 24).toInt := ⟨_, rfl⟩
                          have hc1 : Hid (f1 = 0 → 0 ≤ v_923 ∧ v_923 ≤ 3) := fun h9 => by omega
                          refine lv_istore (lv' := [(6, .int (iI v_923)), (5, .int (iI 1)), (4, .int (iI mr)), (3, .int (iI had)), (2, .int (iI n)), (1, .int (iI v_101)), (0, .ref mo)]) F.1 F.2.1 dX7_groupTold_107 hl (by decide) rfl (fun ls hl => ?_)
                          refine lv_aload_n F.1 F.2.1 dX7_groupTold_109 rfl (lv_at hl 6 rfl) ?_
                          refine g_getI (ci := 7) (k := 24) F hH rfl (by decide) iX7 hm (by decide) rfl k81 dX7_groupTold_110 ?_
                          have b_930 := mJ hv hm
                          unfold mNum1 at b_930
                          refine z_if_ne (tgt := 123) F dX7_groupTold_113 (by decide) (zr_t _) (fun c_931 => ?_) (fun c_931 => ?_)
                          · refine lv_aload_n F.1 F.2.1 dX7_groupTold_123 rfl (lv_at hl 6 rfl) ?_
                            refine lv_iload_n F.1 F.2.1 dX7_groupTold_124 rfl (lv_at hl 4 rfl) ?_
                            refine lv_iload F.1 F.2.1 dX7_groupTold_125 (lv_at hl 0 rfl) ?_
                            refine z_iconst F dX7_groupTold_127 ?_
                            refine z_iconst F dX7_groupTold_128 ?_
                            refine z_iconst F dX7_groupTold_129 ?_
                            refine g_callv (g_runV (As := [.int (iI n), .int (iI v_923), .int (iI 0), .int (iI 0), .int (iI 0)]) (rest := []) (ci := 7) F hl.1 hH hS hz (c_X7_setsPartg l g gh T M I_917 R J_919 AI_122 AJ AR mo n v_923 0 0 0 zn zv_923 ⟨by decide, by decide⟩ ⟨by decide, by decide⟩ ⟨by decide, by decide⟩ hv hm hT (by omega) (by omega) (by omega)) (cwV 5 F.2.2.2.2.1 (good_up gT_X7_setsPart) rfl rfl rfl hdX7_setsPart ⟨Nat.le_of_ble_eq_true rfl, Nat.le_of_ble_eq_true rfl⟩) hm (by decide) rfl rfl rfl (Nat.le_of_ble_eq_true rfl) dX7_groupTold_130 ⟨Nat.zero_le _, Nat.zero_le _⟩) hS (fun I_932 R_933 J_934 AI_935 AJ_936 AR_937 H locs hp_938 hH hS => ?_)
                            dsimp only at hp_938
                            obtain ⟨rfl, rfl, rfl, rfl, rfl, hv, hT, hsp, q_939⟩ := hp_938
                            replace hsp := hid hsp
                            have hQ : mQ gh I_917 J_919 AI_935 AJ mo b nn nr nt cc 2 hc := mQ_bad hQ (by omega) rfl
                            refine z_iinc (lv' := [(2, .int (iI (n + 1))), (6, .int (iI v_923)), (5, .int (iI 1)), (4, .int (iI mr)), (3, .int (iI had)), (1, .int (iI v_101)), (0, .ref mo)]) F dX7_groupTold_133 hl (k := 4) rfl (by decide) rfl (fun ls hl => ?_)
                            refine lv_aload_n F.1 F.2.1 dX7_groupTold_136 rfl (lv_at hl 6 rfl) ?_
                            refine z_bipush F dX7_groupTold_137 (by decide) ?_
                            refine g_calli (g_runV (As := [.int (iI 44)]) (rest := []) (ci := 7) F hl.1 hH hS hz (c_X7_isSignf l g gh T b nn nr nt cc 2 hc I_917 R J_919 AI_935 AJ AR mo 44 ⟨by decide, by decide⟩ hv hm hT h65 hbM hr7 (by omega) hn9 (by omega) (by omega) hQ) (cwV 1 F.2.2.2.2.1 (good_up gT_X7_isSign) rfl rfl rfl hdX7_isSign ⟨Nat.le_of_ble_eq_true rfl, Nat.le_of_ble_eq_true rfl⟩) hm (by decide) rfl rfl rfl (Nat.le_of_ble_eq_true rfl) dX7_groupTold_139 ⟨Nat.zero_le _, Nat.zero_le _⟩) hS (fun v_946 I_940 R_941 J_942 AI_943 AJ_944 AR_945 H locs zv_946 hp_947 hH hS => ?_)
                            dsimp only at hp_947
                            obtain ⟨rfl, rfl, rfl, rfl, rfl, rfl, q_948, q_949⟩ := hp_947
                            replace q_948 := q_948.1
                            refine lv_istore (lv' := [(4, .int (iI v_946)), (2, .int (iI (n + 1))), (6, .int (iI v_923)), (5, .int (iI 1)), (3, .int (iI had)), (1, .int (iI v_101)), (0, .ref mo)]) F.1 F.2.1 dX7_groupTold_142 hl (by decide) rfl (fun ls hl => ?_)
                            refine lv_iload F.1 F.2.1 dX7_groupTold_144 (lv_at hl 0 rfl) ?_
                            refine z_if_eq (tgt := 153) F dX7_groupTold_146 (by decide) zv_946 (fun c_950 => ?_) (fun c_950 => ?_)
                            · have t_951 := tIz_0 q_949 (by omega)
                              refine z_goto (tgt := 18) F dX7_groupTold_153 (by decide) ?_
                              refine lv_iload F.1 F.2.1 dX7_groupTold_18 (lv_at hl 0 rfl) ?_
                              refine z_if_eq (tgt := 156) F dX7_groupTold_20 (by decide) zv_946 (fun c_952 => ?_) (fun c_952 => ?_)
                              · have t_953 := tIz_0 q_949 (by omega)
                                have hTs : sBy b nn (cF b nn nr nt cc h) n L hc = (2, hc, 0) := sBy_2 (pCf_ok (by omega) (by omega)) hmem
                                have hS9 : sBys b nn (cF b nn nr nt cc h) 4 0 [] (h + 2) = (2, hc, 0) := sBys_no hsq (f := (3 - n).toNat) (by omega) hTs.symm (by omega)
                                have hfin : thn (f, h, 0) (fun t _ => sGrp b nn nr nt cc t) = (2, hc, 0) := (thn_k q0).trans (by show sGrp b nn nr nt cc h = _; unfold sGrp; exact thn_t sr_103 rfl (thn_t sr_117 rfl (thn_x hS9.symm (by omega))))
                                exact cut_156_3 v_101 (n + 1) I_917 J_919 AI_935 H locs ls zv_101 ⟨by omega, by omega⟩ hv hT pf ⟨_, _, by omega, hQ, hfin⟩ (by omega) (by omega) (fun b hb => (q_939 b hb).trans (fA9 b hb)) hH hS (lv_sub hl [6, 5, 1] rfl)
                              · exact absurd trivial (by omega)
                            · exact absurd (tIz_1 q_949 (by omega)).1 (by omega)
                          · exact absurd (mQ_z hQ (by omega)) (by omega)
                        · refine lv_aload_n F.1 F.2.1 dX7_groupTold_84 rfl (lv_at hl 5 rfl) ?_
                          refine lv_iload F.1 F.2.1 dX7_groupTold_85 (lv_at hl 0 rfl) ?_
                          refine z_if_eq (tgt := 94) F dX7_groupTold_87 (by decide) ⟨by decide, by decide⟩ (fun c_954 => ?_) (fun c_954 => ?_)
                          · exact absurd trivial (by omega)
                          · refine z_iconst F dX7_groupTold_90 ?_
                            refine z_goto (tgt := 95) F dX7_groupTold_91 (by decide) ?_
                            have b_955 := mJ hv hm
                            unfold mNum1 at b_955
                            refine g_callv (g_runV (As := [.int (iI 4)]) (rest := []) (ci := 7) F hl.1 hH hS hz (c_X7_wrongf l g gh T b nn nr nt cc 2 hc I_896 R J_121 AI_122 AJ AR mo 4 ⟨by decide, by decide⟩ hv hm hT (by omega) h65 hbM hr7 (by omega) hn9 (by omega) hQ) (cwV 1 F.2.2.2.2.1 (good_up gT_X7_wrong) rfl rfl rfl hdX7_wrong ⟨Nat.le_of_ble_eq_true rfl, Nat.le_of_ble_eq_true rfl⟩) hm (by decide) rfl rfl rfl (Nat.le_of_ble_eq_true rfl) dX7_groupTold_95 ⟨Nat.zero_le _, Nat.zero_le _⟩) hS (fun I_956 R_957 J_958 AI_959 AJ_960 AR_961 H locs hp_962 hH hS => ?_)
                            dsimp only at hp_962
                            obtain ⟨r_963, er_963⟩ : ∃ qQ : pR, qQ = thn (2, hc, 0) (fun t _ => (4, t, 0)) := ⟨_, rfl⟩
                            rw [← er_963] at hp_962
                            obtain ⟨rfl, rfl, rfl, rfl, rfl, hv, pfq, q_964, hQ⟩ := hp_962
                            have pf := qF_t pf pfq
                            have u_965_2 : (I_956 mo 2).toInt = (I mo 2).toInt := by rw [pf 2 (by decide) (by decide) (by decide) (by decide) (by decide)]
                            have u_965_5 : (I_956 mo 5).toInt = (I mo 5).toInt := by rw [pf 5 (by decide) (by decide) (by decide) (by decide) (by decide)]
                            have u_965_14 : (I_956 mo 14).toInt = (I mo 14).toInt := by rw [pf 14 (by decide) (by decide) (by decide) (by decide) (by decide)]
                            have u_965_16 : (I_956 mo 16).toInt = (I mo 16).toInt := by rw [pf 16 (by decide) (by decide) (by decide) (by decide) (by decide)]
                            have u_965_18 : (I_956 mo 18).toInt = (I mo 18).toInt := by rw [pf 18 (by decide) (by decide) (by decide) (by decide) (by decide)]
                            rw [thn_b (by omega)] at er_963
                            have hQ : mQ gh I_956 J_121 AI_122 AJ mo b nn nr nt cc 2 hc := by rw [er_963] at hQ; exact hQ
                            refine lv_aload_n F.1 F.2.1 dX7_groupTold_98 rfl (lv_at hl 5 rfl) ?_
                            refine lv_aload_n F.1 F.2.1 dX7_groupTold_99 rfl (lv_at hl 5 rfl) ?_
                            refine lv_iload_n F.1 F.2.1 dX7_groupTold_100 rfl (lv_at hl 4 rfl) ?_
                            have b_967 := mJ hv hm
                            unfold mNum1 at b_967
                            refine g_calli (g_runV (As := [.int (iI v_101)]) (rest := [.ref mo]) (ci := 7) F hl.1 hH hS hz (c_X7_columns l g gh T I_956 R J_121 AI_122 AJ AR mo v_101 zv_101 hv hm hT (by omega)) (cwV 1 F.2.2.2.2.1 (good_up gT_X7_columns) rfl rfl rfl hdX7_columns ⟨Nat.le_of_ble_eq_true rfl, Nat.le_of_ble_eq_true rfl⟩) hm (by decide) rfl rfl rfl (Nat.le_of_ble_eq_true rfl) dX7_groupTold_101 ⟨Nat.zero_le _, Nat.zero_le _⟩) hS (fun v_974 I_968 R_969 J_970 AI_971 AJ_972 AR_973 H locs zv_974 hp_975 hH hS => ?_)
                            dsimp only at hp_975
                            obtain ⟨rfl, rfl, rfl, rfl, rfl, rfl, q_966⟩ := hp_975
                            refine g_calli (g_runV (As := [.int (iI v_974)]) (rest := []) (ci := 7) F hl.1 hH hS hz (c_X7_columnf l g gh T b nn nr nt cc 2 hc I_956 R J_121 AI_122 AJ AR mo v_974 zv_974 hv hm hT (by omega) h65 hbM hr7 (by omega) hn9 (by omega) hQ) (cwV 1 F.2.2.2.2.1 (good_up gT_X7_column) rfl rfl rfl hdX7_column ⟨Nat.le_of_ble_eq_true rfl, Nat.le_of_ble_eq_true rfl⟩) hm (by decide) rfl rfl rfl (Nat.le_of_ble_eq_true rfl) dX7_groupTold_104 ⟨Nat.zero_le _, Nat.zero_le _⟩) hS (fun v_982 I_976 R_977 J_978 AI_979 AJ_980 AR_981 H locs zv_982 hp_983 hH hS => ?_)
                            dsimp only at hp_983
                            obtain ⟨r_984, er_984⟩ : ∃ qQ : pR, qQ = thn (2, hc, 0) (fun t _ => sCol b nn v_974 t) := ⟨_, rfl⟩
                            rw [← er_984] at hp_983
                            obtain ⟨rfl, rfl, rfl, rfl, hv, pfq, q_985, q_986, hQ, q_987⟩ := hp_983
                            have pf := qF_t pf pfq
                            have u_988_2 : (I_976 mo 2).toInt = (I mo 2).toInt := by rw [pf 2 (by decide) (by decide) (by decide) (by decide) (by decide)]
                            have u_988_5 : (I_976 mo 5).toInt = (I mo 5).toInt := by rw [pf 5 (by decide) (by decide) (by decide) (by decide) (by decide)]
                            have u_988_14 : (I_976 mo 14).toInt = (I mo 14).toInt := by rw [pf 14 (by decide) (by decide) (by decide) (by decide) (by decide)]
                            have u_988_16 : (I_976 mo 16).toInt = (I mo 16).toInt := by rw [pf 16 (by decide) (by decide) (by decide) (by decide) (by decide)]
                            have u_988_18 : (I_976 mo 18).toInt = (I mo 18).toInt := by rw [pf 18 (by decide) (by decide) (by decide) (by decide) (by decide)]
                            rw [thn_b (by omega)] at er_984
                            have hQ : mQ gh I_976 J_978 AI_122 AJ mo b nn nr nt cc 2 hc := by rw [er_984] at hQ; exact hQ
                            replace q_986 := hid q_986
                            obtain ⟨f1, ef1⟩ : ∃ q, q = (I_976 mo 24).toInt := ⟨_, rfl⟩
                            have hc1 : Hid (f1 = 0 → 0 ≤ v_982 ∧ v_982 ≤ 3) := fun h9 => by omega
                            refine lv_istore (lv' := [(6, .int (iI v_982)), (5, .int (iI 1)), (4, .int (iI mr)), (3, .int (iI had)), (2, .int (iI n)), (1, .int (iI v_101)), (0, .ref mo)]) F.1 F.2.1 dX7_groupTold_107 hl (by decide) rfl (fun ls hl => ?_)
                            refine lv_aload_n F.1 F.2.1 dX7_groupTold_109 rfl (lv_at hl 6 rfl) ?_
                            refine g_getI (ci := 7) (k := 24) F hH rfl (by decide) iX7 hm (by decide) rfl k81 dX7_groupTold_110 ?_
                            have b_989 := mJ hv hm
                            unfold mNum1 at b_989
                            refine z_if_ne (tgt := 123) F dX7_groupTold_113 (by decide) (zr_t _) (fun c_990 => ?_) (fun c_990 => ?_)
                            · refine lv_aload_n F.1 F.2.1 dX7_groupTold_123 rfl (lv_at hl 6 rfl) ?_
                              refine lv_iload_n F.1 F.2.1 dX7_groupTold_124 rfl (lv_at hl 4 rfl) ?_
                              refine lv_iload F.1 F.2.1 dX7_groupTold_125 (lv_at hl 0 rfl) ?_
                              refine z_iconst F dX7_groupTold_127 ?_
                              refine z_iconst F dX7_groupTold_128 ?_
                              refine z_iconst F dX7_groupTold_129 ?_
                              refine g_callv (g_runV (As := [.int (iI n), .int (iI v_982), .int (iI 0), .int (iI 0), .int (iI 0)]) (rest := []) (ci := 7) F hl.1 hH hS hz (c_X7_setsPartg l g gh T M I_976 R J_978 AI_122 AJ AR mo n v_982 0 0 0 zn zv_982 ⟨by decide, by decide⟩ ⟨by decide, by decide⟩ ⟨by decide, by decide⟩ hv hm hT (by omega) (by omega) (by omega)) (cwV 5 F.2.2.2.2.1 (good_up gT_X7_setsPart) rfl rfl rfl hdX7_setsPart ⟨Nat.le_of_ble_eq_true rfl, Nat.le_of_ble_eq_true rfl⟩) hm (by decide) rfl rfl rfl (Nat.le_of_ble_eq_true rfl) dX7_groupTold_130 ⟨Nat.zero_le _, Nat.zero_le _⟩) hS (fun I_991 R_992 J_993 AI_994 AJ_995 AR_996 H locs hp_997 hH hS => ?_)
                              dsimp only at hp_997
                              obtain ⟨rfl, rfl, rfl, rfl, rfl, hv, hT, hsp, q_998⟩ := hp_997
                              replace hsp := hid hsp
                              have hQ : mQ gh I_976 J_978 AI_994 AJ mo b nn nr nt cc 2 hc := mQ_bad hQ (by omega) rfl
                              refine z_iinc (lv' := [(2, .int (iI (n + 1))), (6, .int (iI v_982)), (5, .int (iI 1)), (4, .int (iI mr)), (3, .int (iI had)), (1, .int (iI v_101)), (0, .ref mo)]) F dX7_groupTold_133 hl (k := 4) rfl (by decide) rfl (fun ls hl => ?_)
                              refine lv_aload_n F.1 F.2.1 dX7_groupTold_136 rfl (lv_at hl 6 rfl) ?_
                              refine z_bipush F dX7_groupTold_137 (by decide) ?_
                              refine g_calli (g_runV (As := [.int (iI 44)]) (rest := []) (ci := 7) F hl.1 hH hS hz (c_X7_isSignf l g gh T b nn nr nt cc 2 hc I_976 R J_978 AI_994 AJ AR mo 44 ⟨by decide, by decide⟩ hv hm hT h65 hbM hr7 (by omega) hn9 (by omega) (by omega) hQ) (cwV 1 F.2.2.2.2.1 (good_up gT_X7_isSign) rfl rfl rfl hdX7_isSign ⟨Nat.le_of_ble_eq_true rfl, Nat.le_of_ble_eq_true rfl⟩) hm (by decide) rfl rfl rfl (Nat.le_of_ble_eq_true rfl) dX7_groupTold_139 ⟨Nat.zero_le _, Nat.zero_le _⟩) hS (fun v_1005 I_999 R_1000 J_1001 AI_1002 AJ_1003 AR_1004 H locs zv_1005 hp_1006 hH hS => ?_)
                              dsimp only at hp_1006
                              obtain ⟨rfl, rfl, rfl, rfl, rfl, rfl, q_1007, q_1008⟩ := hp_1006
                              replace q_1007 := q_1007.1
                              refine lv_istore (lv' := [(4, .int (iI v_1005)), (2, .int (iI (n + 1))), (6, .int (iI v_982)), (5, .int (iI 1)), (3, .int (iI had)), (1, .int (iI v_101)), (0, .ref mo)]) F.1 F.2.1 dX7_groupTold_142 hl (by decide) rfl (fun ls hl => ?_)
                              refine lv_iload F.1 F.2.1 dX7_groupTold_144 (lv_at hl 0 rfl) ?_
                              refine z_if_eq (tgt := 153) F dX7_groupTold_146 (by decide) zv_1005 (fun c_1009 => ?_) (fun c_1009 => ?_)
                              · have t_1010 := tIz_0 q_1008 (by omega)
                                refine z_goto (tgt := 18) F dX7_groupTold_153 (by decide) ?_
                                refine lv_iload F.1 F.2.1 dX7_groupTold_18 (lv_at hl 0 rfl) ?_
                                refine z_if_eq (tgt := 156) F dX7_groupTold_20 (by decide) zv_1005 (fun c_1011 => ?_) (fun c_1011 => ?_)
                                · have t_1012 := tIz_0 q_1008 (by omega)
                                  have hTs : sBy b nn (cF b nn nr nt cc h) n L hc = (2, hc, 0) := sBy_2 (pCf_ok (by omega) (by omega)) hmem
                                  have hS9 : sBys b nn (cF b nn nr nt cc h) 4 0 [] (h + 2) = (2, hc, 0) := sBys_no hsq (f := (3 - n).toNat) (by omega) hTs.symm (by omega)
                                  have hfin : thn (f, h, 0) (fun t _ => sGrp b nn nr nt cc t) = (2, hc, 0) := (thn_k q0).trans (by show sGrp b nn nr nt cc h = _; unfold sGrp; exact thn_t sr_103 rfl (thn_t sr_117 rfl (thn_x hS9.symm (by omega))))
                                  exact cut_156_3 v_101 (n + 1) I_976 J_978 AI_994 H locs ls zv_101 ⟨by omega, by omega⟩ hv hT pf ⟨_, _, by omega, hQ, hfin⟩ (by omega) (by omega) (fun b hb => (q_998 b hb).trans (fA9 b hb)) hH hS (lv_sub hl [6, 5, 1] rfl)
                                · exact absurd trivial (by omega)
                              · exact absurd (tIz_1 q_1008 (by omega)).1 (by omega)
                            · exact absurd (mQ_z hQ (by omega)) (by omega)
        exact cut_18_122 (((5 - 0) + 1 : Int).toNat) 0 0 1 I_110 J_112 AI H locs ls ⟨by decide, by decide⟩ ⟨by decide, by decide⟩ ⟨by decide, by decide⟩ hv hT pf (by omega) ((fun _ => ⟨by omega, fun k a b => absurd b (by omega)⟩)) ⟨_, _, hQ, rfl, mGn_0, iL_0, qAll_0 (Int.le_refl 0)⟩ (by omega) hfr (fun _ _ => rfl) (by omega) hH hS (lv_sub hl [0, 1, 2, 3, 4] rfl)
      · have hQ : mQ gh I_110 J_112 AI AJ mo b nn nr nt cc 1 (h + 1) := by rw [er_117] at hQ; exact hQ
        have sr_117 := sr_117.symm.trans er_117
        have g9r_117 := mQ_f hQ (by omega)
        refine z_iconst F dX7_groupTold_11 ?_
        refine lv_istore_n (lv' := [(2, .int (iI 0)), (1, .int (iI v_101)), (0, .ref mo)]) F.1 F.2.1 dX7_groupTold_12 rfl hl (by decide) rfl (fun ls hl => ?_)
        refine z_iconst F dX7_groupTold_13 ?_
        refine lv_istore_n (lv' := [(3, .int (iI 0)), (2, .int (iI 0)), (1, .int (iI v_101)), (0, .ref mo)]) F.1 F.2.1 dX7_groupTold_14 rfl hl (by decide) rfl (fun ls hl => ?_)
        refine z_iconst F dX7_groupTold_15 ?_
        refine lv_istore (lv' := [(4, .int (iI 1)), (3, .int (iI 0)), (2, .int (iI 0)), (1, .int (iI v_101)), (0, .ref mo)]) F.1 F.2.1 dX7_groupTold_16 hl (by decide) rfl (fun ls hl => ?_)
        refine lv_iload F.1 F.2.1 dX7_groupTold_18 (lv_at hl 0 rfl) ?_
        refine z_if_eq (tgt := 156) F dX7_groupTold_20 (by decide) ⟨by decide, by decide⟩ (fun c_1013 => ?_) (fun c_1013 => ?_)
        · exact absurd trivial (by omega)
        · refine lv_aload_n F.1 F.2.1 dX7_groupTold_23 rfl (lv_at hl 4 rfl) ?_
          refine g_getI (ci := 7) (k := 24) F hH rfl (by decide) iX7 hm (by decide) rfl k81 dX7_groupTold_24 ?_
          have b_1014 := mJ hv hm
          unfold mNum1 at b_1014
          refine z_if_ne (tgt := 156) F dX7_groupTold_27 (by decide) (zr_t _) (fun c_1015 => ?_) (fun c_1015 => ?_)
          · have hfin : thn (f, h, 0) (fun t _ => sGrp b nn nr nt cc t) = (1, h + 1, 0) := (thn_k q0).trans (by show sGrp b nn nr nt cc h = _; unfold sGrp; exact thn_y sr_103.symm rfl (thn_x sr_117.symm (by omega)))
            exact cut_156_3 v_101 0 I_110 J_112 AI H locs ls zv_101 ⟨by decide, by decide⟩ hv hT pf ⟨_, _, by omega, hQ, hfin⟩ (by omega) (by omega) (fun _ _ => rfl) hH hS (lv_sub hl [4, 3, 2] rfl)
          · exact absurd (mQ_z hQ (by omega)) (by omega)
    · have hQ : mQ gh I_95 J_97 AI AJ mo b nn nr nt cc (pRf b nn nt nr h) h := by rw [er_103] at hQ; exact hQ
      have sr_103 := sr_103.symm.trans er_103
      have g9r_103 := mQ_f hQ (by omega)
      replace q_105 := (⟨q_105.1, q_105.2.1⟩ : _ ∧ _)
      obtain ⟨f0, ef0⟩ : ∃ q, q = (I_95 mo 24).toInt := ⟨_, rfl⟩
      have hr1 : Hid (f0 = 0 → v_101 < M) := fun h9 => by omega
      refine lv_istore_n (lv' := [(1, .int (iI v_101)), (0, .ref mo)]) F.1 F.2.1 dX7_groupTold_4 rfl hl (by decide) rfl (fun ls hl => ?_)
      refine lv_aload_n F.1 F.2.1 dX7_groupTold_5 rfl (lv_at hl 1 rfl) ?_
      refine va_ldcS F.1 F.2.1 F.2.2.2.1 (F.2.2.2.2.2.2.1 19 _ rfl).1 dX7_groupTold_6 ?_
      have b_1016 := mJ hv hm
      unfold mNum1 at b_1016
      refine g_callv (g_runV (As := [.ref (gSK g 19)]) (rest := []) (ci := 7) F hl.1 hH hS hz (c_X7_mustWordf l g gh T 19 _ 13 b nn nr nt cc (pRf b nn nt nr h) h I_95 R J_97 AI AJ AR mo hv hm hT (by omega) (rfl : sTab[19]? = some _) h65 hbM hr7 (by omega) hn9 (by omega) (by decide) (by decide +kernel) hQ) (cwV 1 F.2.2.2.2.1 (good_up gT_X7_mustWord) rfl rfl rfl hdX7_mustWord ⟨Nat.le_of_ble_eq_true rfl, Nat.le_of_ble_eq_true rfl⟩) hm (by decide) rfl rfl rfl (Nat.le_of_ble_eq_true rfl) dX7_groupTold_8 ⟨Nat.zero_le _, Nat.zero_le _⟩) hS (fun I_1017 R_1018 J_1019 AI_1020 AJ_1021 AR_1022 H locs hp_1023 hH hS => ?_)
      dsimp only at hp_1023
      obtain ⟨r_1024, er_1024⟩ : ∃ qQ : pR, qQ = thn ((pRf b nn nt nr h), h, 0) (fun t _ => sTw b nn ((13 : Nat) : Int) t) := ⟨_, rfl⟩
      rw [← er_1024] at hp_1023
      obtain ⟨rfl, rfl, rfl, rfl, hv, pfq, q_1025, hQ⟩ := hp_1023
      have pf := qF_t pf pfq
      have u_1026_2 : (I_1017 mo 2).toInt = (I mo 2).toInt := by rw [pf 2 (by decide) (by decide) (by decide) (by decide) (by decide)]
      have u_1026_5 : (I_1017 mo 5).toInt = (I mo 5).toInt := by rw [pf 5 (by decide) (by decide) (by decide) (by decide) (by decide)]
      have u_1026_14 : (I_1017 mo 14).toInt = (I mo 14).toInt := by rw [pf 14 (by decide) (by decide) (by decide) (by decide) (by decide)]
      have u_1026_16 : (I_1017 mo 16).toInt = (I mo 16).toInt := by rw [pf 16 (by decide) (by decide) (by decide) (by decide) (by decide)]
      have u_1026_18 : (I_1017 mo 18).toInt = (I mo 18).toInt := by rw [pf 18 (by decide) (by decide) (by decide) (by decide) (by decide)]
      rw [thn_b (by omega)] at er_1024
      have hQ : mQ gh I_1017 J_1019 AI AJ mo b nn nr nt cc (pRf b nn nt nr h) h := by rw [er_1024] at hQ; exact hQ
      refine z_iconst F dX7_groupTold_11 ?_
      refine lv_istore_n (lv' := [(2, .int (iI 0)), (1, .int (iI v_101)), (0, .ref mo)]) F.1 F.2.1 dX7_groupTold_12 rfl hl (by decide) rfl (fun ls hl => ?_)
      refine z_iconst F dX7_groupTold_13 ?_
      refine lv_istore_n (lv' := [(3, .int (iI 0)), (2, .int (iI 0)), (1, .int (iI v_101)), (0, .ref mo)]) F.1 F.2.1 dX7_groupTold_14 rfl hl (by decide) rfl (fun ls hl => ?_)
      refine z_iconst F dX7_groupTold_15 ?_
      refine lv_istore (lv' := [(4, .int (iI 1)), (3, .int (iI 0)), (2, .int (iI 0)), (1, .int (iI v_101)), (0, .ref mo)]) F.1 F.2.1 dX7_groupTold_16 hl (by decide) rfl (fun ls hl => ?_)
      refine lv_iload F.1 F.2.1 dX7_groupTold_18 (lv_at hl 0 rfl) ?_
      refine z_if_eq (tgt := 156) F dX7_groupTold_20 (by decide) ⟨by decide, by decide⟩ (fun c_1027 => ?_) (fun c_1027 => ?_)
      · exact absurd trivial (by omega)
      · refine lv_aload_n F.1 F.2.1 dX7_groupTold_23 rfl (lv_at hl 4 rfl) ?_
        refine g_getI (ci := 7) (k := 24) F hH rfl (by decide) iX7 hm (by decide) rfl k81 dX7_groupTold_24 ?_
        have b_1028 := mJ hv hm
        unfold mNum1 at b_1028
        refine z_if_ne (tgt := 156) F dX7_groupTold_27 (by decide) (zr_t _) (fun c_1029 => ?_) (fun c_1029 => ?_)
        · have hfin : thn (f, h, 0) (fun t _ => sGrp b nn nr nt cc t) = (pRf b nn nt nr h, h, 0) := (thn_k q0).trans (by show sGrp b nn nr nt cc h = _; unfold sGrp; exact thn_x sr_103.symm (by omega))
          exact cut_156_3 v_101 0 I_1017 J_1019 AI H locs ls zv_101 ⟨by decide, by decide⟩ hv hT pf ⟨_, _, by omega, hQ, hfin⟩ (by omega) (by omega) (fun _ _ => rfl) hH hS (lv_sub hl [4, 3, 2] rfl)
        · exact absurd (mQ_z hQ (by omega)) (by omega)
  · have hf1 := mQ_f hQ q0
    have cut_156_1032 : ∀ (l1 l2 : Int) (I_1030 : gI) (J_1031 : gJ) (AI_1032 : gI) (H : Heap) (locs : List Loc) (ls : Array Slot), zr l1 → zr l2 → (mInv g gh R I_1030 AI_1032) → (AI_1032 (gh 50 0) = T) → (qF mo I I_1030) → (∃ (f9 : Int) (h9 : Nat), f9 ≠ 0 ∧ mQ gh I_1030 J_1031 AI_1032 AJ mo b nn nr nt cc f9 h9 ∧ thn (f, h, 0) (fun t _ => sGrp b nn nr nt cc t) = (f9, h9, 0)) → ((I_1030 mo 20).toInt ≤ 936 ∧ (I mo 24).toInt ≤ (I_1030 mo 24).toInt) → (0 ≤ l1 ∧ l1 ≤ 15) → (∀ b, b ≠ gh 53 0 → AI_1032 b = AI b) → gH g I_1030 R J_1031 AI_1032 AJ AR H → va_S (gA g) s.heap H locs → lv_has ls 7 [(0, .ref mo), (1, .int (iI l1)), (2, .int (iI l2))] → W p l e rmX7_groupToldg s m ([.ref mo] : List Value).toArray below meth c H locs 0 0 (MQ below (gQv g (fun w : gS => R = w.2.1 ∧ AJ = w.2.2.2.2.1 ∧ AR = w.2.2.2.2.2 ∧ (mInv g gh R (w.1) (w.2.2.2.1)) ∧ ((w.2.2.2.1) (gh 50 0) = T) ∧ (qF mo I (w.1)) ∧ (((w.1) mo 20).toInt ≤ 936 ∧ (I mo 24).toInt ≤ ((w.1) mo 24).toInt) ∧ (((w.1) mo 24).toInt = 0 → ((w.1) mo 21).toInt = 4 → ((w.1) mo 23).toInt = 59 → rowOK ((w.2.2.2.1) (gh 53 0)) M) ∧ (((w.1) mo 24).toInt = 0 → tI ((w.2.2.2.1) (gh 53 0)) (40 * M) = 7) ∧ (mQ gh (w.1) (w.2.2.1) (w.2.2.2.1) AJ mo b nn nr nt cc (thn (f, h, 0) (fun t _ => sGrp b nn nr nt cc t)).1 (thn (f, h, 0) (fun t _ => sGrp b nn nr nt cc t)).2.1) ∧ (pIc (thn (f, h, 0) (fun t _ => sGrp b nn nr nt cc t)).1 (pK b nn (thn (f, h, 0) (fun t _ => sGrp b nn nr nt cc t)).2.1) (tI ((w.2.2.2.1) (gh 53 0)) (40 * (nr : Int) + 1)) (thn (f, h, 0) (fun t _ => sGrp b nn nr nt cc t)).2.2) ∧ (zIf (thn (f, h, 0) (fun t _ => sGrp b nn nr nt cc t)).1 (frM M (AI (gh 53 0)) ((w.2.2.2.1) (gh 53 0)))) ∧ (zIf (thn (f, h, 0) (fun t _ => sGrp b nn nr nt cc t)).1 (mGrp b nn nr nt h ((w.2.2.2.1) (gh 53 0)) M)) ∧ (∀ b, b ≠ gh 53 0 → (w.2.2.2.1) b = AI b))) ([.ref mo] : List Value).toArray s 0 0 (gA g)) (F0 m 156 ls []) := by
      intro l1 l2 I_1030 J_1031 AI_1032 H locs ls zl1 zl2 hv hT pf hBad hx9 hl12 fA9 hH hS hl
      (try clear u_108_18); (try clear u_108_16); (try clear u_108_14); (try clear u_108_5); (try clear u_108_2); (try clear b_94)
      have uc_2 : (I_1030 mo 2).toInt = (I mo 2).toInt := by rw [pf 2 (by decide) (by decide) (by decide) (by decide) (by decide)]
      have uc_5 : (I_1030 mo 5).toInt = (I mo 5).toInt := by rw [pf 5 (by decide) (by decide) (by decide) (by decide) (by decide)]
      have uc_14 : (I_1030 mo 14).toInt = (I mo 14).toInt := by rw [pf 14 (by decide) (by decide) (by decide) (by decide) (by decide)]
      have uc_16 : (I_1030 mo 16).toInt = (I mo 16).toInt := by rw [pf 16 (by decide) (by decide) (by decide) (by decide) (by decide)]
      have uc_18 : (I_1030 mo 18).toInt = (I mo 18).toInt := by rw [pf 18 (by decide) (by decide) (by decide) (by decide) (by decide)]
      obtain ⟨fb9, hb9, q9, hQ, hfin⟩ := hBad
      have q9f := mQ_f hQ q9
      have q9p := mQ_p hQ
      obtain ⟨f3, ef3⟩ : ∃ q, q = (I_1030 mo 24).toInt := ⟨_, rfl⟩
      refine lv_aload_n F.1 F.2.1 dX7_groupTold_156 rfl (lv_at hl 0 rfl) ?_
      refine va_ldcS F.1 F.2.1 F.2.2.2.1 (F.2.2.2.2.2.2.1 20 _ rfl).1 dX7_groupTold_157 ?_
      have b_1034 := mJ hv hm
      unfold mNum1 at b_1034
      refine g_calli (g_runV (As := [.ref (gSK g 20)]) (rest := []) (ci := 7) F hl.1 hH hS hz (c_X7_isWordf l g gh T 20 _ 16 b nn nr nt cc fb9 hb9 I_1030 R J_1031 AI_1032 AJ AR mo hv hm hT (rfl : sTab[20]? = some _) (by decide) (by decide +kernel) h65 hbM hr7 (by omega) hn9 (by omega) hQ) (cwV 1 F.2.2.2.2.1 (good_up gT_X7_isWord) rfl rfl rfl hdX7_isWord ⟨Nat.le_of_ble_eq_true rfl, Nat.le_of_ble_eq_true rfl⟩) hm (by decide) rfl rfl rfl (Nat.le_of_ble_eq_true rfl) dX7_groupTold_159 ⟨Nat.zero_le _, Nat.zero_le _⟩) hS (fun v_1041 I_1035 R_1036 J_1037 AI_1038 AJ_1039 AR_1040 H locs zv_1041 hp_1042 hH hS => ?_)
      dsimp only at hp_1042
      obtain ⟨rfl, rfl, rfl, rfl, rfl, rfl, q_1043, q_1044⟩ := hp_1042
      refine z_if_eq (tgt := 169) F dX7_groupTold_162 (by decide) zv_1041 (fun c_1045 => ?_) (fun c_1045 => ?_)
      · have t_1046 := tIz_0 q_1044 (by omega)
        refine lv_aload_n F.1 F.2.1 dX7_groupTold_169 rfl (lv_at hl 0 rfl) ?_
        refine va_ldcS F.1 F.2.1 F.2.2.2.1 (F.2.2.2.2.2.2.1 21 _ rfl).1 dX7_groupTold_170 ?_
        refine g_calli (g_runV (As := [.ref (gSK g 21)]) (rest := []) (ci := 7) F hl.1 hH hS hz (c_X7_isWordf l g gh T 21 _ 17 b nn nr nt cc fb9 hb9 I_1030 R J_1031 AI_1032 AJ AR mo hv hm hT (rfl : sTab[21]? = some _) (by decide) (by decide +kernel) h65 hbM hr7 (by omega) hn9 (by omega) hQ) (cwV 1 F.2.2.2.2.1 (good_up gT_X7_isWord) rfl rfl rfl hdX7_isWord ⟨Nat.le_of_ble_eq_true rfl, Nat.le_of_ble_eq_true rfl⟩) hm (by decide) rfl rfl rfl (Nat.le_of_ble_eq_true rfl) dX7_groupTold_172 ⟨Nat.zero_le _, Nat.zero_le _⟩) hS (fun v_1053 I_1047 R_1048 J_1049 AI_1050 AJ_1051 AR_1052 H locs zv_1053 hp_1054 hH hS => ?_)
        dsimp only at hp_1054
        obtain ⟨rfl, rfl, rfl, rfl, rfl, rfl, q_1055, q_1056⟩ := hp_1054
        refine z_if_eq (tgt := 182) F dX7_groupTold_175 (by decide) zv_1053 (fun c_1057 => ?_) (fun c_1057 => ?_)
        · have t_1058 := tIz_0 q_1056 (by omega)
          refine lv_aload_n F.1 F.2.1 dX7_groupTold_182 rfl (lv_at hl 0 rfl) ?_
          refine va_ldcS F.1 F.2.1 F.2.2.2.1 (F.2.2.2.2.2.2.1 22 _ rfl).1 dX7_groupTold_183 ?_
          refine g_calli (g_runV (As := [.ref (gSK g 22)]) (rest := []) (ci := 7) F hl.1 hH hS hz (c_X7_isWordf l g gh T 22 _ 18 b nn nr nt cc fb9 hb9 I_1030 R J_1031 AI_1032 AJ AR mo hv hm hT (rfl : sTab[22]? = some _) (by decide) (by decide +kernel) h65 hbM hr7 (by omega) hn9 (by omega) hQ) (cwV 1 F.2.2.2.2.1 (good_up gT_X7_isWord) rfl rfl rfl hdX7_isWord ⟨Nat.le_of_ble_eq_true rfl, Nat.le_of_ble_eq_true rfl⟩) hm (by decide) rfl rfl rfl (Nat.le_of_ble_eq_true rfl) dX7_groupTold_185 ⟨Nat.zero_le _, Nat.zero_le _⟩) hS (fun v_1065 I_1059 R_1060 J_1061 AI_1062 AJ_1063 AR_1064 H locs zv_1065 hp_1066 hH hS => ?_)
          dsimp only at hp_1066
          obtain ⟨rfl, rfl, rfl, rfl, rfl, rfl, q_1067, q_1068⟩ := hp_1066
          refine z_if_eq (tgt := 195) F dX7_groupTold_188 (by decide) zv_1065 (fun c_1069 => ?_) (fun c_1069 => ?_)
          · have t_1070 := tIz_0 q_1068 (by omega)
            refine lv_aload_n F.1 F.2.1 dX7_groupTold_195 rfl (lv_at hl 0 rfl) ?_
            refine va_ldcS F.1 F.2.1 F.2.2.2.1 (F.2.2.2.2.2.2.1 23 _ rfl).1 dX7_groupTold_196 ?_
            refine g_calli (g_runV (As := [.ref (gSK g 23)]) (rest := []) (ci := 7) F hl.1 hH hS hz (c_X7_isWordf l g gh T 23 _ 19 b nn nr nt cc fb9 hb9 I_1030 R J_1031 AI_1032 AJ AR mo hv hm hT (rfl : sTab[23]? = some _) (by decide) (by decide +kernel) h65 hbM hr7 (by omega) hn9 (by omega) hQ) (cwV 1 F.2.2.2.2.1 (good_up gT_X7_isWord) rfl rfl rfl hdX7_isWord ⟨Nat.le_of_ble_eq_true rfl, Nat.le_of_ble_eq_true rfl⟩) hm (by decide) rfl rfl rfl (Nat.le_of_ble_eq_true rfl) dX7_groupTold_198 ⟨Nat.zero_le _, Nat.zero_le _⟩) hS (fun v_1077 I_1071 R_1072 J_1073 AI_1074 AJ_1075 AR_1076 H locs zv_1077 hp_1078 hH hS => ?_)
            dsimp only at hp_1078
            obtain ⟨rfl, rfl, rfl, rfl, rfl, rfl, q_1079, q_1080⟩ := hp_1078
            refine z_if_eq (tgt := 208) F dX7_groupTold_201 (by decide) zv_1077 (fun c_1081 => ?_) (fun c_1081 => ?_)
            · have t_1082 := tIz_0 q_1080 (by omega)
              refine z_iconst F dX7_groupTold_208 ?_
              refine lv_istore (lv' := [(5, .int (iI ((-1)))), (0, .ref mo), (1, .int (iI l1)), (2, .int (iI l2))]) F.1 F.2.1 dX7_groupTold_209 hl (by decide) rfl (fun ls hl => ?_)
              refine lv_iload F.1 F.2.1 dX7_groupTold_211 (lv_at hl 0 rfl) ?_
              refine z_if_ge (tgt := 221) F dX7_groupTold_213 (by decide) ⟨by decide, by decide⟩ (fun c_1083 => ?_) (fun c_1083 => ?_)
              · exact absurd trivial (by omega)
              · refine lv_aload_n F.1 F.2.1 dX7_groupTold_216 rfl (lv_at hl 1 rfl) ?_
                refine z_iconst F dX7_groupTold_217 ?_
                refine g_callv (g_runV (As := [.int (iI 1)]) (rest := []) (ci := 7) F hl.1 hH hS hz (c_X7_wrongf l g gh T b nn nr nt cc fb9 hb9 I_1030 R J_1031 AI_1032 AJ AR mo 1 ⟨by decide, by decide⟩ hv hm hT (by omega) h65 hbM hr7 (by omega) hn9 (by omega) hQ) (cwV 1 F.2.2.2.2.1 (good_up gT_X7_wrong) rfl rfl rfl hdX7_wrong ⟨Nat.le_of_ble_eq_true rfl, Nat.le_of_ble_eq_true rfl⟩) hm (by decide) rfl rfl rfl (Nat.le_of_ble_eq_true rfl) dX7_groupTold_218 ⟨Nat.zero_le _, Nat.zero_le _⟩) hS (fun I_1084 R_1085 J_1086 AI_1087 AJ_1088 AR_1089 H locs hp_1090 hH hS => ?_)
                dsimp only at hp_1090
                obtain ⟨r_1091, er_1091⟩ : ∃ qQ : pR, qQ = thn (fb9, hb9, 0) (fun t _ => (1, t, 0)) := ⟨_, rfl⟩
                rw [← er_1091] at hp_1090
                obtain ⟨rfl, rfl, rfl, rfl, rfl, hv, pfq, q_1092, hQ⟩ := hp_1090
                have pf := qF_t pf pfq
                have u_1093_2 : (I_1084 mo 2).toInt = (I mo 2).toInt := by rw [pf 2 (by decide) (by decide) (by decide) (by decide) (by decide)]
                have u_1093_5 : (I_1084 mo 5).toInt = (I mo 5).toInt := by rw [pf 5 (by decide) (by decide) (by decide) (by decide) (by decide)]
                have u_1093_14 : (I_1084 mo 14).toInt = (I mo 14).toInt := by rw [pf 14 (by decide) (by decide) (by decide) (by decide) (by decide)]
                have u_1093_16 : (I_1084 mo 16).toInt = (I mo 16).toInt := by rw [pf 16 (by decide) (by decide) (by decide) (by decide) (by decide)]
                have u_1093_18 : (I_1084 mo 18).toInt = (I mo 18).toInt := by rw [pf 18 (by decide) (by decide) (by decide) (by decide) (by decide)]
                rw [thn_b (by omega)] at er_1091
                have hQ : mQ gh I_1084 J_1031 AI_1032 AJ mo b nn nr nt cc fb9 hb9 := by rw [er_1091] at hQ; exact hQ
                refine lv_aload_n F.1 F.2.1 dX7_groupTold_221 rfl (lv_at hl 1 rfl) ?_
                have b_1094 := mJ hv hm
                unfold mNum1 at b_1094
                refine g_callv (g_runV (As := []) (rest := []) (ci := 7) F hl.1 hH hS hz (c_X7_nextf l g gh T b nn (tNd b nn (tPs b nn hb9)) I_1084 R J_1031 AI_1032 AJ AR mo hv hm hT (by omega) (mTp hv h65 hbM) hr7 (by omega) (by omega) (mQ_e0 hQ) tNd_le.1) (cwV 0 F.2.2.2.2.1 (good_up gT_X7_next) rfl rfl rfl hdX7_next ⟨Nat.le_of_ble_eq_true rfl, Nat.le_of_ble_eq_true rfl⟩) hm (by decide) rfl rfl rfl (Nat.le_of_ble_eq_true rfl) dX7_groupTold_222 ⟨Nat.zero_le _, Nat.zero_le _⟩) hS (fun I_1095 R_1096 J_1097 AI_1098 AJ_1099 AR_1100 H locs hp_1101 hH hS => ?_)
                dsimp only at hp_1101
                obtain ⟨rfl, rfl, rfl, rfl, hv, pfq, q_1102, nx4, nxa, nxb⟩ := hp_1101
                have pf := qF_t pf pfq
                have u_1103_2 : (I_1095 mo 2).toInt = (I mo 2).toInt := by rw [pf 2 (by decide) (by decide) (by decide) (by decide) (by decide)]
                have u_1103_5 : (I_1095 mo 5).toInt = (I mo 5).toInt := by rw [pf 5 (by decide) (by decide) (by decide) (by decide) (by decide)]
                have u_1103_14 : (I_1095 mo 14).toInt = (I mo 14).toInt := by rw [pf 14 (by decide) (by decide) (by decide) (by decide) (by decide)]
                have u_1103_16 : (I_1095 mo 16).toInt = (I mo 16).toInt := by rw [pf 16 (by decide) (by decide) (by decide) (by decide) (by decide)]
                have u_1103_18 : (I_1095 mo 18).toInt = (I mo 18).toInt := by rw [pf 18 (by decide) (by decide) (by decide) (by decide) (by decide)]
                have hQ : mQ gh I_1095 J_1097 AI_1032 AJ mo b nn nr nt cc fb9 hb9 := by have q9 := mQ_nx hQ nx4 nxa; rw [thn_b (by omega)] at q9; exact q9
                clear nxa nxb
                refine lv_iload F.1 F.2.1 dX7_groupTold_225 (lv_at hl 0 rfl) ?_
                refine z_if_le (tgt := 242) F dX7_groupTold_227 (by decide) ⟨by decide, by decide⟩ (fun c_1104 => ?_) (fun c_1104 => ?_)
                · refine z_iconst F dX7_groupTold_242 ?_
                  refine lv_istore (lv' := [(6, .int (iI 0)), (5, .int (iI ((-1)))), (0, .ref mo), (1, .int (iI l1)), (2, .int (iI l2))]) F.1 F.2.1 dX7_groupTold_243 hl (by decide) rfl (fun ls hl => ?_)
                  refine lv_aload_n F.1 F.2.1 dX7_groupTold_245 rfl (lv_at hl 2 rfl) ?_
                  refine lv_iload_n F.1 F.2.1 dX7_groupTold_246 rfl (lv_at hl 4 rfl) ?_
                  refine lv_iload F.1 F.2.1 dX7_groupTold_247 (lv_at hl 0 rfl) ?_
                  refine lv_iload F.1 F.2.1 dX7_groupTold_249 (lv_at hl 1 rfl) ?_
                  refine z_iconst F dX7_groupTold_251 ?_
                  refine z_iconst F dX7_groupTold_252 ?_
                  have b_1105 := mJ hv hm
                  unfold mNum1 at b_1105
                  refine g_callv (g_runV (As := [.int (iI l2), .int (iI 0), .int (iI ((-1))), .int (iI 0), .int (iI 0)]) (rest := []) (ci := 7) F hl.1 hH hS hz (c_X7_setsPartg l g gh T M I_1095 R J_1097 AI_1032 AJ AR mo l2 0 (-1) 0 0 zl2 ⟨by decide, by decide⟩ ⟨by decide, by decide⟩ ⟨by decide, by decide⟩ ⟨by decide, by decide⟩ hv hm hT (by omega) (by omega) (by omega)) (cwV 5 F.2.2.2.2.1 (good_up gT_X7_setsPart) rfl rfl rfl hdX7_setsPart ⟨Nat.le_of_ble_eq_true rfl, Nat.le_of_ble_eq_true rfl⟩) hm (by decide) rfl rfl rfl (Nat.le_of_ble_eq_true rfl) dX7_groupTold_253 ⟨Nat.zero_le _, Nat.zero_le _⟩) hS (fun I_1106 R_1107 J_1108 AI_1109 AJ_1110 AR_1111 H locs hp_1112 hH hS => ?_)
                  dsimp only at hp_1112
                  obtain ⟨rfl, rfl, rfl, rfl, rfl, hv, hT, hsp, q_1113⟩ := hp_1112
                  replace hsp := hid hsp
                  have hQ : mQ gh I_1095 J_1097 AI_1109 AJ mo b nn nr nt cc fb9 hb9 := mQ_bad hQ (by omega) rfl
                  refine lv_aload_n F.1 F.2.1 dX7_groupTold_256 rfl (lv_at hl 2 rfl) ?_
                  refine z_bipush F dX7_groupTold_257 (by decide) ?_
                  refine lv_iload_n F.1 F.2.1 dX7_groupTold_259 rfl (lv_at hl 4 rfl) ?_
                  refine z_iconst F dX7_groupTold_260 ?_
                  refine z_iadd F dX7_groupTold_261 ?_
                  refine z_norm (fun v_1114 zv_1114 ev_1114 => ?_)
                  refine lv_iload_n F.1 F.2.1 dX7_groupTold_262 rfl (lv_at hl 3 rfl) ?_
                  refine z_iconst F dX7_groupTold_263 ?_
                  refine lv_iload_n F.1 F.2.1 dX7_groupTold_264 rfl (lv_at hl 4 rfl) ?_
                  refine g_callv (g_runV (As := [.int (iI 7), .int (iI v_1114), .int (iI l1), .int (iI ((-1))), .int (iI l2)]) (rest := []) (ci := 7) F hl.1 hH hS hz (c_X7_headerg l g gh T M I_1095 R J_1097 AI_1109 AJ AR mo 7 v_1114 l1 (-1) l2 ⟨by decide, by decide⟩ zv_1114 zl1 ⟨by decide, by decide⟩ zl2 hv hm hT (by omega) (by omega)) (cwV 5 F.2.2.2.2.1 (good_up gT_X7_header) rfl rfl rfl hdX7_header ⟨Nat.le_of_ble_eq_true rfl, Nat.le_of_ble_eq_true rfl⟩) hm (by decide) rfl rfl rfl (Nat.le_of_ble_eq_true rfl) dX7_groupTold_265 ⟨Nat.zero_le _, Nat.zero_le _⟩) hS (fun I_1115 R_1116 J_1117 AI_1118 AJ_1119 AR_1120 H locs hp_1121 hH hS => ?_)
                  dsimp only at hp_1121
                  obtain ⟨rfl, rfl, rfl, rfl, rfl, hv, hT, hhd, q_1122⟩ := hp_1121
                  replace hhd := hid hhd
                  have hQ : mQ gh I_1095 J_1097 AI_1118 AJ mo b nn nr nt cc fb9 hb9 := mQ_bad hQ (by omega) rfl
                  exact g_vret F hr hlk hH hS hz ⟨rfl, rfl, rfl, hv, hT, pf, by first | (dsimp only; omega) | omega | rfl, by (try dsimp only); exact (fun hf => absurd hf (by omega)), by (try dsimp only); exact (fun hf => absurd hf (by omega)), by (try dsimp only); rw [hfin]; exact hQ, by (try dsimp only); rw [hfin]; exact pIc_n (by omega), by (try dsimp only); rw [hfin]; exact zIf_n (by omega), by (try dsimp only); rw [hfin]; exact zIf_n (by omega), fun b hb => ((q_1122 b hb).trans (q_1113 b hb)).trans (fA9 b hb)⟩ dX7_groupTold_268
                · exact absurd trivial (by omega)
            · exact absurd (tIz_1 q_1080 (by omega)).1 (by omega)
          · exact absurd (tIz_1 q_1068 (by omega)).1 (by omega)
        · exact absurd (tIz_1 q_1056 (by omega)).1 (by omega)
      · exact absurd (tIz_1 q_1044 (by omega)).1 (by omega)
    refine lv_aload_n F.1 F.2.1 dX7_groupTold_0 rfl (lv_at hl 0 rfl) ?_
    have b_1123 := mJ hv hm
    unfold mNum1 at b_1123
    refine g_calli (g_runV (As := []) (rest := []) (ci := 7) F hl.1 hH hS hz (c_X7_relationg l g gh T b nn nr nt cc f h I R J AI AJ AR mo hv hm hT (by omega) h65 hbM hr7 (by omega) hn9 (by omega) hQ) (cwV 0 F.2.2.2.2.1 (good_up gT_X7_relation) rfl rfl rfl hdX7_relation ⟨Nat.le_of_ble_eq_true rfl, Nat.le_of_ble_eq_true rfl⟩) hm (by decide) rfl rfl rfl (Nat.le_of_ble_eq_true rfl) dX7_groupTold_1 ⟨Nat.zero_le _, Nat.zero_le _⟩) hS (fun v_1130 I_1124 R_1125 J_1126 AI_1127 AJ_1128 AR_1129 H locs zv_1130 hp_1131 hH hS => ?_)
    dsimp only at hp_1131
    obtain ⟨r_1132, er_1132⟩ : ∃ qQ : pR, qQ = thn (f, h, 0) (fun t _ => sRl b nn nr nt cc t) := ⟨_, rfl⟩
    rw [← er_1132] at hp_1131
    obtain ⟨rfl, rfl, rfl, rfl, hv, pfq, q_1133, q_1134, hQ, q_1135, q_1136⟩ := hp_1131
    have pf := qF_t pf pfq
    have u_1137_2 : (I_1124 mo 2).toInt = (I mo 2).toInt := by rw [pf 2 (by decide) (by decide) (by decide) (by decide) (by decide)]
    have u_1137_5 : (I_1124 mo 5).toInt = (I mo 5).toInt := by rw [pf 5 (by decide) (by decide) (by decide) (by decide) (by decide)]
    have u_1137_14 : (I_1124 mo 14).toInt = (I mo 14).toInt := by rw [pf 14 (by decide) (by decide) (by decide) (by decide) (by decide)]
    have u_1137_16 : (I_1124 mo 16).toInt = (I mo 16).toInt := by rw [pf 16 (by decide) (by decide) (by decide) (by decide) (by decide)]
    have u_1137_18 : (I_1124 mo 18).toInt = (I mo 18).toInt := by rw [pf 18 (by decide) (by decide) (by decide) (by decide) (by decide)]
    rw [thn_b (by omega)] at er_1132
    have hQ : mQ gh I_1124 J_1126 AI AJ mo b nn nr nt cc f h := by rw [er_1132] at hQ; exact hQ
    replace q_1134 := (⟨q_1134.1, q_1134.2.1⟩ : _ ∧ _)
    obtain ⟨f0, ef0⟩ : ∃ q, q = (I_1124 mo 24).toInt := ⟨_, rfl⟩
    have hr1 : Hid (f0 = 0 → v_1130 < M) := fun h9 => by omega
    refine lv_istore_n (lv' := [(1, .int (iI v_1130)), (0, .ref mo)]) F.1 F.2.1 dX7_groupTold_4 rfl hl (by decide) rfl (fun ls hl => ?_)
    refine lv_aload_n F.1 F.2.1 dX7_groupTold_5 rfl (lv_at hl 1 rfl) ?_
    refine va_ldcS F.1 F.2.1 F.2.2.2.1 (F.2.2.2.2.2.2.1 19 _ rfl).1 dX7_groupTold_6 ?_
    have b_1138 := mJ hv hm
    unfold mNum1 at b_1138
    refine g_callv (g_runV (As := [.ref (gSK g 19)]) (rest := []) (ci := 7) F hl.1 hH hS hz (c_X7_mustWordf l g gh T 19 _ 13 b nn nr nt cc f h I_1124 R J_1126 AI AJ AR mo hv hm hT (by omega) (rfl : sTab[19]? = some _) h65 hbM hr7 (by omega) hn9 (by omega) (by decide) (by decide +kernel) hQ) (cwV 1 F.2.2.2.2.1 (good_up gT_X7_mustWord) rfl rfl rfl hdX7_mustWord ⟨Nat.le_of_ble_eq_true rfl, Nat.le_of_ble_eq_true rfl⟩) hm (by decide) rfl rfl rfl (Nat.le_of_ble_eq_true rfl) dX7_groupTold_8 ⟨Nat.zero_le _, Nat.zero_le _⟩) hS (fun I_1139 R_1140 J_1141 AI_1142 AJ_1143 AR_1144 H locs hp_1145 hH hS => ?_)
    dsimp only at hp_1145
    obtain ⟨r_1146, er_1146⟩ : ∃ qQ : pR, qQ = thn (f, h, 0) (fun t _ => sTw b nn ((13 : Nat) : Int) t) := ⟨_, rfl⟩
    rw [← er_1146] at hp_1145
    obtain ⟨rfl, rfl, rfl, rfl, hv, pfq, q_1147, hQ⟩ := hp_1145
    have pf := qF_t pf pfq
    have u_1148_2 : (I_1139 mo 2).toInt = (I mo 2).toInt := by rw [pf 2 (by decide) (by decide) (by decide) (by decide) (by decide)]
    have u_1148_5 : (I_1139 mo 5).toInt = (I mo 5).toInt := by rw [pf 5 (by decide) (by decide) (by decide) (by decide) (by decide)]
    have u_1148_14 : (I_1139 mo 14).toInt = (I mo 14).toInt := by rw [pf 14 (by decide) (by decide) (by decide) (by decide) (by decide)]
    have u_1148_16 : (I_1139 mo 16).toInt = (I mo 16).toInt := by rw [pf 16 (by decide) (by decide) (by decide) (by decide) (by decide)]
    have u_1148_18 : (I_1139 mo 18).toInt = (I mo 18).toInt := by rw [pf 18 (by decide) (by decide) (by decide) (by decide) (by decide)]
    rw [thn_b (by omega)] at er_1146
    have hQ : mQ gh I_1139 J_1141 AI AJ mo b nn nr nt cc f h := by rw [er_1146] at hQ; exact hQ
    refine z_iconst F dX7_groupTold_11 ?_
    refine lv_istore_n (lv' := [(2, .int (iI 0)), (1, .int (iI v_1130)), (0, .ref mo)]) F.1 F.2.1 dX7_groupTold_12 rfl hl (by decide) rfl (fun ls hl => ?_)
    refine z_iconst F dX7_groupTold_13 ?_
    refine lv_istore_n (lv' := [(3, .int (iI 0)), (2, .int (iI 0)), (1, .int (iI v_1130)), (0, .ref mo)]) F.1 F.2.1 dX7_groupTold_14 rfl hl (by decide) rfl (fun ls hl => ?_)
    refine z_iconst F dX7_groupTold_15 ?_
    refine lv_istore (lv' := [(4, .int (iI 1)), (3, .int (iI 0)), (2, .int (iI 0)), (1, .int (iI v_1130)), (0, .ref mo)]) F.1 F.2.1 dX7_groupTold_16 hl (by decide) rfl (fun ls hl => ?_)
    refine lv_iload F.1 F.2.1 dX7_groupTold_18 (lv_at hl 0 rfl) ?_
    refine z_if_eq (tgt := 156) F dX7_groupTold_20 (by decide) ⟨by decide, by decide⟩ (fun c_1149 => ?_) (fun c_1149 => ?_)
    · exact absurd trivial (by omega)
    · refine lv_aload_n F.1 F.2.1 dX7_groupTold_23 rfl (lv_at hl 4 rfl) ?_
      refine g_getI (ci := 7) (k := 24) F hH rfl (by decide) iX7 hm (by decide) rfl k81 dX7_groupTold_24 ?_
      have b_1150 := mJ hv hm
      unfold mNum1 at b_1150
      refine z_if_ne (tgt := 156) F dX7_groupTold_27 (by decide) (zr_t _) (fun c_1151 => ?_) (fun c_1151 => ?_)
      · have hfin : thn (f, h, 0) (fun t _ => sGrp b nn nr nt cc t) = (f, h, 0) := thn_b q0
        exact cut_156_1032 v_1130 0 I_1139 J_1141 AI H locs ls zv_1130 ⟨by decide, by decide⟩ hv hT pf ⟨_, _, by omega, hQ, hfin⟩ (by omega) (by omega) (fun _ _ => rfl) hH hS (lv_sub hl [4, 3, 2] rfl)
      · exact absurd (mQ_z hQ (by omega)) (by omega)
