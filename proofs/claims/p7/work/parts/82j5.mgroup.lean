def rmX7_groupToldf : Room := { frames := 8, cells := 0, slots := 0, locals := 170 }
set_option maxHeartbeats 4000000 in
set_option maxRecDepth 100000 in
/-- a group told -/
theorem c_X7_groupToldf (l : Launch) (g : gG) (gh : gGh) (T : Nat → Int32) (M : Int) (b : tTx) (nn nr : Nat) (nt : Nat → Nat) (cc : Nat → Int) (f : Int) (h : Nat) (I : gI) (R : gR) (J : gJ) (AI : gI) (AJ : gJ) (AR : gR) (mo : Nat) (hv : mInv g gh R I AI) (hm : gO g mo 7) (hT : AI (gh 50 0) = T) (hE : (I mo 20).toInt ≤ 936) (hM : (I mo 24).toInt = 0 → (I mo 5).toInt ≤ 15) (hMM : (I mo 5).toInt = M) (h65 : gh 9 (gh 65 0) ≠ 5) (hbM : ∀ k : Nat, k < nn → ((gM g).2 (gh 65 0) k).toInt = b k % 256) (hr7 : ∀ k : Nat, -128 ≤ b k ∧ b k ≤ 127) (hsz : (I mo 18).toInt = (nn : Int)) (hn9 : nn ≤ 900) (hm5 : (I mo 5).toInt = (nr : Int)) (hQ : mQ gh I J AI AJ mo b nn nr nt cc f h) : gMet l g yX7_groupTold tsX7_groupTold rmX7_groupToldf [.ref mo] (I, R, J, AI, AJ, AR) (gQv g (fun w : gS => R = w.2.1 ∧ AJ = w.2.2.2.2.1 ∧ AR = w.2.2.2.2.2 ∧ (mInv g gh R (w.1) (w.2.2.2.1)) ∧ ((w.2.2.2.1) (gh 50 0) = T) ∧ (qF mo I (w.1)) ∧ (((w.1) mo 20).toInt ≤ 936 ∧ (I mo 24).toInt ≤ ((w.1) mo 24).toInt) ∧ (((w.1) mo 24).toInt = 0 → ((w.1) mo 21).toInt = 4 → ((w.1) mo 23).toInt = 59 → rowOK ((w.2.2.2.1) (gh 53 0)) M) ∧ (((w.1) mo 24).toInt = 0 → tI ((w.2.2.2.1) (gh 53 0)) (40 * M) = 7) ∧ (mQ gh (w.1) (w.2.2.1) (w.2.2.2.1) AJ mo b nn nr nt cc (thn (f, h, 0) (fun t _ => sGrp b nn nr nt cc t)).1 (thn (f, h, 0) (fun t _ => sGrp b nn nr nt cc t)).2.1) ∧ (pIc (thn (f, h, 0) (fun t _ => sGrp b nn nr nt cc t)).1 (pK b nn (thn (f, h, 0) (fun t _ => sGrp b nn nr nt cc t)).2.1) (tI ((w.2.2.2.1) (gh 53 0)) (40 * (nr : Int) + 1)) (thn (f, h, 0) (fun t _ => sGrp b nn nr nt cc t)).2.2))) := by
  refine gStart (cc := cX7_groupTold) (maxL := 7) (ret := none) (by decide) rfl (Nat.le_of_ble_eq_true rfl) ?_
  intro p e s m below meth c ls F hr hlk hH hz hS hl
  have hl : lv_has ls 7 [(0, .ref mo)] := hl
  have hS : va_S (gA g) s.heap s.heap [] := hS
  obtain ⟨H, hHe⟩ : ∃ H : Heap, H = s.heap := ⟨_, rfl⟩
  obtain ⟨locs, hlo⟩ : ∃ k : List Loc, k = [] := ⟨_, rfl⟩
  have hH : gH g I R J AI AJ AR H := by rw [hHe]; exact hH
  have hS : va_S (gA g) s.heap H locs := by rw [hHe, hlo]; exact hS
  suffices hw : W p l e rmX7_groupToldf s m ([.ref mo] : List Value).toArray below meth c H locs 0 0 (MQ below (gQv g (fun w : gS => R = w.2.1 ∧ AJ = w.2.2.2.2.1 ∧ AR = w.2.2.2.2.2 ∧ (mInv g gh R (w.1) (w.2.2.2.1)) ∧ ((w.2.2.2.1) (gh 50 0) = T) ∧ (qF mo I (w.1)) ∧ (((w.1) mo 20).toInt ≤ 936 ∧ (I mo 24).toInt ≤ ((w.1) mo 24).toInt) ∧ (((w.1) mo 24).toInt = 0 → ((w.1) mo 21).toInt = 4 → ((w.1) mo 23).toInt = 59 → rowOK ((w.2.2.2.1) (gh 53 0)) M) ∧ (((w.1) mo 24).toInt = 0 → tI ((w.2.2.2.1) (gh 53 0)) (40 * M) = 7) ∧ (mQ gh (w.1) (w.2.2.1) (w.2.2.2.1) AJ mo b nn nr nt cc (thn (f, h, 0) (fun t _ => sGrp b nn nr nt cc t)).1 (thn (f, h, 0) (fun t _ => sGrp b nn nr nt cc t)).2.1) ∧ (pIc (thn (f, h, 0) (fun t _ => sGrp b nn nr nt cc t)).1 (pK b nn (thn (f, h, 0) (fun t _ => sGrp b nn nr nt cc t)).2.1) (tI ((w.2.2.2.1) (gh 53 0)) (40 * (nr : Int) + 1)) (thn (f, h, 0) (fun t _ => sGrp b nn nr nt cc t)).2.2))) ([.ref mo] : List Value).toArray s 0 0 (gA g)) (F0 m 0 ls []) by
    rw [hHe, hlo] at hw; exact hw
  clear hHe hlo
  have pf : qF mo I I := qF_r
  have hb0 := mJ hv hm
  unfold mNum1 at hb0
  have iX7 : ∀ w ∈ u_ws RX7 TX7 32, w ∈ tsX7_groupTold := fun w h => List.mem_cons_of_mem _ (inTB7 w h)
  have k81 : Cond.fieldLink RX7 81 (TX7 24).1 (TX7 24).2.1 (TX7 24).2.2.1 ∈ tsX7_groupTold := List.mem_cons_of_mem _ fl_81
  have k94 : Cond.fieldLink RX7 94 (TX7 21).1 (TX7 21).2.1 (TX7 21).2.2.1 ∈ tsX7_groupTold := List.mem_cons_of_mem _ fl_94
  have k97 : Cond.fieldLink RX7 97 (TX7 23).1 (TX7 23).2.1 (TX7 23).2.2.1 ∈ tsX7_groupTold := List.mem_cons_of_mem _ fl_97
  have hf0 := mQ_p hQ
  by_cases q0 : f = 0
  · have hQ := mQ_ok hQ q0
    have hz0 := mQ_0 hQ rfl
    have cut_156_3 : ∀ (l1 l2 : Int) (I_1 : gI) (J_2 : gJ) (AI_3 : gI) (H : Heap) (locs : List Loc) (ls : Array Slot), zr l1 → zr l2 → (mInv g gh R I_1 AI_3) → (AI_3 (gh 50 0) = T) → (qF mo I I_1) → (∃ (f9 : Int) (h9 : Nat), f9 ≠ 0 ∧ mQ gh I_1 J_2 AI_3 AJ mo b nn nr nt cc f9 h9 ∧ thn (f, h, 0) (fun t _ => sGrp b nn nr nt cc t) = (f9, h9, 0)) → ((I_1 mo 20).toInt ≤ 936 ∧ (I mo 24).toInt ≤ (I_1 mo 24).toInt) → (0 ≤ l1 ∧ l1 ≤ 15) → gH g I_1 R J_2 AI_3 AJ AR H → va_S (gA g) s.heap H locs → lv_has ls 7 [(0, .ref mo), (1, .int (iI l1)), (2, .int (iI l2))] → W p l e rmX7_groupToldf s m ([.ref mo] : List Value).toArray below meth c H locs 0 0 (MQ below (gQv g (fun w : gS => R = w.2.1 ∧ AJ = w.2.2.2.2.1 ∧ AR = w.2.2.2.2.2 ∧ (mInv g gh R (w.1) (w.2.2.2.1)) ∧ ((w.2.2.2.1) (gh 50 0) = T) ∧ (qF mo I (w.1)) ∧ (((w.1) mo 20).toInt ≤ 936 ∧ (I mo 24).toInt ≤ ((w.1) mo 24).toInt) ∧ (((w.1) mo 24).toInt = 0 → ((w.1) mo 21).toInt = 4 → ((w.1) mo 23).toInt = 59 → rowOK ((w.2.2.2.1) (gh 53 0)) M) ∧ (((w.1) mo 24).toInt = 0 → tI ((w.2.2.2.1) (gh 53 0)) (40 * M) = 7) ∧ (mQ gh (w.1) (w.2.2.1) (w.2.2.2.1) AJ mo b nn nr nt cc (thn (f, h, 0) (fun t _ => sGrp b nn nr nt cc t)).1 (thn (f, h, 0) (fun t _ => sGrp b nn nr nt cc t)).2.1) ∧ (pIc (thn (f, h, 0) (fun t _ => sGrp b nn nr nt cc t)).1 (pK b nn (thn (f, h, 0) (fun t _ => sGrp b nn nr nt cc t)).2.1) (tI ((w.2.2.2.1) (gh 53 0)) (40 * (nr : Int) + 1)) (thn (f, h, 0) (fun t _ => sGrp b nn nr nt cc t)).2.2))) ([.ref mo] : List Value).toArray s 0 0 (gA g)) (F0 m 156 ls []) := by
      intro l1 l2 I_1 J_2 AI_3 H locs ls zl1 zl2 hv hT pf hBad hx9 hl12 hH hS hl
      have uc_2 : (I_1 mo 2).toInt = (I mo 2).toInt := by rw [pf 2 (by decide) (by decide) (by decide) (by decide) (by decide)]
      have uc_5 : (I_1 mo 5).toInt = (I mo 5).toInt := by rw [pf 5 (by decide) (by decide) (by decide) (by decide) (by decide)]
      have uc_14 : (I_1 mo 14).toInt = (I mo 14).toInt := by rw [pf 14 (by decide) (by decide) (by decide) (by decide) (by decide)]
      have uc_16 : (I_1 mo 16).toInt = (I mo 16).toInt := by rw [pf 16 (by decide) (by decide) (by decide) (by decide) (by decide)]
      have uc_18 : (I_1 mo 18).toInt = (I mo 18).toInt := by rw [pf 18 (by decide) (by decide) (by decide) (by decide) (by decide)]
      obtain ⟨fb9, hb9, q9, hQ, hfin⟩ := hBad
      have q9f := mQ_f hQ q9
      have q9p := mQ_p hQ
      obtain ⟨f3, ef3⟩ : ∃ q, q = (I_1 mo 24).toInt := ⟨_, rfl⟩
      refine lv_aload_n F.1 F.2.1 dX7_groupTold_156 rfl (lv_at hl 0 rfl) ?_
      refine va_ldcS F.1 F.2.1 F.2.2.2.1 (F.2.2.2.2.2.2.1 20 _ rfl).1 dX7_groupTold_157 ?_
      have b_5 := mJ hv hm
      unfold mNum1 at b_5
      refine g_calli (g_runV (As := [.ref (gSK g 20)]) (rest := []) (ci := 7) F hl.1 hH hS hz (c_X7_isWordf l g gh T 20 _ 16 b nn nr nt cc fb9 hb9 I_1 R J_2 AI_3 AJ AR mo hv hm hT (rfl : sTab[20]? = some _) (by decide) (by decide +kernel) h65 hbM hr7 (by omega) hn9 (by omega) hQ) (cwV 1 F.2.2.2.2.1 (good_up gT_X7_isWord) rfl rfl rfl hdX7_isWord ⟨Nat.le_of_ble_eq_true rfl, Nat.le_of_ble_eq_true rfl⟩) hm (by decide) rfl rfl rfl (Nat.le_of_ble_eq_true rfl) dX7_groupTold_159 ⟨Nat.zero_le _, Nat.zero_le _⟩) hS (fun v_12 I_6 R_7 J_8 AI_9 AJ_10 AR_11 H locs zv_12 hp_13 hH hS => ?_)
      dsimp only at hp_13
      obtain ⟨rfl, rfl, rfl, rfl, rfl, rfl, q_14, q_15⟩ := hp_13
      refine z_if_eq (tgt := 169) F dX7_groupTold_162 (by decide) zv_12 (fun c_16 => ?_) (fun c_16 => ?_)
      · have t_17 := tIz_0 q_15 (by omega)
        refine lv_aload_n F.1 F.2.1 dX7_groupTold_169 rfl (lv_at hl 0 rfl) ?_
        refine va_ldcS F.1 F.2.1 F.2.2.2.1 (F.2.2.2.2.2.2.1 21 _ rfl).1 dX7_groupTold_170 ?_
        refine g_calli (g_runV (As := [.ref (gSK g 21)]) (rest := []) (ci := 7) F hl.1 hH hS hz (c_X7_isWordf l g gh T 21 _ 17 b nn nr nt cc fb9 hb9 I_1 R J_2 AI_3 AJ AR mo hv hm hT (rfl : sTab[21]? = some _) (by decide) (by decide +kernel) h65 hbM hr7 (by omega) hn9 (by omega) hQ) (cwV 1 F.2.2.2.2.1 (good_up gT_X7_isWord) rfl rfl rfl hdX7_isWord ⟨Nat.le_of_ble_eq_true rfl, Nat.le_of_ble_eq_true rfl⟩) hm (by decide) rfl rfl rfl (Nat.le_of_ble_eq_true rfl) dX7_groupTold_172 ⟨Nat.zero_le _, Nat.zero_le _⟩) hS (fun v_24 I_18 R_19 J_20 AI_21 AJ_22 AR_23 H locs zv_24 hp_25 hH hS => ?_)
        dsimp only at hp_25
        obtain ⟨rfl, rfl, rfl, rfl, rfl, rfl, q_26, q_27⟩ := hp_25
        refine z_if_eq (tgt := 182) F dX7_groupTold_175 (by decide) zv_24 (fun c_28 => ?_) (fun c_28 => ?_)
        · have t_29 := tIz_0 q_27 (by omega)
          refine lv_aload_n F.1 F.2.1 dX7_groupTold_182 rfl (lv_at hl 0 rfl) ?_
          refine va_ldcS F.1 F.2.1 F.2.2.2.1 (F.2.2.2.2.2.2.1 22 _ rfl).1 dX7_groupTold_183 ?_
          refine g_calli (g_runV (As := [.ref (gSK g 22)]) (rest := []) (ci := 7) F hl.1 hH hS hz (c_X7_isWordf l g gh T 22 _ 18 b nn nr nt cc fb9 hb9 I_1 R J_2 AI_3 AJ AR mo hv hm hT (rfl : sTab[22]? = some _) (by decide) (by decide +kernel) h65 hbM hr7 (by omega) hn9 (by omega) hQ) (cwV 1 F.2.2.2.2.1 (good_up gT_X7_isWord) rfl rfl rfl hdX7_isWord ⟨Nat.le_of_ble_eq_true rfl, Nat.le_of_ble_eq_true rfl⟩) hm (by decide) rfl rfl rfl (Nat.le_of_ble_eq_true rfl) dX7_groupTold_185 ⟨Nat.zero_le _, Nat.zero_le _⟩) hS (fun v_36 I_30 R_31 J_32 AI_33 AJ_34 AR_35 H locs zv_36 hp_37 hH hS => ?_)
          dsimp only at hp_37
          obtain ⟨rfl, rfl, rfl, rfl, rfl, rfl, q_38, q_39⟩ := hp_37
          refine z_if_eq (tgt := 195) F dX7_groupTold_188 (by decide) zv_36 (fun c_40 => ?_) (fun c_40 => ?_)
          · have t_41 := tIz_0 q_39 (by omega)
            refine lv_aload_n F.1 F.2.1 dX7_groupTold_195 rfl (lv_at hl 0 rfl) ?_
            refine va_ldcS F.1 F.2.1 F.2.2.2.1 (F.2.2.2.2.2.2.1 23 _ rfl).1 dX7_groupTold_196 ?_
            refine g_calli (g_runV (As := [.ref (gSK g 23)]) (rest := []) (ci := 7) F hl.1 hH hS hz (c_X7_isWordf l g gh T 23 _ 19 b nn nr nt cc fb9 hb9 I_1 R J_2 AI_3 AJ AR mo hv hm hT (rfl : sTab[23]? = some _) (by decide) (by decide +kernel) h65 hbM hr7 (by omega) hn9 (by omega) hQ) (cwV 1 F.2.2.2.2.1 (good_up gT_X7_isWord) rfl rfl rfl hdX7_isWord ⟨Nat.le_of_ble_eq_true rfl, Nat.le_of_ble_eq_true rfl⟩) hm (by decide) rfl rfl rfl (Nat.le_of_ble_eq_true rfl) dX7_groupTold_198 ⟨Nat.zero_le _, Nat.zero_le _⟩) hS (fun v_48 I_42 R_43 J_44 AI_45 AJ_46 AR_47 H locs zv_48 hp_49 hH hS => ?_)
            dsimp only at hp_49
            obtain ⟨rfl, rfl, rfl, rfl, rfl, rfl, q_50, q_51⟩ := hp_49
            refine z_if_eq (tgt := 208) F dX7_groupTold_201 (by decide) zv_48 (fun c_52 => ?_) (fun c_52 => ?_)
            · have t_53 := tIz_0 q_51 (by omega)
              refine z_iconst F dX7_groupTold_208 ?_
              refine lv_istore (lv' := [(5, .int (iI ((-1)))), (0, .ref mo), (1, .int (iI l1)), (2, .int (iI l2))]) F.1 F.2.1 dX7_groupTold_209 hl (by decide) rfl (fun ls hl => ?_)
              refine lv_iload F.1 F.2.1 dX7_groupTold_211 (lv_at hl 0 rfl) ?_
              refine z_if_ge (tgt := 221) F dX7_groupTold_213 (by decide) ⟨by decide, by decide⟩ (fun c_54 => ?_) (fun c_54 => ?_)
              · exact absurd trivial (by omega)
              · refine lv_aload_n F.1 F.2.1 dX7_groupTold_216 rfl (lv_at hl 1 rfl) ?_
                refine z_iconst F dX7_groupTold_217 ?_
                refine g_callv (g_runV (As := [.int (iI 1)]) (rest := []) (ci := 7) F hl.1 hH hS hz (c_X7_wrongf l g gh T b nn nr nt cc fb9 hb9 I_1 R J_2 AI_3 AJ AR mo 1 ⟨by decide, by decide⟩ hv hm hT (by omega) h65 hbM hr7 (by omega) hn9 (by omega) hQ) (cwV 1 F.2.2.2.2.1 (good_up gT_X7_wrong) rfl rfl rfl hdX7_wrong ⟨Nat.le_of_ble_eq_true rfl, Nat.le_of_ble_eq_true rfl⟩) hm (by decide) rfl rfl rfl (Nat.le_of_ble_eq_true rfl) dX7_groupTold_218 ⟨Nat.zero_le _, Nat.zero_le _⟩) hS (fun I_55 R_56 J_57 AI_58 AJ_59 AR_60 H locs hp_61 hH hS => ?_)
                dsimp only at hp_61
                obtain ⟨r_62, er_62⟩ : ∃ qQ : pR, qQ = thn (fb9, hb9, 0) (fun t _ => (1, t, 0)) := ⟨_, rfl⟩
                rw [← er_62] at hp_61
                obtain ⟨rfl, rfl, rfl, rfl, rfl, hv, pfq, q_63, hQ⟩ := hp_61
                have pf := qF_t pf pfq
                have u_64_2 : (I_55 mo 2).toInt = (I mo 2).toInt := by rw [pf 2 (by decide) (by decide) (by decide) (by decide) (by decide)]
                have u_64_5 : (I_55 mo 5).toInt = (I mo 5).toInt := by rw [pf 5 (by decide) (by decide) (by decide) (by decide) (by decide)]
                have u_64_14 : (I_55 mo 14).toInt = (I mo 14).toInt := by rw [pf 14 (by decide) (by decide) (by decide) (by decide) (by decide)]
                have u_64_16 : (I_55 mo 16).toInt = (I mo 16).toInt := by rw [pf 16 (by decide) (by decide) (by decide) (by decide) (by decide)]
                have u_64_18 : (I_55 mo 18).toInt = (I mo 18).toInt := by rw [pf 18 (by decide) (by decide) (by decide) (by decide) (by decide)]
                rw [thn_b (by omega)] at er_62
                have hQ : mQ gh I_55 J_2 AI_3 AJ mo b nn nr nt cc fb9 hb9 := by rw [er_62] at hQ; exact hQ
                refine lv_aload_n F.1 F.2.1 dX7_groupTold_221 rfl (lv_at hl 1 rfl) ?_
                have b_65 := mJ hv hm
                unfold mNum1 at b_65
                refine g_callv (g_runV (As := []) (rest := []) (ci := 7) F hl.1 hH hS hz (c_X7_nextf l g gh T b nn (tNd b nn (tPs b nn hb9)) I_55 R J_2 AI_3 AJ AR mo hv hm hT (by omega) (mTp hv h65 hbM) hr7 (by omega) (by omega) (mQ_e0 hQ) tNd_le.1) (cwV 0 F.2.2.2.2.1 (good_up gT_X7_next) rfl rfl rfl hdX7_next ⟨Nat.le_of_ble_eq_true rfl, Nat.le_of_ble_eq_true rfl⟩) hm (by decide) rfl rfl rfl (Nat.le_of_ble_eq_true rfl) dX7_groupTold_222 ⟨Nat.zero_le _, Nat.zero_le _⟩) hS (fun I_66 R_67 J_68 AI_69 AJ_70 AR_71 H locs hp_72 hH hS => ?_)
                dsimp only at hp_72
                obtain ⟨rfl, rfl, rfl, rfl, hv, pfq, q_73, nx4, nxa, nxb⟩ := hp_72
                have pf := qF_t pf pfq
                have u_74_2 : (I_66 mo 2).toInt = (I mo 2).toInt := by rw [pf 2 (by decide) (by decide) (by decide) (by decide) (by decide)]
                have u_74_5 : (I_66 mo 5).toInt = (I mo 5).toInt := by rw [pf 5 (by decide) (by decide) (by decide) (by decide) (by decide)]
                have u_74_14 : (I_66 mo 14).toInt = (I mo 14).toInt := by rw [pf 14 (by decide) (by decide) (by decide) (by decide) (by decide)]
                have u_74_16 : (I_66 mo 16).toInt = (I mo 16).toInt := by rw [pf 16 (by decide) (by decide) (by decide) (by decide) (by decide)]
                have u_74_18 : (I_66 mo 18).toInt = (I mo 18).toInt := by rw [pf 18 (by decide) (by decide) (by decide) (by decide) (by decide)]
                have hQ : mQ gh I_66 J_68 AI_3 AJ mo b nn nr nt cc fb9 hb9 := by have q9 := mQ_nx hQ nx4 nxa; rw [thn_b (by omega)] at q9; exact q9
                clear nxa nxb
                refine lv_iload F.1 F.2.1 dX7_groupTold_225 (lv_at hl 0 rfl) ?_
                refine z_if_le (tgt := 242) F dX7_groupTold_227 (by decide) ⟨by decide, by decide⟩ (fun c_75 => ?_) (fun c_75 => ?_)
                · refine z_iconst F dX7_groupTold_242 ?_
                  refine lv_istore (lv' := [(6, .int (iI 0)), (5, .int (iI ((-1)))), (0, .ref mo), (1, .int (iI l1)), (2, .int (iI l2))]) F.1 F.2.1 dX7_groupTold_243 hl (by decide) rfl (fun ls hl => ?_)
                  refine lv_aload_n F.1 F.2.1 dX7_groupTold_245 rfl (lv_at hl 2 rfl) ?_
                  refine lv_iload_n F.1 F.2.1 dX7_groupTold_246 rfl (lv_at hl 4 rfl) ?_
                  refine lv_iload F.1 F.2.1 dX7_groupTold_247 (lv_at hl 0 rfl) ?_
                  refine lv_iload F.1 F.2.1 dX7_groupTold_249 (lv_at hl 1 rfl) ?_
                  refine z_iconst F dX7_groupTold_251 ?_
                  refine z_iconst F dX7_groupTold_252 ?_
                  have b_76 := mJ hv hm
                  unfold mNum1 at b_76
                  refine g_callv (g_runV (As := [.int (iI l2), .int (iI 0), .int (iI ((-1))), .int (iI 0), .int (iI 0)]) (rest := []) (ci := 7) F hl.1 hH hS hz (c_X7_setsPart l g gh T M I_66 R J_68 AI_3 AJ AR mo l2 0 (-1) 0 0 zl2 ⟨by decide, by decide⟩ ⟨by decide, by decide⟩ ⟨by decide, by decide⟩ ⟨by decide, by decide⟩ hv hm hT (by omega) (by omega) (by omega)) (cwV 5 F.2.2.2.2.1 (good_up gT_X7_setsPart) rfl rfl rfl hdX7_setsPart ⟨Nat.le_of_ble_eq_true rfl, Nat.le_of_ble_eq_true rfl⟩) hm (by decide) rfl rfl rfl (Nat.le_of_ble_eq_true rfl) dX7_groupTold_253 ⟨Nat.zero_le _, Nat.zero_le _⟩) hS (fun I_77 R_78 J_79 AI_80 AJ_81 AR_82 H locs hp_83 hH hS => ?_)
                  dsimp only at hp_83
                  obtain ⟨rfl, rfl, rfl, rfl, rfl, hv, hT, hsp⟩ := hp_83
                  replace hsp := hid hsp
                  have hQ : mQ gh I_66 J_68 AI_80 AJ mo b nn nr nt cc fb9 hb9 := mQ_bad hQ (by omega) rfl
                  refine lv_aload_n F.1 F.2.1 dX7_groupTold_256 rfl (lv_at hl 2 rfl) ?_
                  refine z_bipush F dX7_groupTold_257 (by decide) ?_
                  refine lv_iload_n F.1 F.2.1 dX7_groupTold_259 rfl (lv_at hl 4 rfl) ?_
                  refine z_iconst F dX7_groupTold_260 ?_
                  refine z_iadd F dX7_groupTold_261 ?_
                  refine z_norm (fun v_84 zv_84 ev_84 => ?_)
                  refine lv_iload_n F.1 F.2.1 dX7_groupTold_262 rfl (lv_at hl 3 rfl) ?_
                  refine z_iconst F dX7_groupTold_263 ?_
                  refine lv_iload_n F.1 F.2.1 dX7_groupTold_264 rfl (lv_at hl 4 rfl) ?_
                  refine g_callv (g_runV (As := [.int (iI 7), .int (iI v_84), .int (iI l1), .int (iI ((-1))), .int (iI l2)]) (rest := []) (ci := 7) F hl.1 hH hS hz (c_X7_header l g gh T M I_66 R J_68 AI_80 AJ AR mo 7 v_84 l1 (-1) l2 ⟨by decide, by decide⟩ zv_84 zl1 ⟨by decide, by decide⟩ zl2 hv hm hT (by omega) (by omega)) (cwV 5 F.2.2.2.2.1 (good_up gT_X7_header) rfl rfl rfl hdX7_header ⟨Nat.le_of_ble_eq_true rfl, Nat.le_of_ble_eq_true rfl⟩) hm (by decide) rfl rfl rfl (Nat.le_of_ble_eq_true rfl) dX7_groupTold_265 ⟨Nat.zero_le _, Nat.zero_le _⟩) hS (fun I_85 R_86 J_87 AI_88 AJ_89 AR_90 H locs hp_91 hH hS => ?_)
                  dsimp only at hp_91
                  obtain ⟨rfl, rfl, rfl, rfl, rfl, hv, hT, hhd⟩ := hp_91
                  replace hhd := hid hhd
                  have hQ : mQ gh I_66 J_68 AI_88 AJ mo b nn nr nt cc fb9 hb9 := mQ_bad hQ (by omega) rfl
                  exact g_vret F hr hlk hH hS hz ⟨rfl, rfl, rfl, hv, hT, pf, by first | (dsimp only; omega) | omega | rfl, by (try dsimp only); exact (fun hf => absurd hf (by omega)), by (try dsimp only); exact (fun hf => absurd hf (by omega)), by (try dsimp only); rw [hfin]; exact hQ, by (try dsimp only); rw [hfin]; exact pIc_n (by omega)⟩ dX7_groupTold_268
                · exact absurd trivial (by omega)
            · exact absurd (tIz_1 q_51 (by omega)).1 (by omega)
          · exact absurd (tIz_1 q_39 (by omega)).1 (by omega)
        · exact absurd (tIz_1 q_27 (by omega)).1 (by omega)
      · exact absurd (tIz_1 q_15 (by omega)).1 (by omega)
    refine lv_aload_n F.1 F.2.1 dX7_groupTold_0 rfl (lv_at hl 0 rfl) ?_
    have b_92 := mJ hv hm
    unfold mNum1 at b_92
    refine g_calli (g_runV (As := []) (rest := []) (ci := 7) F hl.1 hH hS hz (c_X7_relationf l g gh T b nn nr nt cc 0 h I R J AI AJ AR mo hv hm hT (by omega) h65 hbM hr7 (by omega) hn9 (by omega) hQ) (cwV 0 F.2.2.2.2.1 (good_up gT_X7_relation) rfl rfl rfl hdX7_relation ⟨Nat.le_of_ble_eq_true rfl, Nat.le_of_ble_eq_true rfl⟩) hm (by decide) rfl rfl rfl (Nat.le_of_ble_eq_true rfl) dX7_groupTold_1 ⟨Nat.zero_le _, Nat.zero_le _⟩) hS (fun v_99 I_93 R_94 J_95 AI_96 AJ_97 AR_98 H locs zv_99 hp_100 hH hS => ?_)
    dsimp only at hp_100
    obtain ⟨r_101, er_101⟩ : ∃ qQ : pR, qQ = thn (0, h, 0) (fun t _ => sRl b nn nr nt cc t) := ⟨_, rfl⟩
    rw [← er_101] at hp_100
    obtain ⟨rfl, rfl, rfl, rfl, hv, pfq, q_102, q_103, hQ, q_104⟩ := hp_100
    have pf := qF_t pf pfq
    have u_105_2 : (I_93 mo 2).toInt = (I mo 2).toInt := by rw [pf 2 (by decide) (by decide) (by decide) (by decide) (by decide)]
    have u_105_5 : (I_93 mo 5).toInt = (I mo 5).toInt := by rw [pf 5 (by decide) (by decide) (by decide) (by decide) (by decide)]
    have u_105_14 : (I_93 mo 14).toInt = (I mo 14).toInt := by rw [pf 14 (by decide) (by decide) (by decide) (by decide) (by decide)]
    have u_105_16 : (I_93 mo 16).toInt = (I mo 16).toInt := by rw [pf 16 (by decide) (by decide) (by decide) (by decide) (by decide)]
    have u_105_18 : (I_93 mo 18).toInt = (I mo 18).toInt := by rw [pf 18 (by decide) (by decide) (by decide) (by decide) (by decide)]
    have er_101 : r_101 = sRl b nn nr nt cc h := er_101
    have sr_101 := er_101
    rcases sRl_c er_101 with ⟨er_101, pr_101⟩ | ⟨er_101, pr_101⟩
    · have hQ : mQ gh I_93 J_95 AI AJ mo b nn nr nt cc 0 (h + 1) := by rw [er_101] at hQ; exact hQ
      have sr_101 : sRl b nn nr nt cc h = (0, h + 1, cF b nn nr nt cc h) := sr_101.symm.trans er_101
      have vlr_101 := q_104 (by rw [er_101])
      try rw [er_101] at vlr_101
      try dsimp only at vlr_101
      replace q_103 := (⟨q_103.1, q_103.2.1, q_103.2.2 (mQ_0 hQ rfl)⟩ : _ ∧ _ ∧ _)
      obtain ⟨f0, ef0⟩ : ∃ q, q = (I_93 mo 24).toInt := ⟨_, rfl⟩
      have hr1 : Hid (f0 = 0 → v_99 < M) := fun h9 => by omega
      refine lv_istore_n (lv' := [(1, .int (iI v_99)), (0, .ref mo)]) F.1 F.2.1 dX7_groupTold_4 rfl hl (by decide) rfl (fun ls hl => ?_)
      refine lv_aload_n F.1 F.2.1 dX7_groupTold_5 rfl (lv_at hl 1 rfl) ?_
      refine va_ldcS F.1 F.2.1 F.2.2.2.1 (F.2.2.2.2.2.2.1 19 _ rfl).1 dX7_groupTold_6 ?_
      have b_106 := mJ hv hm
      unfold mNum1 at b_106
      refine g_callv (g_runV (As := [.ref (gSK g 19)]) (rest := []) (ci := 7) F hl.1 hH hS hz (c_X7_mustWordf l g gh T 19 _ 13 b nn nr nt cc 0 (h + 1) I_93 R J_95 AI AJ AR mo hv hm hT (by omega) (rfl : sTab[19]? = some _) h65 hbM hr7 (by omega) hn9 (by omega) (by decide) (by decide +kernel) hQ) (cwV 1 F.2.2.2.2.1 (good_up gT_X7_mustWord) rfl rfl rfl hdX7_mustWord ⟨Nat.le_of_ble_eq_true rfl, Nat.le_of_ble_eq_true rfl⟩) hm (by decide) rfl rfl rfl (Nat.le_of_ble_eq_true rfl) dX7_groupTold_8 ⟨Nat.zero_le _, Nat.zero_le _⟩) hS (fun I_107 R_108 J_109 AI_110 AJ_111 AR_112 H locs hp_113 hH hS => ?_)
      dsimp only at hp_113
      obtain ⟨r_114, er_114⟩ : ∃ qQ : pR, qQ = thn (0, (h + 1), 0) (fun t _ => sTw b nn ((13 : Nat) : Int) t) := ⟨_, rfl⟩
      rw [← er_114] at hp_113
      obtain ⟨rfl, rfl, rfl, rfl, hv, pfq, q_115, hQ⟩ := hp_113
      have pf := qF_t pf pfq
      have u_116_2 : (I_107 mo 2).toInt = (I mo 2).toInt := by rw [pf 2 (by decide) (by decide) (by decide) (by decide) (by decide)]
      have u_116_5 : (I_107 mo 5).toInt = (I mo 5).toInt := by rw [pf 5 (by decide) (by decide) (by decide) (by decide) (by decide)]
      have u_116_14 : (I_107 mo 14).toInt = (I mo 14).toInt := by rw [pf 14 (by decide) (by decide) (by decide) (by decide) (by decide)]
      have u_116_16 : (I_107 mo 16).toInt = (I mo 16).toInt := by rw [pf 16 (by decide) (by decide) (by decide) (by decide) (by decide)]
      have u_116_18 : (I_107 mo 18).toInt = (I mo 18).toInt := by rw [pf 18 (by decide) (by decide) (by decide) (by decide) (by decide)]
      have er_114 : r_114 = sTw b nn 13 (h + 1) := er_114
      have sr_114 := er_114
      rcases sTw_c er_114 with ⟨er_114, pr_114⟩ | ⟨er_114, pr_114⟩
      · have hQ : mQ gh I_107 J_109 AI AJ mo b nn nr nt cc 0 (h + 2) := by rw [er_114] at hQ; exact hQ
        have sr_114 : sTw b nn 13 (h + 1) = (0, h + 2, 0) := sr_114.symm.trans er_114
        refine z_iconst F dX7_groupTold_11 ?_
        refine lv_istore_n (lv' := [(2, .int (iI 0)), (1, .int (iI v_99)), (0, .ref mo)]) F.1 F.2.1 dX7_groupTold_12 rfl hl (by decide) rfl (fun ls hl => ?_)
        refine z_iconst F dX7_groupTold_13 ?_
        refine lv_istore_n (lv' := [(3, .int (iI 0)), (2, .int (iI 0)), (1, .int (iI v_99)), (0, .ref mo)]) F.1 F.2.1 dX7_groupTold_14 rfl hl (by decide) rfl (fun ls hl => ?_)
        refine z_iconst F dX7_groupTold_15 ?_
        refine lv_istore (lv' := [(4, .int (iI 1)), (3, .int (iI 0)), (2, .int (iI 0)), (1, .int (iI v_99)), (0, .ref mo)]) F.1 F.2.1 dX7_groupTold_16 hl (by decide) rfl (fun ls hl => ?_)
        have cut_18_119 : ∀ (NN : Nat) (n had mr : Int) (I_117 : gI) (J_118 : gJ) (AI_119 : gI) (H : Heap) (locs : List Loc) (ls : Array Slot), zr n → zr had → zr mr → (mInv g gh R I_117 AI_119) → (AI_119 (gh 50 0) = T) → (qF mo I I_117) → ((I_117 mo 20).toInt ≤ 936 ∧ f0 ≤ (I_117 mo 24).toInt ∧ 0 ≤ n ∧ n ≤ 4) → (Hid ((I_117 mo 24).toInt = 0 → n ≤ 3 ∧ grpP (AI_119 (gh 53 0)) M n)) → (∃ (hc : Nat) (L : List Int), mQ gh I_117 J_118 AI_119 AJ mo b nn nr nt cc 0 hc ∧ sBys b nn (cF b nn nr nt cc h) 4 0 [] (h + 2) = sBys b nn (cF b nn nr nt cc h) (4 - n).toNat n L hc ∧ mGn had L) → (mr = 1) → (5 - n) < ((NN : Nat) : Int) → gH g I_117 R J_118 AI_119 AJ AR H → va_S (gA g) s.heap H locs → lv_has ls 7 [(4, .int (iI mr)), (3, .int (iI had)), (2, .int (iI n)), (1, .int (iI v_99)), (0, .ref mo)] → W p l e rmX7_groupToldf s m ([.ref mo] : List Value).toArray below meth c H locs 0 0 (MQ below (gQv g (fun w : gS => R = w.2.1 ∧ AJ = w.2.2.2.2.1 ∧ AR = w.2.2.2.2.2 ∧ (mInv g gh R (w.1) (w.2.2.2.1)) ∧ ((w.2.2.2.1) (gh 50 0) = T) ∧ (qF mo I (w.1)) ∧ (((w.1) mo 20).toInt ≤ 936 ∧ (I mo 24).toInt ≤ ((w.1) mo 24).toInt) ∧ (((w.1) mo 24).toInt = 0 → ((w.1) mo 21).toInt = 4 → ((w.1) mo 23).toInt = 59 → rowOK ((w.2.2.2.1) (gh 53 0)) M) ∧ (((w.1) mo 24).toInt = 0 → tI ((w.2.2.2.1) (gh 53 0)) (40 * M) = 7) ∧ (mQ gh (w.1) (w.2.2.1) (w.2.2.2.1) AJ mo b nn nr nt cc (thn (f, h, 0) (fun t _ => sGrp b nn nr nt cc t)).1 (thn (f, h, 0) (fun t _ => sGrp b nn nr nt cc t)).2.1) ∧ (pIc (thn (f, h, 0) (fun t _ => sGrp b nn nr nt cc t)).1 (pK b nn (thn (f, h, 0) (fun t _ => sGrp b nn nr nt cc t)).2.1) (tI ((w.2.2.2.1) (gh 53 0)) (40 * (nr : Int) + 1)) (thn (f, h, 0) (fun t _ => sGrp b nn nr nt cc t)).2.2))) ([.ref mo] : List Value).toArray s 0 0 (gA g)) (F0 m 18 ls []) := by
          intro NN18
          induction NN18 with
          | zero =>
            intro n had mr I_117 J_118 AI_119 H locs ls zn zhad zmr hv hT pf hx hp hLs hmr hm18 hH hS hl
            exact absurd hm18 (by omega)
          | succ NN18 ih18 =>
            intro n had mr I_117 J_118 AI_119 H locs ls zn zhad zmr hv hT pf hx hp hLs hmr hm18 hH hS hl
            (try clear u_116_18); (try clear u_116_16); (try clear u_116_14); (try clear u_116_5); (try clear u_116_2); (try clear b_106); (try clear u_105_18); (try clear u_105_16); (try clear u_105_14); (try clear u_105_5); (try clear u_105_2); (try clear b_92)
            have uc_2 : (I_117 mo 2).toInt = (I mo 2).toInt := by rw [pf 2 (by decide) (by decide) (by decide) (by decide) (by decide)]
            have uc_5 : (I_117 mo 5).toInt = (I mo 5).toInt := by rw [pf 5 (by decide) (by decide) (by decide) (by decide) (by decide)]
            have uc_14 : (I_117 mo 14).toInt = (I mo 14).toInt := by rw [pf 14 (by decide) (by decide) (by decide) (by decide) (by decide)]
            have uc_16 : (I_117 mo 16).toInt = (I mo 16).toInt := by rw [pf 16 (by decide) (by decide) (by decide) (by decide) (by decide)]
            have uc_18 : (I_117 mo 18).toInt = (I mo 18).toInt := by rw [pf 18 (by decide) (by decide) (by decide) (by decide) (by decide)]
            obtain ⟨hc, L, hQ, hsq, hcn⟩ := hLs
            have hp_k := hp (mQ_0 hQ rfl)
            refine lv_iload F.1 F.2.1 dX7_groupTold_18 (lv_at hl 0 rfl) ?_
            refine z_if_eq (tgt := 156) F dX7_groupTold_20 (by decide) zmr (fun c_121 => ?_) (fun c_121 => ?_)
            · exact absurd hmr (by omega)
            · refine lv_aload_n F.1 F.2.1 dX7_groupTold_23 rfl (lv_at hl 4 rfl) ?_
              refine g_getI (ci := 7) (k := 24) F hH rfl (by decide) iX7 hm (by decide) rfl k81 dX7_groupTold_24 ?_
              have b_122 := mJ hv hm
              unfold mNum1 at b_122
              refine z_if_ne (tgt := 156) F dX7_groupTold_27 (by decide) (zr_t _) (fun c_123 => ?_) (fun c_123 => ?_)
              · exact absurd (mQ_0 hQ rfl) (by omega)
              · refine lv_aload_n F.1 F.2.1 dX7_groupTold_30 rfl (lv_at hl 4 rfl) ?_
                refine g_getI (ci := 7) (k := 21) F hH rfl (by decide) iX7 hm (by decide) rfl k94 dX7_groupTold_31 ?_
                refine z_iconst F dX7_groupTold_34 ?_
                refine z_icmp_ne (tgt := 42) F dX7_groupTold_35 (by decide) (zr_t _) ⟨by decide, by decide⟩ (fun c_124 => ?_) (fun c_124 => ?_)
                · have t_125 : pK b nn hc ≠ 2 := mQ_kn hQ rfl (c := 1) rfl (by omega)
                  refine z_iconst F dX7_groupTold_42 ?_
                  refine lv_istore (lv' := [(5, .int (iI 0)), (4, .int (iI mr)), (3, .int (iI had)), (2, .int (iI n)), (1, .int (iI v_99)), (0, .ref mo)]) F.1 F.2.1 dX7_groupTold_43 hl (by decide) rfl (fun ls hl => ?_)
                  refine lv_iload F.1 F.2.1 dX7_groupTold_45 (lv_at hl 0 rfl) ?_
                  refine z_if_eq (tgt := 79) F dX7_groupTold_47 (by decide) ⟨by decide, by decide⟩ (fun c_126 => ?_) (fun c_126 => ?_)
                  · refine lv_iload_n F.1 F.2.1 dX7_groupTold_79 rfl (lv_at hl 3 rfl) ?_
                    refine z_iconst F dX7_groupTold_80 ?_
                    refine z_icmp_ne (tgt := 98) F dX7_groupTold_81 (by decide) zn ⟨by decide, by decide⟩ (fun c_127 => ?_) (fun c_127 => ?_)
                    · refine lv_aload_n F.1 F.2.1 dX7_groupTold_98 rfl (lv_at hl 5 rfl) ?_
                      refine lv_aload_n F.1 F.2.1 dX7_groupTold_99 rfl (lv_at hl 5 rfl) ?_
                      refine lv_iload_n F.1 F.2.1 dX7_groupTold_100 rfl (lv_at hl 4 rfl) ?_
                      refine g_calli (g_runV (As := [.int (iI v_99)]) (rest := [.ref mo]) (ci := 7) F hl.1 hH hS hz (c_X7_columns l g gh T I_117 R J_118 AI_119 AJ AR mo v_99 zv_99 hv hm hT (by omega)) (cwV 1 F.2.2.2.2.1 (good_up gT_X7_columns) rfl rfl rfl hdX7_columns ⟨Nat.le_of_ble_eq_true rfl, Nat.le_of_ble_eq_true rfl⟩) hm (by decide) rfl rfl rfl (Nat.le_of_ble_eq_true rfl) dX7_groupTold_101 ⟨Nat.zero_le _, Nat.zero_le _⟩) hS (fun v_135 I_129 R_130 J_131 AI_132 AJ_133 AR_134 H locs zv_135 hp_136 hH hS => ?_)
                      dsimp only at hp_136
                      obtain ⟨rfl, rfl, rfl, rfl, rfl, rfl, q_128⟩ := hp_136
                      have cvv_135 : v_135 = cF b nn nr nt cc h := q_128.trans ((mQ_c hQ rfl vlr_101.1 vlr_101.2.1).trans vlr_101.2.2)
                      refine g_calli (g_runV (As := [.int (iI v_135)]) (rest := []) (ci := 7) F hl.1 hH hS hz (c_X7_columnf l g gh T b nn nr nt cc 0 hc I_117 R J_118 AI_119 AJ AR mo v_135 zv_135 hv hm hT (by omega) h65 hbM hr7 (by omega) hn9 (by omega) hQ) (cwV 1 F.2.2.2.2.1 (good_up gT_X7_column) rfl rfl rfl hdX7_column ⟨Nat.le_of_ble_eq_true rfl, Nat.le_of_ble_eq_true rfl⟩) hm (by decide) rfl rfl rfl (Nat.le_of_ble_eq_true rfl) dX7_groupTold_104 ⟨Nat.zero_le _, Nat.zero_le _⟩) hS (fun v_143 I_137 R_138 J_139 AI_140 AJ_141 AR_142 H locs zv_143 hp_144 hH hS => ?_)
                      dsimp only at hp_144
                      rw [show v_135 = cF b nn nr nt cc h by omega] at hp_144
                      obtain ⟨r_145, er_145⟩ : ∃ qQ : pR, qQ = thn (0, hc, 0) (fun t _ => sCol b nn (cF b nn nr nt cc h) t) := ⟨_, rfl⟩
                      rw [← er_145] at hp_144
                      obtain ⟨rfl, rfl, rfl, rfl, hv, pfq, q_146, q_147, hQ, q_148⟩ := hp_144
                      have pf := qF_t pf pfq
                      have u_149_2 : (I_137 mo 2).toInt = (I mo 2).toInt := by rw [pf 2 (by decide) (by decide) (by decide) (by decide) (by decide)]
                      have u_149_5 : (I_137 mo 5).toInt = (I mo 5).toInt := by rw [pf 5 (by decide) (by decide) (by decide) (by decide) (by decide)]
                      have u_149_14 : (I_137 mo 14).toInt = (I mo 14).toInt := by rw [pf 14 (by decide) (by decide) (by decide) (by decide) (by decide)]
                      have u_149_16 : (I_137 mo 16).toInt = (I mo 16).toInt := by rw [pf 16 (by decide) (by decide) (by decide) (by decide) (by decide)]
                      have u_149_18 : (I_137 mo 18).toInt = (I mo 18).toInt := by rw [pf 18 (by decide) (by decide) (by decide) (by decide) (by decide)]
                      have er_145 : r_145 = sCol b nn (cF b nn nr nt cc h) hc := er_145
                      have sr_145 := er_145
                      rcases sCol_c er_145 with ⟨er_145, pr_145⟩ | ⟨er_145, pr_145⟩
                      · have hQ : mQ gh I_137 J_139 AI_119 AJ mo b nn nr nt cc 0 (hc + 1) := by rw [er_145] at hQ; exact hQ
                        have sr_145 : sCol b nn (cF b nn nr nt cc h) hc = (0, hc + 1, pV b nn hc) := sr_145.symm.trans er_145
                        have vlr_145 := q_148 (by rw [er_145])
                        try rw [er_145] at vlr_145
                        try dsimp only at vlr_145
                        have kq_147 := q_147 (mQ_0 hQ rfl)
                        replace q_147 := hid q_147
                        obtain ⟨f1, ef1⟩ : ∃ q, q = (I_137 mo 24).toInt := ⟨_, rfl⟩
                        have hc1 : Hid (f1 = 0 → 0 ≤ v_143 ∧ v_143 ≤ 3) := fun h9 => by omega
                        refine lv_istore (lv' := [(6, .int (iI v_143)), (5, .int (iI 0)), (4, .int (iI mr)), (3, .int (iI had)), (2, .int (iI n)), (1, .int (iI v_99)), (0, .ref mo)]) F.1 F.2.1 dX7_groupTold_107 hl (by decide) rfl (fun ls hl => ?_)
                        refine lv_aload_n F.1 F.2.1 dX7_groupTold_109 rfl (lv_at hl 6 rfl) ?_
                        refine g_getI (ci := 7) (k := 24) F hH rfl (by decide) iX7 hm (by decide) rfl k81 dX7_groupTold_110 ?_
                        have b_150 := mJ hv hm
                        unfold mNum1 at b_150
                        refine z_if_ne (tgt := 123) F dX7_groupTold_113 (by decide) (zr_t _) (fun c_151 => ?_) (fun c_151 => ?_)
                        · exact absurd (mQ_0 hQ rfl) (by omega)
                        · refine lv_iload_n F.1 F.2.1 dX7_groupTold_116 rfl (lv_at hl 3 rfl) ?_
                          refine z_iconst F dX7_groupTold_117 ?_
                          refine lv_iload F.1 F.2.1 dX7_groupTold_118 (lv_at hl 0 rfl) ?_
                          refine lv_ishl F.1 F.2.1 dX7_groupTold_120 ?_
                          refine z_top (fun v_152 zv_152 ev_152 => ?_)
                          refine lv_ior F.1 F.2.1 dX7_groupTold_121 ?_
                          refine z_top (fun v_153 zv_153 ev_153 => ?_)
                          have hcn : mGn v_153 (v_143 :: L) := mGn_s hcn (by omega) ev_152 ev_153
                          rw [show v_143 = pV b nn hc by omega] at hcn
                          refine lv_istore_n (lv' := [(3, .int (iI v_153)), (6, .int (iI v_143)), (5, .int (iI 0)), (4, .int (iI mr)), (2, .int (iI n)), (1, .int (iI v_99)), (0, .ref mo)]) F.1 F.2.1 dX7_groupTold_122 rfl hl (by decide) rfl (fun ls hl => ?_)
                          refine lv_aload_n F.1 F.2.1 dX7_groupTold_123 rfl (lv_at hl 6 rfl) ?_
                          refine lv_iload_n F.1 F.2.1 dX7_groupTold_124 rfl (lv_at hl 4 rfl) ?_
                          refine lv_iload F.1 F.2.1 dX7_groupTold_125 (lv_at hl 1 rfl) ?_
                          refine z_iconst F dX7_groupTold_127 ?_
                          refine z_iconst F dX7_groupTold_128 ?_
                          refine z_iconst F dX7_groupTold_129 ?_
                          refine g_callv (g_runV (As := [.int (iI n), .int (iI v_143), .int (iI 0), .int (iI 0), .int (iI 0)]) (rest := []) (ci := 7) F hl.1 hH hS hz (c_X7_setsPart l g gh T M I_137 R J_139 AI_119 AJ AR mo n v_143 0 0 0 zn zv_143 ⟨by decide, by decide⟩ ⟨by decide, by decide⟩ ⟨by decide, by decide⟩ hv hm hT (by omega) (by omega) (by omega)) (cwV 5 F.2.2.2.2.1 (good_up gT_X7_setsPart) rfl rfl rfl hdX7_setsPart ⟨Nat.le_of_ble_eq_true rfl, Nat.le_of_ble_eq_true rfl⟩) hm (by decide) rfl rfl rfl (Nat.le_of_ble_eq_true rfl) dX7_groupTold_130 ⟨Nat.zero_le _, Nat.zero_le _⟩) hS (fun I_154 R_155 J_156 AI_157 AJ_158 AR_159 H locs hp_160 hH hS => ?_)
                          dsimp only at hp_160
                          obtain ⟨rfl, rfl, rfl, rfl, rfl, hv, hT, hsp⟩ := hp_160
                          replace hsp := hid hsp
                          have hQ : mQ gh I_137 J_139 AI_157 AJ mo b nn nr nt cc 0 (hc + 1) := mQ_a hQ (fun hf9 z9 h09 h19 => (hsp hf9).1 z9 h09 (Or.inl (by omega)))
                          refine z_iinc (lv' := [(2, .int (iI (n + 1))), (3, .int (iI v_153)), (6, .int (iI v_143)), (5, .int (iI 0)), (4, .int (iI mr)), (1, .int (iI v_99)), (0, .ref mo)]) F dX7_groupTold_133 hl (k := 4) rfl (by decide) rfl (fun ls hl => ?_)
                          refine lv_aload_n F.1 F.2.1 dX7_groupTold_136 rfl (lv_at hl 6 rfl) ?_
                          refine z_bipush F dX7_groupTold_137 (by decide) ?_
                          refine g_calli (g_runV (As := [.int (iI 44)]) (rest := []) (ci := 7) F hl.1 hH hS hz (c_X7_isSignf l g gh T b nn nr nt cc 0 (hc + 1) I_137 R J_139 AI_157 AJ AR mo 44 ⟨by decide, by decide⟩ hv hm hT h65 hbM hr7 (by omega) hn9 (by omega) (by omega) hQ) (cwV 1 F.2.2.2.2.1 (good_up gT_X7_isSign) rfl rfl rfl hdX7_isSign ⟨Nat.le_of_ble_eq_true rfl, Nat.le_of_ble_eq_true rfl⟩) hm (by decide) rfl rfl rfl (Nat.le_of_ble_eq_true rfl) dX7_groupTold_139 ⟨Nat.zero_le _, Nat.zero_le _⟩) hS (fun v_167 I_161 R_162 J_163 AI_164 AJ_165 AR_166 H locs zv_167 hp_168 hH hS => ?_)
                          dsimp only at hp_168
                          obtain ⟨rfl, rfl, rfl, rfl, rfl, rfl, q_169, q_170⟩ := hp_168
                          replace q_169 := q_169.1
                          refine lv_istore (lv' := [(4, .int (iI v_167)), (2, .int (iI (n + 1))), (3, .int (iI v_153)), (6, .int (iI v_143)), (5, .int (iI 0)), (1, .int (iI v_99)), (0, .ref mo)]) F.1 F.2.1 dX7_groupTold_142 hl (by decide) rfl (fun ls hl => ?_)
                          refine lv_iload F.1 F.2.1 dX7_groupTold_144 (lv_at hl 0 rfl) ?_
                          refine z_if_eq (tgt := 153) F dX7_groupTold_146 (by decide) zv_167 (fun c_171 => ?_) (fun c_171 => ?_)
                          · have t_172 := tIz_n q_170 (by omega)
                            have hTs : sBy b nn (cF b nn nr nt cc h) n L hc = (0, hc + 1, pV b nn hc) := absurd pr_145.2.1 (by omega)
                            have hp : Hid ((I_137 mo 24).toInt = 0 → (n + 1) ≤ 3 ∧ grpP (AI_157 (gh 53 0)) M (n + 1)) := ((fun hf => ⟨by omega, grpP_step (by omega) (hp (by omega)).2 (hsp (by omega)) (by omega)⟩))
                            have hS9 : sBys b nn (cF b nn nr nt cc h) 4 0 [] (h + 2) = (0, hc + 1, n + 1) := sBys_st hsq (f := (3 - n).toNat) (by omega) hTs.symm rfl (by omega)
                            refine z_goto (tgt := 18) F dX7_groupTold_153 (by decide) ?_
                            refine lv_iload F.1 F.2.1 dX7_groupTold_18 (lv_at hl 0 rfl) ?_
                            refine z_if_eq (tgt := 156) F dX7_groupTold_20 (by decide) zv_167 (fun c_173 => ?_) (fun c_173 => ?_)
                            · have t_174 := tIz_n q_170 (by omega)
                              obtain ⟨f3, ef3⟩ : ∃ q, q = (I_137 mo 24).toInt := ⟨_, rfl⟩
                              have cut_209_174 : ∀ (fo : Int) (H : Heap) (locs : List Loc) (ls : Array Slot), zr fo → (-1 ≤ fo ∧ fo ≤ 3) → (pFo fo (pK b nn (hc + 1)) (pV b nn (hc + 1))) → gH g I_137 R J_139 AI_157 AJ AR H → va_S (gA g) s.heap H locs → lv_has ls 7 [(4, .int (iI v_167)), (2, .int (iI (n + 1))), (3, .int (iI v_153)), (6, .int (iI v_143)), (5, .int (iI 0)), (1, .int (iI v_99)), (0, .ref mo)] → W p l e rmX7_groupToldf s m ([.ref mo] : List Value).toArray below meth c H locs 0 0 (MQ below (gQv g (fun w : gS => R = w.2.1 ∧ AJ = w.2.2.2.2.1 ∧ AR = w.2.2.2.2.2 ∧ (mInv g gh R (w.1) (w.2.2.2.1)) ∧ ((w.2.2.2.1) (gh 50 0) = T) ∧ (qF mo I (w.1)) ∧ (((w.1) mo 20).toInt ≤ 936 ∧ (I mo 24).toInt ≤ ((w.1) mo 24).toInt) ∧ (((w.1) mo 24).toInt = 0 → ((w.1) mo 21).toInt = 4 → ((w.1) mo 23).toInt = 59 → rowOK ((w.2.2.2.1) (gh 53 0)) M) ∧ (((w.1) mo 24).toInt = 0 → tI ((w.2.2.2.1) (gh 53 0)) (40 * M) = 7) ∧ (mQ gh (w.1) (w.2.2.1) (w.2.2.2.1) AJ mo b nn nr nt cc (thn (f, h, 0) (fun t _ => sGrp b nn nr nt cc t)).1 (thn (f, h, 0) (fun t _ => sGrp b nn nr nt cc t)).2.1) ∧ (pIc (thn (f, h, 0) (fun t _ => sGrp b nn nr nt cc t)).1 (pK b nn (thn (f, h, 0) (fun t _ => sGrp b nn nr nt cc t)).2.1) (tI ((w.2.2.2.1) (gh 53 0)) (40 * (nr : Int) + 1)) (thn (f, h, 0) (fun t _ => sGrp b nn nr nt cc t)).2.2))) ([.ref mo] : List Value).toArray s 0 0 (gA g)) (F0 m 209 ls [.int (iI fo)]) := by
                                intro fo H locs ls zfo hfo hfo2 hH hS hl
                                refine lv_istore (lv' := [(5, .int (iI fo)), (4, .int (iI v_167)), (2, .int (iI (n + 1))), (3, .int (iI v_153)), (6, .int (iI v_143)), (1, .int (iI v_99)), (0, .ref mo)]) F.1 F.2.1 dX7_groupTold_209 hl (by decide) rfl (fun ls hl => ?_)
                                refine lv_iload F.1 F.2.1 dX7_groupTold_211 (lv_at hl 0 rfl) ?_
                                refine z_if_ge (tgt := 221) F dX7_groupTold_213 (by decide) zfo (fun c_176 => ?_) (fun c_176 => ?_)
                                · have yfo := pFo_y hfo2 (by omega)
                                  refine lv_aload_n F.1 F.2.1 dX7_groupTold_221 rfl (lv_at hl 6 rfl) ?_
                                  refine g_callv (g_runV (As := []) (rest := []) (ci := 7) F hl.1 hH hS hz (c_X7_nextf l g gh T b nn (tNd b nn (tPs b nn (hc + 1))) I_137 R J_139 AI_157 AJ AR mo hv hm hT (by omega) (mTp hv h65 hbM) hr7 (by omega) (by omega) (mQ_e0 hQ) tNd_le.1) (cwV 0 F.2.2.2.2.1 (good_up gT_X7_next) rfl rfl rfl hdX7_next ⟨Nat.le_of_ble_eq_true rfl, Nat.le_of_ble_eq_true rfl⟩) hm (by decide) rfl rfl rfl (Nat.le_of_ble_eq_true rfl) dX7_groupTold_222 ⟨Nat.zero_le _, Nat.zero_le _⟩) hS (fun I_177 R_178 J_179 AI_180 AJ_181 AR_182 H locs hp_183 hH hS => ?_)
                                  dsimp only at hp_183
                                  obtain ⟨rfl, rfl, rfl, rfl, hv, pfq, q_184, nx4, nxa, nxb⟩ := hp_183
                                  have pf := qF_t pf pfq
                                  have u_185_2 : (I_177 mo 2).toInt = (I mo 2).toInt := by rw [pf 2 (by decide) (by decide) (by decide) (by decide) (by decide)]
                                  have u_185_5 : (I_177 mo 5).toInt = (I mo 5).toInt := by rw [pf 5 (by decide) (by decide) (by decide) (by decide) (by decide)]
                                  have u_185_14 : (I_177 mo 14).toInt = (I mo 14).toInt := by rw [pf 14 (by decide) (by decide) (by decide) (by decide) (by decide)]
                                  have u_185_16 : (I_177 mo 16).toInt = (I mo 16).toInt := by rw [pf 16 (by decide) (by decide) (by decide) (by decide) (by decide)]
                                  have u_185_18 : (I_177 mo 18).toInt = (I mo 18).toInt := by rw [pf 18 (by decide) (by decide) (by decide) (by decide) (by decide)]
                                  have hQ : mQ gh I_177 J_179 AI_157 AJ mo b nn nr nt cc 0 (hc + 2) := mQ_nx hQ nx4 nxa
                                  clear nxa nxb
                                  refine lv_iload F.1 F.2.1 dX7_groupTold_225 (lv_at hl 0 rfl) ?_
                                  refine z_if_le (tgt := 242) F dX7_groupTold_227 (by decide) zfo (fun c_186 => ?_) (fun c_186 => ?_)
                                  · refine z_iconst F dX7_groupTold_242 ?_
                                    refine lv_istore (lv' := [(6, .int (iI 0)), (5, .int (iI fo)), (4, .int (iI v_167)), (2, .int (iI (n + 1))), (3, .int (iI v_153)), (1, .int (iI v_99)), (0, .ref mo)]) F.1 F.2.1 dX7_groupTold_243 hl (by decide) rfl (fun ls hl => ?_)
                                    refine lv_aload_n F.1 F.2.1 dX7_groupTold_245 rfl (lv_at hl 6 rfl) ?_
                                    refine lv_iload_n F.1 F.2.1 dX7_groupTold_246 rfl (lv_at hl 3 rfl) ?_
                                    refine lv_iload F.1 F.2.1 dX7_groupTold_247 (lv_at hl 0 rfl) ?_
                                    refine lv_iload F.1 F.2.1 dX7_groupTold_249 (lv_at hl 1 rfl) ?_
                                    refine z_iconst F dX7_groupTold_251 ?_
                                    refine z_iconst F dX7_groupTold_252 ?_
                                    have b_187 := mJ hv hm
                                    unfold mNum1 at b_187
                                    refine g_callv (g_runV (As := [.int (iI (n + 1)), .int (iI 0), .int (iI fo), .int (iI 0), .int (iI 0)]) (rest := []) (ci := 7) F hl.1 hH hS hz (c_X7_setsPart l g gh T M I_177 R J_179 AI_157 AJ AR mo (n + 1) 0 fo 0 0 ⟨by omega, by omega⟩ ⟨by decide, by decide⟩ zfo ⟨by decide, by decide⟩ ⟨by decide, by decide⟩ hv hm hT (by omega) (by omega) (by omega)) (cwV 5 F.2.2.2.2.1 (good_up gT_X7_setsPart) rfl rfl rfl hdX7_setsPart ⟨Nat.le_of_ble_eq_true rfl, Nat.le_of_ble_eq_true rfl⟩) hm (by decide) rfl rfl rfl (Nat.le_of_ble_eq_true rfl) dX7_groupTold_253 ⟨Nat.zero_le _, Nat.zero_le _⟩) hS (fun I_188 R_189 J_190 AI_191 AJ_192 AR_193 H locs hp_194 hH hS => ?_)
                                    dsimp only at hp_194
                                    obtain ⟨rfl, rfl, rfl, rfl, rfl, hv, hT, hsp⟩ := hp_194
                                    replace hsp := hid hsp
                                    have hQ : mQ gh I_177 J_179 AI_191 AJ mo b nn nr nt cc 0 (hc + 2) := mQ_a hQ (fun hf9 z9 h09 h19 => (hsp hf9).1 z9 h09 (Or.inl (by omega)))
                                    refine lv_aload_n F.1 F.2.1 dX7_groupTold_256 rfl (lv_at hl 6 rfl) ?_
                                    refine z_bipush F dX7_groupTold_257 (by decide) ?_
                                    refine lv_iload_n F.1 F.2.1 dX7_groupTold_259 rfl (lv_at hl 3 rfl) ?_
                                    refine z_iconst F dX7_groupTold_260 ?_
                                    refine z_iadd F dX7_groupTold_261 ?_
                                    refine lv_iload_n F.1 F.2.1 dX7_groupTold_262 rfl (lv_at hl 5 rfl) ?_
                                    refine z_iconst F dX7_groupTold_263 ?_
                                    refine lv_iload_n F.1 F.2.1 dX7_groupTold_264 rfl (lv_at hl 3 rfl) ?_
                                    refine g_callv (g_runV (As := [.int (iI 7), .int (iI ((n + 1) + 1)), .int (iI v_99), .int (iI ((-1))), .int (iI (n + 1))]) (rest := []) (ci := 7) F hl.1 hH hS hz (c_X7_header l g gh T M I_177 R J_179 AI_191 AJ AR mo 7 ((n + 1) + 1) v_99 (-1) (n + 1) ⟨by decide, by decide⟩ ⟨by omega, by omega⟩ zv_99 ⟨by decide, by decide⟩ ⟨by omega, by omega⟩ hv hm hT (by omega) (by omega)) (cwV 5 F.2.2.2.2.1 (good_up gT_X7_header) rfl rfl rfl hdX7_header ⟨Nat.le_of_ble_eq_true rfl, Nat.le_of_ble_eq_true rfl⟩) hm (by decide) rfl rfl rfl (Nat.le_of_ble_eq_true rfl) dX7_groupTold_265 ⟨Nat.zero_le _, Nat.zero_le _⟩) hS (fun I_195 R_196 J_197 AI_198 AJ_199 AR_200 H locs hp_201 hH hS => ?_)
                                    dsimp only at hp_201
                                    obtain ⟨rfl, rfl, rfl, rfl, rfl, hv, hT, hhd⟩ := hp_201
                                    replace hhd := hid hhd
                                    have hQ : mQ gh I_177 J_179 AI_198 AJ mo b nn nr nt cc 0 (hc + 2) := mQ_a hQ (fun hf9 z9 h09 h19 => (hhd hf9).1 z9 h09 (Or.inl (by omega)))
                                    have hfin : thn (f, h, 0) (fun t _ => sGrp b nn nr nt cc t) = (0, hc + 2, n + 1 + 1) := (thn_k q0).trans (by show sGrp b nn nr nt cc h = _; unfold sGrp; exact thn_t sr_101 rfl (thn_t sr_114 rfl (thn_t hS9 rfl (sFo_0 (by omega) (by omega)))))
                                    exact g_vret F hr hlk hH hS hz ⟨rfl, rfl, rfl, hv, hT, pf, by first | (dsimp only; omega) | omega | rfl, by (try dsimp only); intro hf ht hn; have q9 := hp (by omega); exact row_mk (by omega) (hhd (by omega)) (by omega) (by omega) (by omega) (by omega) (fun h => absurd h (by omega)) (fun h => absurd h (by omega)) (fun h => absurd h (by omega)) (fun h => absurd h (by omega)) (fun h => absurd h (by omega)) (fun _ => ⟨by omega, grpP_step (by omega) q9.2 (hsp (by omega)) (by omega)⟩) (fun h => absurd h (by omega)), by (try dsimp only); intro hf; exact (hhd (by omega)).2.1, by (try dsimp only); rw [hfin]; exact hQ, by (try dsimp only); rw [hfin]; have q9 := (hhd (mQ_0 hQ rfl)).2.2.1; rw [show M = (nr : Int) by omega] at q9; (try dsimp only); exact pIc_y (by omega)⟩ dX7_groupTold_268
                                  · refine lv_aload_n F.1 F.2.1 dX7_groupTold_230 rfl (lv_at hl 6 rfl) ?_
                                    refine lv_aload_n F.1 F.2.1 dX7_groupTold_231 rfl (lv_at hl 6 rfl) ?_
                                    refine lv_iload_n F.1 F.2.1 dX7_groupTold_232 rfl (lv_at hl 5 rfl) ?_
                                    have b_203 := mJ hv hm
                                    unfold mNum1 at b_203
                                    refine g_calli (g_runV (As := [.int (iI v_99)]) (rest := [.ref mo]) (ci := 7) F hl.1 hH hS hz (c_X7_columns l g gh T I_177 R J_179 AI_157 AJ AR mo v_99 zv_99 hv hm hT (by omega)) (cwV 1 F.2.2.2.2.1 (good_up gT_X7_columns) rfl rfl rfl hdX7_columns ⟨Nat.le_of_ble_eq_true rfl, Nat.le_of_ble_eq_true rfl⟩) hm (by decide) rfl rfl rfl (Nat.le_of_ble_eq_true rfl) dX7_groupTold_233 ⟨Nat.zero_le _, Nat.zero_le _⟩) hS (fun v_210 I_204 R_205 J_206 AI_207 AJ_208 AR_209 H locs zv_210 hp_211 hH hS => ?_)
                                    dsimp only at hp_211
                                    obtain ⟨rfl, rfl, rfl, rfl, rfl, rfl, q_202⟩ := hp_211
                                    have cvv_210 : v_210 = cF b nn nr nt cc h := q_202.trans ((mQ_c hQ rfl vlr_101.1 vlr_101.2.1).trans vlr_101.2.2)
                                    refine g_calli (g_runV (As := [.int (iI v_210)]) (rest := []) (ci := 7) F hl.1 hH hS hz (c_X7_columnf l g gh T b nn nr nt cc 0 (hc + 2) I_177 R J_179 AI_157 AJ AR mo v_210 zv_210 hv hm hT (by omega) h65 hbM hr7 (by omega) hn9 (by omega) hQ) (cwV 1 F.2.2.2.2.1 (good_up gT_X7_column) rfl rfl rfl hdX7_column ⟨Nat.le_of_ble_eq_true rfl, Nat.le_of_ble_eq_true rfl⟩) hm (by decide) rfl rfl rfl (Nat.le_of_ble_eq_true rfl) dX7_groupTold_236 ⟨Nat.zero_le _, Nat.zero_le _⟩) hS (fun v_218 I_212 R_213 J_214 AI_215 AJ_216 AR_217 H locs zv_218 hp_219 hH hS => ?_)
                                    dsimp only at hp_219
                                    rw [show v_210 = cF b nn nr nt cc h by omega] at hp_219
                                    obtain ⟨r_220, er_220⟩ : ∃ qQ : pR, qQ = thn (0, (hc + 2), 0) (fun t _ => sCol b nn (cF b nn nr nt cc h) t) := ⟨_, rfl⟩
                                    rw [← er_220] at hp_219
                                    obtain ⟨rfl, rfl, rfl, rfl, hv, pfq, q_221, q_222, hQ, q_223⟩ := hp_219
                                    have pf := qF_t pf pfq
                                    have u_224_2 : (I_212 mo 2).toInt = (I mo 2).toInt := by rw [pf 2 (by decide) (by decide) (by decide) (by decide) (by decide)]
                                    have u_224_5 : (I_212 mo 5).toInt = (I mo 5).toInt := by rw [pf 5 (by decide) (by decide) (by decide) (by decide) (by decide)]
                                    have u_224_14 : (I_212 mo 14).toInt = (I mo 14).toInt := by rw [pf 14 (by decide) (by decide) (by decide) (by decide) (by decide)]
                                    have u_224_16 : (I_212 mo 16).toInt = (I mo 16).toInt := by rw [pf 16 (by decide) (by decide) (by decide) (by decide) (by decide)]
                                    have u_224_18 : (I_212 mo 18).toInt = (I mo 18).toInt := by rw [pf 18 (by decide) (by decide) (by decide) (by decide) (by decide)]
                                    have er_220 : r_220 = sCol b nn (cF b nn nr nt cc h) (hc + 2) := er_220
                                    have sr_220 := er_220
                                    rcases sCol_c er_220 with ⟨er_220, pr_220⟩ | ⟨er_220, pr_220⟩
                                    · have hQ : mQ gh I_212 J_214 AI_157 AJ mo b nn nr nt cc 0 (hc + 3) := by rw [er_220] at hQ; exact hQ
                                      have sr_220 : sCol b nn (cF b nn nr nt cc h) (hc + 2) = (0, hc + 3, pV b nn (hc + 2)) := sr_220.symm.trans er_220
                                      have vlr_220 := q_223 (by rw [er_220])
                                      try rw [er_220] at vlr_220
                                      try dsimp only at vlr_220
                                      have kq_222 := q_222 (mQ_0 hQ rfl)
                                      replace q_222 := hid q_222
                                      refine z_goto (tgt := 243) F dX7_groupTold_239 (by decide) ?_
                                      refine lv_istore (lv' := [(6, .int (iI v_218)), (5, .int (iI fo)), (4, .int (iI v_167)), (2, .int (iI (n + 1))), (3, .int (iI v_153)), (1, .int (iI v_99)), (0, .ref mo)]) F.1 F.2.1 dX7_groupTold_243 hl (by decide) rfl (fun ls hl => ?_)
                                      refine lv_aload_n F.1 F.2.1 dX7_groupTold_245 rfl (lv_at hl 6 rfl) ?_
                                      refine lv_iload_n F.1 F.2.1 dX7_groupTold_246 rfl (lv_at hl 3 rfl) ?_
                                      refine lv_iload F.1 F.2.1 dX7_groupTold_247 (lv_at hl 0 rfl) ?_
                                      refine lv_iload F.1 F.2.1 dX7_groupTold_249 (lv_at hl 1 rfl) ?_
                                      refine z_iconst F dX7_groupTold_251 ?_
                                      refine z_iconst F dX7_groupTold_252 ?_
                                      have b_225 := mJ hv hm
                                      unfold mNum1 at b_225
                                      refine g_callv (g_runV (As := [.int (iI (n + 1)), .int (iI v_218), .int (iI fo), .int (iI 0), .int (iI 0)]) (rest := []) (ci := 7) F hl.1 hH hS hz (c_X7_setsPart l g gh T M I_212 R J_214 AI_157 AJ AR mo (n + 1) v_218 fo 0 0 ⟨by omega, by omega⟩ zv_218 zfo ⟨by decide, by decide⟩ ⟨by decide, by decide⟩ hv hm hT (by omega) (by omega) (by omega)) (cwV 5 F.2.2.2.2.1 (good_up gT_X7_setsPart) rfl rfl rfl hdX7_setsPart ⟨Nat.le_of_ble_eq_true rfl, Nat.le_of_ble_eq_true rfl⟩) hm (by decide) rfl rfl rfl (Nat.le_of_ble_eq_true rfl) dX7_groupTold_253 ⟨Nat.zero_le _, Nat.zero_le _⟩) hS (fun I_226 R_227 J_228 AI_229 AJ_230 AR_231 H locs hp_232 hH hS => ?_)
                                      dsimp only at hp_232
                                      obtain ⟨rfl, rfl, rfl, rfl, rfl, hv, hT, hsp⟩ := hp_232
                                      replace hsp := hid hsp
                                      have hQ : mQ gh I_212 J_214 AI_229 AJ mo b nn nr nt cc 0 (hc + 3) := mQ_a hQ (fun hf9 z9 h09 h19 => (hsp hf9).1 z9 h09 (Or.inl (by omega)))
                                      refine lv_aload_n F.1 F.2.1 dX7_groupTold_256 rfl (lv_at hl 6 rfl) ?_
                                      refine z_bipush F dX7_groupTold_257 (by decide) ?_
                                      refine lv_iload_n F.1 F.2.1 dX7_groupTold_259 rfl (lv_at hl 3 rfl) ?_
                                      refine z_iconst F dX7_groupTold_260 ?_
                                      refine z_iadd F dX7_groupTold_261 ?_
                                      refine lv_iload_n F.1 F.2.1 dX7_groupTold_262 rfl (lv_at hl 5 rfl) ?_
                                      refine z_iconst F dX7_groupTold_263 ?_
                                      refine lv_iload_n F.1 F.2.1 dX7_groupTold_264 rfl (lv_at hl 3 rfl) ?_
                                      refine g_callv (g_runV (As := [.int (iI 7), .int (iI ((n + 1) + 1)), .int (iI v_99), .int (iI ((-1))), .int (iI (n + 1))]) (rest := []) (ci := 7) F hl.1 hH hS hz (c_X7_header l g gh T M I_212 R J_214 AI_229 AJ AR mo 7 ((n + 1) + 1) v_99 (-1) (n + 1) ⟨by decide, by decide⟩ ⟨by omega, by omega⟩ zv_99 ⟨by decide, by decide⟩ ⟨by omega, by omega⟩ hv hm hT (by omega) (by omega)) (cwV 5 F.2.2.2.2.1 (good_up gT_X7_header) rfl rfl rfl hdX7_header ⟨Nat.le_of_ble_eq_true rfl, Nat.le_of_ble_eq_true rfl⟩) hm (by decide) rfl rfl rfl (Nat.le_of_ble_eq_true rfl) dX7_groupTold_265 ⟨Nat.zero_le _, Nat.zero_le _⟩) hS (fun I_233 R_234 J_235 AI_236 AJ_237 AR_238 H locs hp_239 hH hS => ?_)
                                      dsimp only at hp_239
                                      obtain ⟨rfl, rfl, rfl, rfl, rfl, hv, hT, hhd⟩ := hp_239
                                      replace hhd := hid hhd
                                      have hQ : mQ gh I_212 J_214 AI_236 AJ mo b nn nr nt cc 0 (hc + 3) := mQ_a hQ (fun hf9 z9 h09 h19 => (hhd hf9).1 z9 h09 (Or.inl (by omega)))
                                      have hfin : thn (f, h, 0) (fun t _ => sGrp b nn nr nt cc t) = (0, hc + 3, n + 1 + 1) := (thn_k q0).trans (by show sGrp b nn nr nt cc h = _; unfold sGrp; exact thn_t sr_101 rfl (thn_t sr_114 rfl (thn_t hS9 rfl (sFo_c (by omega) (by omega) pr_220.1))))
                                      exact g_vret F hr hlk hH hS hz ⟨rfl, rfl, rfl, hv, hT, pf, by first | (dsimp only; omega) | omega | rfl, by (try dsimp only); intro hf ht hn; have q9 := hp (by omega); exact row_mk (by omega) (hhd (by omega)) (by omega) (by omega) (by omega) (by omega) (fun h => absurd h (by omega)) (fun h => absurd h (by omega)) (fun h => absurd h (by omega)) (fun h => absurd h (by omega)) (fun h => absurd h (by omega)) (fun _ => ⟨by omega, grpP_step (by omega) q9.2 (hsp (by omega)) (by omega)⟩) (fun h => absurd h (by omega)), by (try dsimp only); intro hf; exact (hhd (by omega)).2.1, by (try dsimp only); rw [hfin]; exact hQ, by (try dsimp only); rw [hfin]; have q9 := (hhd (mQ_0 hQ rfl)).2.2.1; rw [show M = (nr : Int) by omega] at q9; (try dsimp only); exact pIc_y (by omega)⟩ dX7_groupTold_268
                                    · have hQ : mQ gh I_212 J_214 AI_157 AJ mo b nn nr nt cc (pCf b nn (cF b nn nr nt cc h) (hc + 2)) (hc + 2) := by rw [er_220] at hQ; exact hQ
                                      have sr_220 := sr_220.symm.trans er_220
                                      have g9r_220 := mQ_f hQ (by omega)
                                      replace q_222 := hid q_222
                                      refine z_goto (tgt := 243) F dX7_groupTold_239 (by decide) ?_
                                      refine lv_istore (lv' := [(6, .int (iI v_218)), (5, .int (iI fo)), (4, .int (iI v_167)), (2, .int (iI (n + 1))), (3, .int (iI v_153)), (1, .int (iI v_99)), (0, .ref mo)]) F.1 F.2.1 dX7_groupTold_243 hl (by decide) rfl (fun ls hl => ?_)
                                      refine lv_aload_n F.1 F.2.1 dX7_groupTold_245 rfl (lv_at hl 6 rfl) ?_
                                      refine lv_iload_n F.1 F.2.1 dX7_groupTold_246 rfl (lv_at hl 3 rfl) ?_
                                      refine lv_iload F.1 F.2.1 dX7_groupTold_247 (lv_at hl 0 rfl) ?_
                                      refine lv_iload F.1 F.2.1 dX7_groupTold_249 (lv_at hl 1 rfl) ?_
                                      refine z_iconst F dX7_groupTold_251 ?_
                                      refine z_iconst F dX7_groupTold_252 ?_
                                      have b_240 := mJ hv hm
                                      unfold mNum1 at b_240
                                      refine g_callv (g_runV (As := [.int (iI (n + 1)), .int (iI v_218), .int (iI fo), .int (iI 0), .int (iI 0)]) (rest := []) (ci := 7) F hl.1 hH hS hz (c_X7_setsPart l g gh T M I_212 R J_214 AI_157 AJ AR mo (n + 1) v_218 fo 0 0 ⟨by omega, by omega⟩ zv_218 zfo ⟨by decide, by decide⟩ ⟨by decide, by decide⟩ hv hm hT (by omega) (by omega) (by omega)) (cwV 5 F.2.2.2.2.1 (good_up gT_X7_setsPart) rfl rfl rfl hdX7_setsPart ⟨Nat.le_of_ble_eq_true rfl, Nat.le_of_ble_eq_true rfl⟩) hm (by decide) rfl rfl rfl (Nat.le_of_ble_eq_true rfl) dX7_groupTold_253 ⟨Nat.zero_le _, Nat.zero_le _⟩) hS (fun I_241 R_242 J_243 AI_244 AJ_245 AR_246 H locs hp_247 hH hS => ?_)
                                      dsimp only at hp_247
                                      obtain ⟨rfl, rfl, rfl, rfl, rfl, hv, hT, hsp⟩ := hp_247
                                      replace hsp := hid hsp
                                      have hQ : mQ gh I_212 J_214 AI_244 AJ mo b nn nr nt cc (pCf b nn (cF b nn nr nt cc h) (hc + 2)) (hc + 2) := mQ_bad hQ (by omega) rfl
                                      refine lv_aload_n F.1 F.2.1 dX7_groupTold_256 rfl (lv_at hl 6 rfl) ?_
                                      refine z_bipush F dX7_groupTold_257 (by decide) ?_
                                      refine lv_iload_n F.1 F.2.1 dX7_groupTold_259 rfl (lv_at hl 3 rfl) ?_
                                      refine z_iconst F dX7_groupTold_260 ?_
                                      refine z_iadd F dX7_groupTold_261 ?_
                                      refine lv_iload_n F.1 F.2.1 dX7_groupTold_262 rfl (lv_at hl 5 rfl) ?_
                                      refine z_iconst F dX7_groupTold_263 ?_
                                      refine lv_iload_n F.1 F.2.1 dX7_groupTold_264 rfl (lv_at hl 3 rfl) ?_
                                      refine g_callv (g_runV (As := [.int (iI 7), .int (iI ((n + 1) + 1)), .int (iI v_99), .int (iI ((-1))), .int (iI (n + 1))]) (rest := []) (ci := 7) F hl.1 hH hS hz (c_X7_header l g gh T M I_212 R J_214 AI_244 AJ AR mo 7 ((n + 1) + 1) v_99 (-1) (n + 1) ⟨by decide, by decide⟩ ⟨by omega, by omega⟩ zv_99 ⟨by decide, by decide⟩ ⟨by omega, by omega⟩ hv hm hT (by omega) (by omega)) (cwV 5 F.2.2.2.2.1 (good_up gT_X7_header) rfl rfl rfl hdX7_header ⟨Nat.le_of_ble_eq_true rfl, Nat.le_of_ble_eq_true rfl⟩) hm (by decide) rfl rfl rfl (Nat.le_of_ble_eq_true rfl) dX7_groupTold_265 ⟨Nat.zero_le _, Nat.zero_le _⟩) hS (fun I_248 R_249 J_250 AI_251 AJ_252 AR_253 H locs hp_254 hH hS => ?_)
                                      dsimp only at hp_254
                                      obtain ⟨rfl, rfl, rfl, rfl, rfl, hv, hT, hhd⟩ := hp_254
                                      replace hhd := hid hhd
                                      have hQ : mQ gh I_212 J_214 AI_251 AJ mo b nn nr nt cc (pCf b nn (cF b nn nr nt cc h) (hc + 2)) (hc + 2) := mQ_bad hQ (by omega) rfl
                                      have hfin : thn (f, h, 0) (fun t _ => sGrp b nn nr nt cc t) = (pCf b nn (cF b nn nr nt cc h) (hc + 2), hc + 2, 0) := (thn_k q0).trans (by show sGrp b nn nr nt cc h = _; unfold sGrp; exact thn_t sr_101 rfl (thn_t sr_114 rfl (thn_t hS9 rfl (sFo_v (by omega) (by omega) pr_220.1))))
                                      exact g_vret F hr hlk hH hS hz ⟨rfl, rfl, rfl, hv, hT, pf, by first | (dsimp only; omega) | omega | rfl, by (try dsimp only); exact (fun hf => absurd hf (by omega)), by (try dsimp only); exact (fun hf => absurd hf (by omega)), by (try dsimp only); rw [hfin]; exact hQ, by (try dsimp only); rw [hfin]; exact pIc_n (by omega)⟩ dX7_groupTold_268
                                · have nfo := pFo_n hfo2 (by omega)
                                  refine lv_aload_n F.1 F.2.1 dX7_groupTold_216 rfl (lv_at hl 6 rfl) ?_
                                  refine z_iconst F dX7_groupTold_217 ?_
                                  refine g_callv (g_runV (As := [.int (iI 1)]) (rest := []) (ci := 7) F hl.1 hH hS hz (c_X7_wrongf l g gh T b nn nr nt cc 0 (hc + 1) I_137 R J_139 AI_157 AJ AR mo 1 ⟨by decide, by decide⟩ hv hm hT (by omega) h65 hbM hr7 (by omega) hn9 (by omega) hQ) (cwV 1 F.2.2.2.2.1 (good_up gT_X7_wrong) rfl rfl rfl hdX7_wrong ⟨Nat.le_of_ble_eq_true rfl, Nat.le_of_ble_eq_true rfl⟩) hm (by decide) rfl rfl rfl (Nat.le_of_ble_eq_true rfl) dX7_groupTold_218 ⟨Nat.zero_le _, Nat.zero_le _⟩) hS (fun I_255 R_256 J_257 AI_258 AJ_259 AR_260 H locs hp_261 hH hS => ?_)
                                  dsimp only at hp_261
                                  obtain ⟨r_262, er_262⟩ : ∃ qQ : pR, qQ = thn (0, (hc + 1), 0) (fun t _ => (1, t, 0)) := ⟨_, rfl⟩
                                  rw [← er_262] at hp_261
                                  obtain ⟨rfl, rfl, rfl, rfl, rfl, hv, pfq, q_263, hQ⟩ := hp_261
                                  have pf := qF_t pf pfq
                                  have u_264_2 : (I_255 mo 2).toInt = (I mo 2).toInt := by rw [pf 2 (by decide) (by decide) (by decide) (by decide) (by decide)]
                                  have u_264_5 : (I_255 mo 5).toInt = (I mo 5).toInt := by rw [pf 5 (by decide) (by decide) (by decide) (by decide) (by decide)]
                                  have u_264_14 : (I_255 mo 14).toInt = (I mo 14).toInt := by rw [pf 14 (by decide) (by decide) (by decide) (by decide) (by decide)]
                                  have u_264_16 : (I_255 mo 16).toInt = (I mo 16).toInt := by rw [pf 16 (by decide) (by decide) (by decide) (by decide) (by decide)]
                                  have u_264_18 : (I_255 mo 18).toInt = (I mo 18).toInt := by rw [pf 18 (by decide) (by decide) (by decide) (by decide) (by decide)]
                                  have er_262 : r_262 = (1, (hc + 1), 0) := er_262
                                  have hQ : mQ gh I_255 J_139 AI_157 AJ mo b nn nr nt cc 1 (hc + 1) := by rw [er_262] at hQ; exact hQ
                                  have q9_r_262 : (1 : Int) ≠ 0 := by omega
                                  have g9_r_262 := mQ_f hQ q9_r_262
                                  refine lv_aload_n F.1 F.2.1 dX7_groupTold_221 rfl (lv_at hl 6 rfl) ?_
                                  have b_265 := mJ hv hm
                                  unfold mNum1 at b_265
                                  refine g_callv (g_runV (As := []) (rest := []) (ci := 7) F hl.1 hH hS hz (c_X7_nextf l g gh T b nn (tNd b nn (tPs b nn (hc + 1))) I_255 R J_139 AI_157 AJ AR mo hv hm hT (by omega) (mTp hv h65 hbM) hr7 (by omega) (by omega) (mQ_e0 hQ) tNd_le.1) (cwV 0 F.2.2.2.2.1 (good_up gT_X7_next) rfl rfl rfl hdX7_next ⟨Nat.le_of_ble_eq_true rfl, Nat.le_of_ble_eq_true rfl⟩) hm (by decide) rfl rfl rfl (Nat.le_of_ble_eq_true rfl) dX7_groupTold_222 ⟨Nat.zero_le _, Nat.zero_le _⟩) hS (fun I_266 R_267 J_268 AI_269 AJ_270 AR_271 H locs hp_272 hH hS => ?_)
                                  dsimp only at hp_272
                                  obtain ⟨rfl, rfl, rfl, rfl, hv, pfq, q_273, nx4, nxa, nxb⟩ := hp_272
                                  have pf := qF_t pf pfq
                                  have u_274_2 : (I_266 mo 2).toInt = (I mo 2).toInt := by rw [pf 2 (by decide) (by decide) (by decide) (by decide) (by decide)]
                                  have u_274_5 : (I_266 mo 5).toInt = (I mo 5).toInt := by rw [pf 5 (by decide) (by decide) (by decide) (by decide) (by decide)]
                                  have u_274_14 : (I_266 mo 14).toInt = (I mo 14).toInt := by rw [pf 14 (by decide) (by decide) (by decide) (by decide) (by decide)]
                                  have u_274_16 : (I_266 mo 16).toInt = (I mo 16).toInt := by rw [pf 16 (by decide) (by decide) (by decide) (by decide) (by decide)]
                                  have u_274_18 : (I_266 mo 18).toInt = (I mo 18).toInt := by rw [pf 18 (by decide) (by decide) (by decide) (by decide) (by decide)]
                                  have hQ : mQ gh I_266 J_268 AI_157 AJ mo b nn nr nt cc 1 (hc + 1) := by have q9 := mQ_nx hQ nx4 nxa; rw [thn_b (by omega)] at q9; exact q9
                                  clear nxa nxb
                                  refine lv_iload F.1 F.2.1 dX7_groupTold_225 (lv_at hl 0 rfl) ?_
                                  refine z_if_le (tgt := 242) F dX7_groupTold_227 (by decide) zfo (fun c_275 => ?_) (fun c_275 => ?_)
                                  · have nfo := pFo_n hfo2 (by omega)
                                    refine z_iconst F dX7_groupTold_242 ?_
                                    refine lv_istore (lv' := [(6, .int (iI 0)), (5, .int (iI fo)), (4, .int (iI v_167)), (2, .int (iI (n + 1))), (3, .int (iI v_153)), (1, .int (iI v_99)), (0, .ref mo)]) F.1 F.2.1 dX7_groupTold_243 hl (by decide) rfl (fun ls hl => ?_)
                                    refine lv_aload_n F.1 F.2.1 dX7_groupTold_245 rfl (lv_at hl 6 rfl) ?_
                                    refine lv_iload_n F.1 F.2.1 dX7_groupTold_246 rfl (lv_at hl 3 rfl) ?_
                                    refine lv_iload F.1 F.2.1 dX7_groupTold_247 (lv_at hl 0 rfl) ?_
                                    refine lv_iload F.1 F.2.1 dX7_groupTold_249 (lv_at hl 1 rfl) ?_
                                    refine z_iconst F dX7_groupTold_251 ?_
                                    refine z_iconst F dX7_groupTold_252 ?_
                                    have b_276 := mJ hv hm
                                    unfold mNum1 at b_276
                                    refine g_callv (g_runV (As := [.int (iI (n + 1)), .int (iI 0), .int (iI fo), .int (iI 0), .int (iI 0)]) (rest := []) (ci := 7) F hl.1 hH hS hz (c_X7_setsPart l g gh T M I_266 R J_268 AI_157 AJ AR mo (n + 1) 0 fo 0 0 ⟨by omega, by omega⟩ ⟨by decide, by decide⟩ zfo ⟨by decide, by decide⟩ ⟨by decide, by decide⟩ hv hm hT (by omega) (by omega) (by omega)) (cwV 5 F.2.2.2.2.1 (good_up gT_X7_setsPart) rfl rfl rfl hdX7_setsPart ⟨Nat.le_of_ble_eq_true rfl, Nat.le_of_ble_eq_true rfl⟩) hm (by decide) rfl rfl rfl (Nat.le_of_ble_eq_true rfl) dX7_groupTold_253 ⟨Nat.zero_le _, Nat.zero_le _⟩) hS (fun I_277 R_278 J_279 AI_280 AJ_281 AR_282 H locs hp_283 hH hS => ?_)
                                    dsimp only at hp_283
                                    obtain ⟨rfl, rfl, rfl, rfl, rfl, hv, hT, hsp⟩ := hp_283
                                    replace hsp := hid hsp
                                    have hQ : mQ gh I_266 J_268 AI_280 AJ mo b nn nr nt cc 1 (hc + 1) := mQ_bad hQ (by omega) rfl
                                    refine lv_aload_n F.1 F.2.1 dX7_groupTold_256 rfl (lv_at hl 6 rfl) ?_
                                    refine z_bipush F dX7_groupTold_257 (by decide) ?_
                                    refine lv_iload_n F.1 F.2.1 dX7_groupTold_259 rfl (lv_at hl 3 rfl) ?_
                                    refine z_iconst F dX7_groupTold_260 ?_
                                    refine z_iadd F dX7_groupTold_261 ?_
                                    refine lv_iload_n F.1 F.2.1 dX7_groupTold_262 rfl (lv_at hl 5 rfl) ?_
                                    refine z_iconst F dX7_groupTold_263 ?_
                                    refine lv_iload_n F.1 F.2.1 dX7_groupTold_264 rfl (lv_at hl 3 rfl) ?_
                                    refine g_callv (g_runV (As := [.int (iI 7), .int (iI ((n + 1) + 1)), .int (iI v_99), .int (iI ((-1))), .int (iI (n + 1))]) (rest := []) (ci := 7) F hl.1 hH hS hz (c_X7_header l g gh T M I_266 R J_268 AI_280 AJ AR mo 7 ((n + 1) + 1) v_99 (-1) (n + 1) ⟨by decide, by decide⟩ ⟨by omega, by omega⟩ zv_99 ⟨by decide, by decide⟩ ⟨by omega, by omega⟩ hv hm hT (by omega) (by omega)) (cwV 5 F.2.2.2.2.1 (good_up gT_X7_header) rfl rfl rfl hdX7_header ⟨Nat.le_of_ble_eq_true rfl, Nat.le_of_ble_eq_true rfl⟩) hm (by decide) rfl rfl rfl (Nat.le_of_ble_eq_true rfl) dX7_groupTold_265 ⟨Nat.zero_le _, Nat.zero_le _⟩) hS (fun I_284 R_285 J_286 AI_287 AJ_288 AR_289 H locs hp_290 hH hS => ?_)
                                    dsimp only at hp_290
                                    obtain ⟨rfl, rfl, rfl, rfl, rfl, hv, hT, hhd⟩ := hp_290
                                    replace hhd := hid hhd
                                    have hQ : mQ gh I_266 J_268 AI_287 AJ mo b nn nr nt cc 1 (hc + 1) := mQ_bad hQ (by omega) rfl
                                    have hfin : thn (f, h, 0) (fun t _ => sGrp b nn nr nt cc t) = (1, hc + 1, 0) := (thn_k q0).trans (by show sGrp b nn nr nt cc h = _; unfold sGrp; exact thn_t sr_101 rfl (thn_t sr_114 rfl (thn_t hS9 rfl (sFo_n nfo))))
                                    exact g_vret F hr hlk hH hS hz ⟨rfl, rfl, rfl, hv, hT, pf, by first | (dsimp only; omega) | omega | rfl, by (try dsimp only); exact (fun hf => absurd hf (by omega)), by (try dsimp only); exact (fun hf => absurd hf (by omega)), by (try dsimp only); rw [hfin]; exact hQ, by (try dsimp only); rw [hfin]; exact pIc_n (by omega)⟩ dX7_groupTold_268
                                  · exact absurd trivial (by omega)
                              refine lv_aload_n F.1 F.2.1 dX7_groupTold_156 rfl (lv_at hl 6 rfl) ?_
                              refine va_ldcS F.1 F.2.1 F.2.2.2.1 (F.2.2.2.2.2.2.1 20 _ rfl).1 dX7_groupTold_157 ?_
                              refine g_calli (g_runV (As := [.ref (gSK g 20)]) (rest := []) (ci := 7) F hl.1 hH hS hz (c_X7_isWordf l g gh T 20 _ 16 b nn nr nt cc 0 (hc + 1) I_137 R J_139 AI_157 AJ AR mo hv hm hT (rfl : sTab[20]? = some _) (by decide) (by decide +kernel) h65 hbM hr7 (by omega) hn9 (by omega) hQ) (cwV 1 F.2.2.2.2.1 (good_up gT_X7_isWord) rfl rfl rfl hdX7_isWord ⟨Nat.le_of_ble_eq_true rfl, Nat.le_of_ble_eq_true rfl⟩) hm (by decide) rfl rfl rfl (Nat.le_of_ble_eq_true rfl) dX7_groupTold_159 ⟨Nat.zero_le _, Nat.zero_le _⟩) hS (fun v_297 I_291 R_292 J_293 AI_294 AJ_295 AR_296 H locs zv_297 hp_298 hH hS => ?_)
                              dsimp only at hp_298
                              obtain ⟨rfl, rfl, rfl, rfl, rfl, rfl, q_299, q_300⟩ := hp_298
                              refine z_if_eq (tgt := 169) F dX7_groupTold_162 (by decide) zv_297 (fun c_301 => ?_) (fun c_301 => ?_)
                              · have t_302 := tIz_n q_300 (by omega)
                                refine lv_aload_n F.1 F.2.1 dX7_groupTold_169 rfl (lv_at hl 6 rfl) ?_
                                refine va_ldcS F.1 F.2.1 F.2.2.2.1 (F.2.2.2.2.2.2.1 21 _ rfl).1 dX7_groupTold_170 ?_
                                refine g_calli (g_runV (As := [.ref (gSK g 21)]) (rest := []) (ci := 7) F hl.1 hH hS hz (c_X7_isWordf l g gh T 21 _ 17 b nn nr nt cc 0 (hc + 1) I_137 R J_139 AI_157 AJ AR mo hv hm hT (rfl : sTab[21]? = some _) (by decide) (by decide +kernel) h65 hbM hr7 (by omega) hn9 (by omega) hQ) (cwV 1 F.2.2.2.2.1 (good_up gT_X7_isWord) rfl rfl rfl hdX7_isWord ⟨Nat.le_of_ble_eq_true rfl, Nat.le_of_ble_eq_true rfl⟩) hm (by decide) rfl rfl rfl (Nat.le_of_ble_eq_true rfl) dX7_groupTold_172 ⟨Nat.zero_le _, Nat.zero_le _⟩) hS (fun v_309 I_303 R_304 J_305 AI_306 AJ_307 AR_308 H locs zv_309 hp_310 hH hS => ?_)
                                dsimp only at hp_310
                                obtain ⟨rfl, rfl, rfl, rfl, rfl, rfl, q_311, q_312⟩ := hp_310
                                refine z_if_eq (tgt := 182) F dX7_groupTold_175 (by decide) zv_309 (fun c_313 => ?_) (fun c_313 => ?_)
                                · have t_314 := tIz_n q_312 (by omega)
                                  refine lv_aload_n F.1 F.2.1 dX7_groupTold_182 rfl (lv_at hl 6 rfl) ?_
                                  refine va_ldcS F.1 F.2.1 F.2.2.2.1 (F.2.2.2.2.2.2.1 22 _ rfl).1 dX7_groupTold_183 ?_
                                  refine g_calli (g_runV (As := [.ref (gSK g 22)]) (rest := []) (ci := 7) F hl.1 hH hS hz (c_X7_isWordf l g gh T 22 _ 18 b nn nr nt cc 0 (hc + 1) I_137 R J_139 AI_157 AJ AR mo hv hm hT (rfl : sTab[22]? = some _) (by decide) (by decide +kernel) h65 hbM hr7 (by omega) hn9 (by omega) hQ) (cwV 1 F.2.2.2.2.1 (good_up gT_X7_isWord) rfl rfl rfl hdX7_isWord ⟨Nat.le_of_ble_eq_true rfl, Nat.le_of_ble_eq_true rfl⟩) hm (by decide) rfl rfl rfl (Nat.le_of_ble_eq_true rfl) dX7_groupTold_185 ⟨Nat.zero_le _, Nat.zero_le _⟩) hS (fun v_321 I_315 R_316 J_317 AI_318 AJ_319 AR_320 H locs zv_321 hp_322 hH hS => ?_)
                                  dsimp only at hp_322
                                  obtain ⟨rfl, rfl, rfl, rfl, rfl, rfl, q_323, q_324⟩ := hp_322
                                  refine z_if_eq (tgt := 195) F dX7_groupTold_188 (by decide) zv_321 (fun c_325 => ?_) (fun c_325 => ?_)
                                  · have t_326 := tIz_n q_324 (by omega)
                                    refine lv_aload_n F.1 F.2.1 dX7_groupTold_195 rfl (lv_at hl 6 rfl) ?_
                                    refine va_ldcS F.1 F.2.1 F.2.2.2.1 (F.2.2.2.2.2.2.1 23 _ rfl).1 dX7_groupTold_196 ?_
                                    refine g_calli (g_runV (As := [.ref (gSK g 23)]) (rest := []) (ci := 7) F hl.1 hH hS hz (c_X7_isWordf l g gh T 23 _ 19 b nn nr nt cc 0 (hc + 1) I_137 R J_139 AI_157 AJ AR mo hv hm hT (rfl : sTab[23]? = some _) (by decide) (by decide +kernel) h65 hbM hr7 (by omega) hn9 (by omega) hQ) (cwV 1 F.2.2.2.2.1 (good_up gT_X7_isWord) rfl rfl rfl hdX7_isWord ⟨Nat.le_of_ble_eq_true rfl, Nat.le_of_ble_eq_true rfl⟩) hm (by decide) rfl rfl rfl (Nat.le_of_ble_eq_true rfl) dX7_groupTold_198 ⟨Nat.zero_le _, Nat.zero_le _⟩) hS (fun v_333 I_327 R_328 J_329 AI_330 AJ_331 AR_332 H locs zv_333 hp_334 hH hS => ?_)
                                    dsimp only at hp_334
                                    obtain ⟨rfl, rfl, rfl, rfl, rfl, rfl, q_335, q_336⟩ := hp_334
                                    refine z_if_eq (tgt := 208) F dX7_groupTold_201 (by decide) zv_333 (fun c_337 => ?_) (fun c_337 => ?_)
                                    · have t_338 := tIz_n q_336 (by omega)
                                      refine z_iconst F dX7_groupTold_208 ?_
                                      exact cut_209_174 (-1) H locs ls ⟨by decide, by decide⟩ (by omega) (by first | exact Or.inr ⟨by decide, by omega, by omega, by decide⟩ | exact Or.inl ⟨rfl, by omega⟩) hH hS (lv_sub hl [0, 1, 2, 3, 4, 5, 6] rfl)
                                    · have t_339 := tIz_y q_336 (by omega)
                                      refine z_iconst F dX7_groupTold_204 ?_
                                      refine z_goto (tgt := 209) F dX7_groupTold_205 (by decide) ?_
                                      exact cut_209_174 3 H locs ls ⟨by decide, by decide⟩ (by omega) (by first | exact Or.inr ⟨by decide, by omega, by omega, by decide⟩ | exact Or.inl ⟨rfl, by omega⟩) hH hS (lv_sub hl [0, 1, 2, 3, 4, 5, 6] rfl)
                                  · have t_340 := tIz_y q_324 (by omega)
                                    refine z_iconst F dX7_groupTold_191 ?_
                                    refine z_goto (tgt := 209) F dX7_groupTold_192 (by decide) ?_
                                    exact cut_209_174 2 H locs ls ⟨by decide, by decide⟩ (by omega) (by first | exact Or.inr ⟨by decide, by omega, by omega, by decide⟩ | exact Or.inl ⟨rfl, by omega⟩) hH hS (lv_sub hl [0, 1, 2, 3, 4, 5, 6] rfl)
                                · have t_341 := tIz_y q_312 (by omega)
                                  refine z_iconst F dX7_groupTold_178 ?_
                                  refine z_goto (tgt := 209) F dX7_groupTold_179 (by decide) ?_
                                  exact cut_209_174 1 H locs ls ⟨by decide, by decide⟩ (by omega) (by first | exact Or.inr ⟨by decide, by omega, by omega, by decide⟩ | exact Or.inl ⟨rfl, by omega⟩) hH hS (lv_sub hl [0, 1, 2, 3, 4, 5, 6] rfl)
                              · have t_342 := tIz_y q_300 (by omega)
                                refine z_iconst F dX7_groupTold_165 ?_
                                refine z_goto (tgt := 209) F dX7_groupTold_166 (by decide) ?_
                                exact cut_209_174 0 H locs ls ⟨by decide, by decide⟩ (by omega) (by first | exact Or.inr ⟨by decide, by omega, by omega, by decide⟩ | exact Or.inl ⟨rfl, by omega⟩) hH hS (lv_sub hl [0, 1, 2, 3, 4, 5, 6] rfl)
                            · exact absurd trivial (by omega)
                          · have t_343 := tIz_y q_170 (by omega)
                            refine lv_aload_n F.1 F.2.1 dX7_groupTold_149 rfl (lv_at hl 6 rfl) ?_
                            refine g_callv (g_runV (As := []) (rest := []) (ci := 7) F hl.1 hH hS hz (c_X7_nextf l g gh T b nn (tNd b nn (tPs b nn (hc + 1))) I_137 R J_139 AI_157 AJ AR mo hv hm hT (by omega) (mTp hv h65 hbM) hr7 (by omega) (by omega) (mQ_e0 hQ) tNd_le.1) (cwV 0 F.2.2.2.2.1 (good_up gT_X7_next) rfl rfl rfl hdX7_next ⟨Nat.le_of_ble_eq_true rfl, Nat.le_of_ble_eq_true rfl⟩) hm (by decide) rfl rfl rfl (Nat.le_of_ble_eq_true rfl) dX7_groupTold_150 ⟨Nat.zero_le _, Nat.zero_le _⟩) hS (fun I_344 R_345 J_346 AI_347 AJ_348 AR_349 H locs hp_350 hH hS => ?_)
                            dsimp only at hp_350
                            obtain ⟨rfl, rfl, rfl, rfl, hv, pfq, q_351, nx4, nxa, nxb⟩ := hp_350
                            have pf := qF_t pf pfq
                            have u_352_2 : (I_344 mo 2).toInt = (I mo 2).toInt := by rw [pf 2 (by decide) (by decide) (by decide) (by decide) (by decide)]
                            have u_352_5 : (I_344 mo 5).toInt = (I mo 5).toInt := by rw [pf 5 (by decide) (by decide) (by decide) (by decide) (by decide)]
                            have u_352_14 : (I_344 mo 14).toInt = (I mo 14).toInt := by rw [pf 14 (by decide) (by decide) (by decide) (by decide) (by decide)]
                            have u_352_16 : (I_344 mo 16).toInt = (I mo 16).toInt := by rw [pf 16 (by decide) (by decide) (by decide) (by decide) (by decide)]
                            have u_352_18 : (I_344 mo 18).toInt = (I mo 18).toInt := by rw [pf 18 (by decide) (by decide) (by decide) (by decide) (by decide)]
                            have hQ : mQ gh I_344 J_346 AI_157 AJ mo b nn nr nt cc 0 (hc + 2) := mQ_nx hQ nx4 nxa
                            clear nxa nxb
                            have hTs : sBy b nn (cF b nn nr nt cc h) n L hc = (0, hc + 1, pV b nn hc) := absurd pr_145.2.1 (by omega)
                            have hsq := sBys_go hsq (f := (3 - n).toNat) (by omega) hTs.symm rfl (by omega)
                            refine z_goto (tgt := 18) F dX7_groupTold_153 (by decide) ?_
                            exact ih18 (n + 1) v_153 v_167 I_344 J_346 AI_157 H locs ls ⟨by omega, by omega⟩ zv_153 zv_167 hv hT pf (by omega) ((fun hf => ⟨by omega, grpP_step (by omega) (hp (by omega)).2 (hsp (by omega)) (by omega)⟩)) ⟨_, _, hQ, by rw [show (4 - (n + 1)).toNat = (3 - n).toNat by omega]; exact hsq, hcn⟩ (by omega) (by omega) hH hS (lv_sub hl [0, 2, 1, 5, 6] rfl)
                      · have hQ : mQ gh I_137 J_139 AI_119 AJ mo b nn nr nt cc (pCf b nn (cF b nn nr nt cc h) hc) hc := by rw [er_145] at hQ; exact hQ
                        have sr_145 := sr_145.symm.trans er_145
                        have g9r_145 := mQ_f hQ (by omega)
                        replace q_147 := hid q_147
                        obtain ⟨f1, ef1⟩ : ∃ q, q = (I_137 mo 24).toInt := ⟨_, rfl⟩
                        have hc1 : Hid (f1 = 0 → 0 ≤ v_143 ∧ v_143 ≤ 3) := fun h9 => by omega
                        refine lv_istore (lv' := [(6, .int (iI v_143)), (5, .int (iI 0)), (4, .int (iI mr)), (3, .int (iI had)), (2, .int (iI n)), (1, .int (iI v_99)), (0, .ref mo)]) F.1 F.2.1 dX7_groupTold_107 hl (by decide) rfl (fun ls hl => ?_)
                        refine lv_aload_n F.1 F.2.1 dX7_groupTold_109 rfl (lv_at hl 6 rfl) ?_
                        refine g_getI (ci := 7) (k := 24) F hH rfl (by decide) iX7 hm (by decide) rfl k81 dX7_groupTold_110 ?_
                        have b_353 := mJ hv hm
                        unfold mNum1 at b_353
                        refine z_if_ne (tgt := 123) F dX7_groupTold_113 (by decide) (zr_t _) (fun c_354 => ?_) (fun c_354 => ?_)
                        · refine lv_aload_n F.1 F.2.1 dX7_groupTold_123 rfl (lv_at hl 6 rfl) ?_
                          refine lv_iload_n F.1 F.2.1 dX7_groupTold_124 rfl (lv_at hl 4 rfl) ?_
                          refine lv_iload F.1 F.2.1 dX7_groupTold_125 (lv_at hl 0 rfl) ?_
                          refine z_iconst F dX7_groupTold_127 ?_
                          refine z_iconst F dX7_groupTold_128 ?_
                          refine z_iconst F dX7_groupTold_129 ?_
                          refine g_callv (g_runV (As := [.int (iI n), .int (iI v_143), .int (iI 0), .int (iI 0), .int (iI 0)]) (rest := []) (ci := 7) F hl.1 hH hS hz (c_X7_setsPart l g gh T M I_137 R J_139 AI_119 AJ AR mo n v_143 0 0 0 zn zv_143 ⟨by decide, by decide⟩ ⟨by decide, by decide⟩ ⟨by decide, by decide⟩ hv hm hT (by omega) (by omega) (by omega)) (cwV 5 F.2.2.2.2.1 (good_up gT_X7_setsPart) rfl rfl rfl hdX7_setsPart ⟨Nat.le_of_ble_eq_true rfl, Nat.le_of_ble_eq_true rfl⟩) hm (by decide) rfl rfl rfl (Nat.le_of_ble_eq_true rfl) dX7_groupTold_130 ⟨Nat.zero_le _, Nat.zero_le _⟩) hS (fun I_355 R_356 J_357 AI_358 AJ_359 AR_360 H locs hp_361 hH hS => ?_)
                          dsimp only at hp_361
                          obtain ⟨rfl, rfl, rfl, rfl, rfl, hv, hT, hsp⟩ := hp_361
                          replace hsp := hid hsp
                          have hQ : mQ gh I_137 J_139 AI_358 AJ mo b nn nr nt cc (pCf b nn (cF b nn nr nt cc h) hc) hc := mQ_bad hQ (by omega) rfl
                          refine z_iinc (lv' := [(2, .int (iI (n + 1))), (6, .int (iI v_143)), (5, .int (iI 0)), (4, .int (iI mr)), (3, .int (iI had)), (1, .int (iI v_99)), (0, .ref mo)]) F dX7_groupTold_133 hl (k := 4) rfl (by decide) rfl (fun ls hl => ?_)
                          refine lv_aload_n F.1 F.2.1 dX7_groupTold_136 rfl (lv_at hl 6 rfl) ?_
                          refine z_bipush F dX7_groupTold_137 (by decide) ?_
                          refine g_calli (g_runV (As := [.int (iI 44)]) (rest := []) (ci := 7) F hl.1 hH hS hz (c_X7_isSignf l g gh T b nn nr nt cc (pCf b nn (cF b nn nr nt cc h) hc) hc I_137 R J_139 AI_358 AJ AR mo 44 ⟨by decide, by decide⟩ hv hm hT h65 hbM hr7 (by omega) hn9 (by omega) (by omega) hQ) (cwV 1 F.2.2.2.2.1 (good_up gT_X7_isSign) rfl rfl rfl hdX7_isSign ⟨Nat.le_of_ble_eq_true rfl, Nat.le_of_ble_eq_true rfl⟩) hm (by decide) rfl rfl rfl (Nat.le_of_ble_eq_true rfl) dX7_groupTold_139 ⟨Nat.zero_le _, Nat.zero_le _⟩) hS (fun v_368 I_362 R_363 J_364 AI_365 AJ_366 AR_367 H locs zv_368 hp_369 hH hS => ?_)
                          dsimp only at hp_369
                          obtain ⟨rfl, rfl, rfl, rfl, rfl, rfl, q_370, q_371⟩ := hp_369
                          replace q_370 := q_370.1
                          refine lv_istore (lv' := [(4, .int (iI v_368)), (2, .int (iI (n + 1))), (6, .int (iI v_143)), (5, .int (iI 0)), (3, .int (iI had)), (1, .int (iI v_99)), (0, .ref mo)]) F.1 F.2.1 dX7_groupTold_142 hl (by decide) rfl (fun ls hl => ?_)
                          refine lv_iload F.1 F.2.1 dX7_groupTold_144 (lv_at hl 0 rfl) ?_
                          refine z_if_eq (tgt := 153) F dX7_groupTold_146 (by decide) zv_368 (fun c_372 => ?_) (fun c_372 => ?_)
                          · have t_373 := tIz_0 q_371 (by omega)
                            refine z_goto (tgt := 18) F dX7_groupTold_153 (by decide) ?_
                            refine lv_iload F.1 F.2.1 dX7_groupTold_18 (lv_at hl 0 rfl) ?_
                            refine z_if_eq (tgt := 156) F dX7_groupTold_20 (by decide) zv_368 (fun c_374 => ?_) (fun c_374 => ?_)
                            · have t_375 := tIz_0 q_371 (by omega)
                              have hTs : sBy b nn (cF b nn nr nt cc h) n L hc = (pCf b nn (cF b nn nr nt cc h) hc, hc, 0) := sBy_x (by omega)
                              have hS9 : sBys b nn (cF b nn nr nt cc h) 4 0 [] (h + 2) = (pCf b nn (cF b nn nr nt cc h) hc, hc, 0) := sBys_no hsq (f := (3 - n).toNat) (by omega) hTs.symm (by omega)
                              have hfin : thn (f, h, 0) (fun t _ => sGrp b nn nr nt cc t) = (pCf b nn (cF b nn nr nt cc h) hc, hc, 0) := (thn_k q0).trans (by show sGrp b nn nr nt cc h = _; unfold sGrp; exact thn_t sr_101 rfl (thn_t sr_114 rfl (thn_x hS9.symm (by omega))))
                              exact cut_156_3 v_99 (n + 1) I_137 J_139 AI_358 H locs ls zv_99 ⟨by omega, by omega⟩ hv hT pf ⟨_, _, by omega, hQ, hfin⟩ (by omega) (by omega) hH hS (lv_sub hl [6, 5, 1] rfl)
                            · exact absurd trivial (by omega)
                          · exact absurd (tIz_1 q_371 (by omega)).1 (by omega)
                        · exact absurd (mQ_z hQ (by omega)) (by omega)
                    · refine lv_aload_n F.1 F.2.1 dX7_groupTold_84 rfl (lv_at hl 5 rfl) ?_
                      refine lv_iload F.1 F.2.1 dX7_groupTold_85 (lv_at hl 0 rfl) ?_
                      refine z_if_eq (tgt := 94) F dX7_groupTold_87 (by decide) ⟨by decide, by decide⟩ (fun c_376 => ?_) (fun c_376 => ?_)
                      · refine z_iconst F dX7_groupTold_94 ?_
                        refine g_callv (g_runV (As := [.int (iI 1)]) (rest := []) (ci := 7) F hl.1 hH hS hz (c_X7_wrongf l g gh T b nn nr nt cc 0 hc I_117 R J_118 AI_119 AJ AR mo 1 ⟨by decide, by decide⟩ hv hm hT (by omega) h65 hbM hr7 (by omega) hn9 (by omega) hQ) (cwV 1 F.2.2.2.2.1 (good_up gT_X7_wrong) rfl rfl rfl hdX7_wrong ⟨Nat.le_of_ble_eq_true rfl, Nat.le_of_ble_eq_true rfl⟩) hm (by decide) rfl rfl rfl (Nat.le_of_ble_eq_true rfl) dX7_groupTold_95 ⟨Nat.zero_le _, Nat.zero_le _⟩) hS (fun I_377 R_378 J_379 AI_380 AJ_381 AR_382 H locs hp_383 hH hS => ?_)
                        dsimp only at hp_383
                        obtain ⟨r_384, er_384⟩ : ∃ qQ : pR, qQ = thn (0, hc, 0) (fun t _ => (1, t, 0)) := ⟨_, rfl⟩
                        rw [← er_384] at hp_383
                        obtain ⟨rfl, rfl, rfl, rfl, rfl, hv, pfq, q_385, hQ⟩ := hp_383
                        have pf := qF_t pf pfq
                        have u_386_2 : (I_377 mo 2).toInt = (I mo 2).toInt := by rw [pf 2 (by decide) (by decide) (by decide) (by decide) (by decide)]
                        have u_386_5 : (I_377 mo 5).toInt = (I mo 5).toInt := by rw [pf 5 (by decide) (by decide) (by decide) (by decide) (by decide)]
                        have u_386_14 : (I_377 mo 14).toInt = (I mo 14).toInt := by rw [pf 14 (by decide) (by decide) (by decide) (by decide) (by decide)]
                        have u_386_16 : (I_377 mo 16).toInt = (I mo 16).toInt := by rw [pf 16 (by decide) (by decide) (by decide) (by decide) (by decide)]
                        have u_386_18 : (I_377 mo 18).toInt = (I mo 18).toInt := by rw [pf 18 (by decide) (by decide) (by decide) (by decide) (by decide)]
                        have er_384 : r_384 = (1, hc, 0) := er_384
                        have hQ : mQ gh I_377 J_118 AI_119 AJ mo b nn nr nt cc 1 hc := by rw [er_384] at hQ; exact hQ
                        have q9_r_384 : (1 : Int) ≠ 0 := by omega
                        have g9_r_384 := mQ_f hQ q9_r_384
                        refine lv_aload_n F.1 F.2.1 dX7_groupTold_98 rfl (lv_at hl 5 rfl) ?_
                        refine lv_aload_n F.1 F.2.1 dX7_groupTold_99 rfl (lv_at hl 5 rfl) ?_
                        refine lv_iload_n F.1 F.2.1 dX7_groupTold_100 rfl (lv_at hl 4 rfl) ?_
                        have b_388 := mJ hv hm
                        unfold mNum1 at b_388
                        refine g_calli (g_runV (As := [.int (iI v_99)]) (rest := [.ref mo]) (ci := 7) F hl.1 hH hS hz (c_X7_columns l g gh T I_377 R J_118 AI_119 AJ AR mo v_99 zv_99 hv hm hT (by omega)) (cwV 1 F.2.2.2.2.1 (good_up gT_X7_columns) rfl rfl rfl hdX7_columns ⟨Nat.le_of_ble_eq_true rfl, Nat.le_of_ble_eq_true rfl⟩) hm (by decide) rfl rfl rfl (Nat.le_of_ble_eq_true rfl) dX7_groupTold_101 ⟨Nat.zero_le _, Nat.zero_le _⟩) hS (fun v_395 I_389 R_390 J_391 AI_392 AJ_393 AR_394 H locs zv_395 hp_396 hH hS => ?_)
                        dsimp only at hp_396
                        obtain ⟨rfl, rfl, rfl, rfl, rfl, rfl, q_387⟩ := hp_396
                        refine g_calli (g_runV (As := [.int (iI v_395)]) (rest := []) (ci := 7) F hl.1 hH hS hz (c_X7_columnf l g gh T b nn nr nt cc 1 hc I_377 R J_118 AI_119 AJ AR mo v_395 zv_395 hv hm hT (by omega) h65 hbM hr7 (by omega) hn9 (by omega) hQ) (cwV 1 F.2.2.2.2.1 (good_up gT_X7_column) rfl rfl rfl hdX7_column ⟨Nat.le_of_ble_eq_true rfl, Nat.le_of_ble_eq_true rfl⟩) hm (by decide) rfl rfl rfl (Nat.le_of_ble_eq_true rfl) dX7_groupTold_104 ⟨Nat.zero_le _, Nat.zero_le _⟩) hS (fun v_403 I_397 R_398 J_399 AI_400 AJ_401 AR_402 H locs zv_403 hp_404 hH hS => ?_)
                        dsimp only at hp_404
                        obtain ⟨r_405, er_405⟩ : ∃ qQ : pR, qQ = thn (1, hc, 0) (fun t _ => sCol b nn v_395 t) := ⟨_, rfl⟩
                        rw [← er_405] at hp_404
                        obtain ⟨rfl, rfl, rfl, rfl, hv, pfq, q_406, q_407, hQ, q_408⟩ := hp_404
                        have pf := qF_t pf pfq
                        have u_409_2 : (I_397 mo 2).toInt = (I mo 2).toInt := by rw [pf 2 (by decide) (by decide) (by decide) (by decide) (by decide)]
                        have u_409_5 : (I_397 mo 5).toInt = (I mo 5).toInt := by rw [pf 5 (by decide) (by decide) (by decide) (by decide) (by decide)]
                        have u_409_14 : (I_397 mo 14).toInt = (I mo 14).toInt := by rw [pf 14 (by decide) (by decide) (by decide) (by decide) (by decide)]
                        have u_409_16 : (I_397 mo 16).toInt = (I mo 16).toInt := by rw [pf 16 (by decide) (by decide) (by decide) (by decide) (by decide)]
                        have u_409_18 : (I_397 mo 18).toInt = (I mo 18).toInt := by rw [pf 18 (by decide) (by decide) (by decide) (by decide) (by decide)]
                        rw [thn_b (by omega)] at er_405
                        have hQ : mQ gh I_397 J_399 AI_119 AJ mo b nn nr nt cc 1 hc := by rw [er_405] at hQ; exact hQ
                        replace q_407 := hid q_407
                        obtain ⟨f1, ef1⟩ : ∃ q, q = (I_397 mo 24).toInt := ⟨_, rfl⟩
                        have hc1 : Hid (f1 = 0 → 0 ≤ v_403 ∧ v_403 ≤ 3) := fun h9 => by omega
                        refine lv_istore (lv' := [(6, .int (iI v_403)), (5, .int (iI 0)), (4, .int (iI mr)), (3, .int (iI had)), (2, .int (iI n)), (1, .int (iI v_99)), (0, .ref mo)]) F.1 F.2.1 dX7_groupTold_107 hl (by decide) rfl (fun ls hl => ?_)
                        refine lv_aload_n F.1 F.2.1 dX7_groupTold_109 rfl (lv_at hl 6 rfl) ?_
                        refine g_getI (ci := 7) (k := 24) F hH rfl (by decide) iX7 hm (by decide) rfl k81 dX7_groupTold_110 ?_
                        have b_410 := mJ hv hm
                        unfold mNum1 at b_410
                        refine z_if_ne (tgt := 123) F dX7_groupTold_113 (by decide) (zr_t _) (fun c_411 => ?_) (fun c_411 => ?_)
                        · refine lv_aload_n F.1 F.2.1 dX7_groupTold_123 rfl (lv_at hl 6 rfl) ?_
                          refine lv_iload_n F.1 F.2.1 dX7_groupTold_124 rfl (lv_at hl 4 rfl) ?_
                          refine lv_iload F.1 F.2.1 dX7_groupTold_125 (lv_at hl 0 rfl) ?_
                          refine z_iconst F dX7_groupTold_127 ?_
                          refine z_iconst F dX7_groupTold_128 ?_
                          refine z_iconst F dX7_groupTold_129 ?_
                          refine g_callv (g_runV (As := [.int (iI n), .int (iI v_403), .int (iI 0), .int (iI 0), .int (iI 0)]) (rest := []) (ci := 7) F hl.1 hH hS hz (c_X7_setsPart l g gh T M I_397 R J_399 AI_119 AJ AR mo n v_403 0 0 0 zn zv_403 ⟨by decide, by decide⟩ ⟨by decide, by decide⟩ ⟨by decide, by decide⟩ hv hm hT (by omega) (by omega) (by omega)) (cwV 5 F.2.2.2.2.1 (good_up gT_X7_setsPart) rfl rfl rfl hdX7_setsPart ⟨Nat.le_of_ble_eq_true rfl, Nat.le_of_ble_eq_true rfl⟩) hm (by decide) rfl rfl rfl (Nat.le_of_ble_eq_true rfl) dX7_groupTold_130 ⟨Nat.zero_le _, Nat.zero_le _⟩) hS (fun I_412 R_413 J_414 AI_415 AJ_416 AR_417 H locs hp_418 hH hS => ?_)
                          dsimp only at hp_418
                          obtain ⟨rfl, rfl, rfl, rfl, rfl, hv, hT, hsp⟩ := hp_418
                          replace hsp := hid hsp
                          have hQ : mQ gh I_397 J_399 AI_415 AJ mo b nn nr nt cc 1 hc := mQ_bad hQ (by omega) rfl
                          refine z_iinc (lv' := [(2, .int (iI (n + 1))), (6, .int (iI v_403)), (5, .int (iI 0)), (4, .int (iI mr)), (3, .int (iI had)), (1, .int (iI v_99)), (0, .ref mo)]) F dX7_groupTold_133 hl (k := 4) rfl (by decide) rfl (fun ls hl => ?_)
                          refine lv_aload_n F.1 F.2.1 dX7_groupTold_136 rfl (lv_at hl 6 rfl) ?_
                          refine z_bipush F dX7_groupTold_137 (by decide) ?_
                          refine g_calli (g_runV (As := [.int (iI 44)]) (rest := []) (ci := 7) F hl.1 hH hS hz (c_X7_isSignf l g gh T b nn nr nt cc 1 hc I_397 R J_399 AI_415 AJ AR mo 44 ⟨by decide, by decide⟩ hv hm hT h65 hbM hr7 (by omega) hn9 (by omega) (by omega) hQ) (cwV 1 F.2.2.2.2.1 (good_up gT_X7_isSign) rfl rfl rfl hdX7_isSign ⟨Nat.le_of_ble_eq_true rfl, Nat.le_of_ble_eq_true rfl⟩) hm (by decide) rfl rfl rfl (Nat.le_of_ble_eq_true rfl) dX7_groupTold_139 ⟨Nat.zero_le _, Nat.zero_le _⟩) hS (fun v_425 I_419 R_420 J_421 AI_422 AJ_423 AR_424 H locs zv_425 hp_426 hH hS => ?_)
                          dsimp only at hp_426
                          obtain ⟨rfl, rfl, rfl, rfl, rfl, rfl, q_427, q_428⟩ := hp_426
                          replace q_427 := q_427.1
                          refine lv_istore (lv' := [(4, .int (iI v_425)), (2, .int (iI (n + 1))), (6, .int (iI v_403)), (5, .int (iI 0)), (3, .int (iI had)), (1, .int (iI v_99)), (0, .ref mo)]) F.1 F.2.1 dX7_groupTold_142 hl (by decide) rfl (fun ls hl => ?_)
                          refine lv_iload F.1 F.2.1 dX7_groupTold_144 (lv_at hl 0 rfl) ?_
                          refine z_if_eq (tgt := 153) F dX7_groupTold_146 (by decide) zv_425 (fun c_429 => ?_) (fun c_429 => ?_)
                          · have t_430 := tIz_0 q_428 (by omega)
                            refine z_goto (tgt := 18) F dX7_groupTold_153 (by decide) ?_
                            refine lv_iload F.1 F.2.1 dX7_groupTold_18 (lv_at hl 0 rfl) ?_
                            refine z_if_eq (tgt := 156) F dX7_groupTold_20 (by decide) zv_425 (fun c_431 => ?_) (fun c_431 => ?_)
                            · have t_432 := tIz_0 q_428 (by omega)
                              have hTs : sBy b nn (cF b nn nr nt cc h) n L hc = (1, hc, 0) := pE1 (sBy_x (c := (cF b nn nr nt cc h)) (pCf_n1 (by omega))) (by omega)
                              have hS9 : sBys b nn (cF b nn nr nt cc h) 4 0 [] (h + 2) = (1, hc, 0) := sBys_no hsq (f := (3 - n).toNat) (by omega) hTs.symm (by omega)
                              have hfin : thn (f, h, 0) (fun t _ => sGrp b nn nr nt cc t) = (1, hc, 0) := (thn_k q0).trans (by show sGrp b nn nr nt cc h = _; unfold sGrp; exact thn_t sr_101 rfl (thn_t sr_114 rfl (thn_x hS9.symm (by omega))))
                              exact cut_156_3 v_99 (n + 1) I_397 J_399 AI_415 H locs ls zv_99 ⟨by omega, by omega⟩ hv hT pf ⟨_, _, by omega, hQ, hfin⟩ (by omega) (by omega) hH hS (lv_sub hl [6, 5, 1] rfl)
                            · exact absurd trivial (by omega)
                          · exact absurd (tIz_1 q_428 (by omega)).1 (by omega)
                        · exact absurd (mQ_z hQ (by omega)) (by omega)
                      · exact absurd trivial (by omega)
                  · exact absurd trivial (by omega)
                · have t_433 := tkM_1 ((mQ_k hQ rfl).symm.trans (by omega))
                  have t_433v := mQ_v hQ rfl (by omega)
                  have t_433c := pV_c t_433
                  refine z_iconst F dX7_groupTold_38 ?_
                  refine z_goto (tgt := 43) F dX7_groupTold_39 (by decide) ?_
                  refine lv_istore (lv' := [(5, .int (iI 1)), (4, .int (iI mr)), (3, .int (iI had)), (2, .int (iI n)), (1, .int (iI v_99)), (0, .ref mo)]) F.1 F.2.1 dX7_groupTold_43 hl (by decide) rfl (fun ls hl => ?_)
                  refine lv_iload F.1 F.2.1 dX7_groupTold_45 (lv_at hl 0 rfl) ?_
                  refine z_if_eq (tgt := 79) F dX7_groupTold_47 (by decide) ⟨by decide, by decide⟩ (fun c_434 => ?_) (fun c_434 => ?_)
                  · exact absurd trivial (by omega)
                  · refine lv_aload_n F.1 F.2.1 dX7_groupTold_50 rfl (lv_at hl 5 rfl) ?_
                    refine g_getI (ci := 7) (k := 23) F hH rfl (by decide) iX7 hm (by decide) rfl k97 dX7_groupTold_51 ?_
                    refine lv_aload_n F.1 F.2.1 dX7_groupTold_54 rfl (lv_at hl 5 rfl) ?_
                    refine lv_iload_n F.1 F.2.1 dX7_groupTold_55 rfl (lv_at hl 4 rfl) ?_
                    refine g_calli (g_runV (As := [.int (iI v_99)]) (rest := [.int (iI ((I_117 mo 23).toInt))]) (ci := 7) F hl.1 hH hS hz (c_X7_columns l g gh T I_117 R J_118 AI_119 AJ AR mo v_99 zv_99 hv hm hT (by omega)) (cwV 1 F.2.2.2.2.1 (good_up gT_X7_columns) rfl rfl rfl hdX7_columns ⟨Nat.le_of_ble_eq_true rfl, Nat.le_of_ble_eq_true rfl⟩) hm (by decide) rfl rfl rfl (Nat.le_of_ble_eq_true rfl) dX7_groupTold_56 ⟨Nat.zero_le _, Nat.zero_le _⟩) hS (fun v_442 I_436 R_437 J_438 AI_439 AJ_440 AR_441 H locs zv_442 hp_443 hH hS => ?_)
                    dsimp only at hp_443
                    obtain ⟨rfl, rfl, rfl, rfl, rfl, rfl, q_435⟩ := hp_443
                    have cvv_442 : v_442 = cF b nn nr nt cc h := q_435.trans ((mQ_c hQ rfl vlr_101.1 vlr_101.2.1).trans vlr_101.2.2)
                    refine z_icmp_ge (tgt := 74) F dX7_groupTold_59 (by decide) (zr_t _) zv_442 (fun c_444 => ?_) (fun c_444 => ?_)
                    · refine lv_aload_n F.1 F.2.1 dX7_groupTold_74 rfl (lv_at hl 5 rfl) ?_
                      refine z_iconst F dX7_groupTold_75 ?_
                      refine g_callv (g_runV (As := [.int (iI 2)]) (rest := []) (ci := 7) F hl.1 hH hS hz (c_X7_wrongf l g gh T b nn nr nt cc 0 hc I_117 R J_118 AI_119 AJ AR mo 2 ⟨by decide, by decide⟩ hv hm hT (by omega) h65 hbM hr7 (by omega) hn9 (by omega) hQ) (cwV 1 F.2.2.2.2.1 (good_up gT_X7_wrong) rfl rfl rfl hdX7_wrong ⟨Nat.le_of_ble_eq_true rfl, Nat.le_of_ble_eq_true rfl⟩) hm (by decide) rfl rfl rfl (Nat.le_of_ble_eq_true rfl) dX7_groupTold_76 ⟨Nat.zero_le _, Nat.zero_le _⟩) hS (fun I_445 R_446 J_447 AI_448 AJ_449 AR_450 H locs hp_451 hH hS => ?_)
                      dsimp only at hp_451
                      obtain ⟨r_452, er_452⟩ : ∃ qQ : pR, qQ = thn (0, hc, 0) (fun t _ => (2, t, 0)) := ⟨_, rfl⟩
                      rw [← er_452] at hp_451
                      obtain ⟨rfl, rfl, rfl, rfl, rfl, hv, pfq, q_453, hQ⟩ := hp_451
                      have pf := qF_t pf pfq
                      have u_454_2 : (I_445 mo 2).toInt = (I mo 2).toInt := by rw [pf 2 (by decide) (by decide) (by decide) (by decide) (by decide)]
                      have u_454_5 : (I_445 mo 5).toInt = (I mo 5).toInt := by rw [pf 5 (by decide) (by decide) (by decide) (by decide) (by decide)]
                      have u_454_14 : (I_445 mo 14).toInt = (I mo 14).toInt := by rw [pf 14 (by decide) (by decide) (by decide) (by decide) (by decide)]
                      have u_454_16 : (I_445 mo 16).toInt = (I mo 16).toInt := by rw [pf 16 (by decide) (by decide) (by decide) (by decide) (by decide)]
                      have u_454_18 : (I_445 mo 18).toInt = (I mo 18).toInt := by rw [pf 18 (by decide) (by decide) (by decide) (by decide) (by decide)]
                      have er_452 : r_452 = (2, hc, 0) := er_452
                      have hQ : mQ gh I_445 J_118 AI_119 AJ mo b nn nr nt cc 2 hc := by rw [er_452] at hQ; exact hQ
                      have q9_r_452 : (2 : Int) ≠ 0 := by omega
                      have g9_r_452 := mQ_f hQ q9_r_452
                      refine lv_iload_n F.1 F.2.1 dX7_groupTold_79 rfl (lv_at hl 3 rfl) ?_
                      refine z_iconst F dX7_groupTold_80 ?_
                      refine z_icmp_ne (tgt := 98) F dX7_groupTold_81 (by decide) zn ⟨by decide, by decide⟩ (fun c_455 => ?_) (fun c_455 => ?_)
                      · refine lv_aload_n F.1 F.2.1 dX7_groupTold_98 rfl (lv_at hl 5 rfl) ?_
                        refine lv_aload_n F.1 F.2.1 dX7_groupTold_99 rfl (lv_at hl 5 rfl) ?_
                        refine lv_iload_n F.1 F.2.1 dX7_groupTold_100 rfl (lv_at hl 4 rfl) ?_
                        have b_457 := mJ hv hm
                        unfold mNum1 at b_457
                        refine g_calli (g_runV (As := [.int (iI v_99)]) (rest := [.ref mo]) (ci := 7) F hl.1 hH hS hz (c_X7_columns l g gh T I_445 R J_118 AI_119 AJ AR mo v_99 zv_99 hv hm hT (by omega)) (cwV 1 F.2.2.2.2.1 (good_up gT_X7_columns) rfl rfl rfl hdX7_columns ⟨Nat.le_of_ble_eq_true rfl, Nat.le_of_ble_eq_true rfl⟩) hm (by decide) rfl rfl rfl (Nat.le_of_ble_eq_true rfl) dX7_groupTold_101 ⟨Nat.zero_le _, Nat.zero_le _⟩) hS (fun v_464 I_458 R_459 J_460 AI_461 AJ_462 AR_463 H locs zv_464 hp_465 hH hS => ?_)
                        dsimp only at hp_465
                        obtain ⟨rfl, rfl, rfl, rfl, rfl, rfl, q_456⟩ := hp_465
                        refine g_calli (g_runV (As := [.int (iI v_464)]) (rest := []) (ci := 7) F hl.1 hH hS hz (c_X7_columnf l g gh T b nn nr nt cc 2 hc I_445 R J_118 AI_119 AJ AR mo v_464 zv_464 hv hm hT (by omega) h65 hbM hr7 (by omega) hn9 (by omega) hQ) (cwV 1 F.2.2.2.2.1 (good_up gT_X7_column) rfl rfl rfl hdX7_column ⟨Nat.le_of_ble_eq_true rfl, Nat.le_of_ble_eq_true rfl⟩) hm (by decide) rfl rfl rfl (Nat.le_of_ble_eq_true rfl) dX7_groupTold_104 ⟨Nat.zero_le _, Nat.zero_le _⟩) hS (fun v_472 I_466 R_467 J_468 AI_469 AJ_470 AR_471 H locs zv_472 hp_473 hH hS => ?_)
                        dsimp only at hp_473
                        obtain ⟨r_474, er_474⟩ : ∃ qQ : pR, qQ = thn (2, hc, 0) (fun t _ => sCol b nn v_464 t) := ⟨_, rfl⟩
                        rw [← er_474] at hp_473
                        obtain ⟨rfl, rfl, rfl, rfl, hv, pfq, q_475, q_476, hQ, q_477⟩ := hp_473
                        have pf := qF_t pf pfq
                        have u_478_2 : (I_466 mo 2).toInt = (I mo 2).toInt := by rw [pf 2 (by decide) (by decide) (by decide) (by decide) (by decide)]
                        have u_478_5 : (I_466 mo 5).toInt = (I mo 5).toInt := by rw [pf 5 (by decide) (by decide) (by decide) (by decide) (by decide)]
                        have u_478_14 : (I_466 mo 14).toInt = (I mo 14).toInt := by rw [pf 14 (by decide) (by decide) (by decide) (by decide) (by decide)]
                        have u_478_16 : (I_466 mo 16).toInt = (I mo 16).toInt := by rw [pf 16 (by decide) (by decide) (by decide) (by decide) (by decide)]
                        have u_478_18 : (I_466 mo 18).toInt = (I mo 18).toInt := by rw [pf 18 (by decide) (by decide) (by decide) (by decide) (by decide)]
                        rw [thn_b (by omega)] at er_474
                        have hQ : mQ gh I_466 J_468 AI_119 AJ mo b nn nr nt cc 2 hc := by rw [er_474] at hQ; exact hQ
                        replace q_476 := hid q_476
                        obtain ⟨f1, ef1⟩ : ∃ q, q = (I_466 mo 24).toInt := ⟨_, rfl⟩
                        have hc1 : Hid (f1 = 0 → 0 ≤ v_472 ∧ v_472 ≤ 3) := fun h9 => by omega
                        refine lv_istore (lv' := [(6, .int (iI v_472)), (5, .int (iI 1)), (4, .int (iI mr)), (3, .int (iI had)), (2, .int (iI n)), (1, .int (iI v_99)), (0, .ref mo)]) F.1 F.2.1 dX7_groupTold_107 hl (by decide) rfl (fun ls hl => ?_)
                        refine lv_aload_n F.1 F.2.1 dX7_groupTold_109 rfl (lv_at hl 6 rfl) ?_
                        refine g_getI (ci := 7) (k := 24) F hH rfl (by decide) iX7 hm (by decide) rfl k81 dX7_groupTold_110 ?_
                        have b_479 := mJ hv hm
                        unfold mNum1 at b_479
                        refine z_if_ne (tgt := 123) F dX7_groupTold_113 (by decide) (zr_t _) (fun c_480 => ?_) (fun c_480 => ?_)
                        · refine lv_aload_n F.1 F.2.1 dX7_groupTold_123 rfl (lv_at hl 6 rfl) ?_
                          refine lv_iload_n F.1 F.2.1 dX7_groupTold_124 rfl (lv_at hl 4 rfl) ?_
                          refine lv_iload F.1 F.2.1 dX7_groupTold_125 (lv_at hl 0 rfl) ?_
                          refine z_iconst F dX7_groupTold_127 ?_
                          refine z_iconst F dX7_groupTold_128 ?_
                          refine z_iconst F dX7_groupTold_129 ?_
                          refine g_callv (g_runV (As := [.int (iI n), .int (iI v_472), .int (iI 0), .int (iI 0), .int (iI 0)]) (rest := []) (ci := 7) F hl.1 hH hS hz (c_X7_setsPart l g gh T M I_466 R J_468 AI_119 AJ AR mo n v_472 0 0 0 zn zv_472 ⟨by decide, by decide⟩ ⟨by decide, by decide⟩ ⟨by decide, by decide⟩ hv hm hT (by omega) (by omega) (by omega)) (cwV 5 F.2.2.2.2.1 (good_up gT_X7_setsPart) rfl rfl rfl hdX7_setsPart ⟨Nat.le_of_ble_eq_true rfl, Nat.le_of_ble_eq_true rfl⟩) hm (by decide) rfl rfl rfl (Nat.le_of_ble_eq_true rfl) dX7_groupTold_130 ⟨Nat.zero_le _, Nat.zero_le _⟩) hS (fun I_481 R_482 J_483 AI_484 AJ_485 AR_486 H locs hp_487 hH hS => ?_)
                          dsimp only at hp_487
                          obtain ⟨rfl, rfl, rfl, rfl, rfl, hv, hT, hsp⟩ := hp_487
                          replace hsp := hid hsp
                          have hQ : mQ gh I_466 J_468 AI_484 AJ mo b nn nr nt cc 2 hc := mQ_bad hQ (by omega) rfl
                          refine z_iinc (lv' := [(2, .int (iI (n + 1))), (6, .int (iI v_472)), (5, .int (iI 1)), (4, .int (iI mr)), (3, .int (iI had)), (1, .int (iI v_99)), (0, .ref mo)]) F dX7_groupTold_133 hl (k := 4) rfl (by decide) rfl (fun ls hl => ?_)
                          refine lv_aload_n F.1 F.2.1 dX7_groupTold_136 rfl (lv_at hl 6 rfl) ?_
                          refine z_bipush F dX7_groupTold_137 (by decide) ?_
                          refine g_calli (g_runV (As := [.int (iI 44)]) (rest := []) (ci := 7) F hl.1 hH hS hz (c_X7_isSignf l g gh T b nn nr nt cc 2 hc I_466 R J_468 AI_484 AJ AR mo 44 ⟨by decide, by decide⟩ hv hm hT h65 hbM hr7 (by omega) hn9 (by omega) (by omega) hQ) (cwV 1 F.2.2.2.2.1 (good_up gT_X7_isSign) rfl rfl rfl hdX7_isSign ⟨Nat.le_of_ble_eq_true rfl, Nat.le_of_ble_eq_true rfl⟩) hm (by decide) rfl rfl rfl (Nat.le_of_ble_eq_true rfl) dX7_groupTold_139 ⟨Nat.zero_le _, Nat.zero_le _⟩) hS (fun v_494 I_488 R_489 J_490 AI_491 AJ_492 AR_493 H locs zv_494 hp_495 hH hS => ?_)
                          dsimp only at hp_495
                          obtain ⟨rfl, rfl, rfl, rfl, rfl, rfl, q_496, q_497⟩ := hp_495
                          replace q_496 := q_496.1
                          refine lv_istore (lv' := [(4, .int (iI v_494)), (2, .int (iI (n + 1))), (6, .int (iI v_472)), (5, .int (iI 1)), (3, .int (iI had)), (1, .int (iI v_99)), (0, .ref mo)]) F.1 F.2.1 dX7_groupTold_142 hl (by decide) rfl (fun ls hl => ?_)
                          refine lv_iload F.1 F.2.1 dX7_groupTold_144 (lv_at hl 0 rfl) ?_
                          refine z_if_eq (tgt := 153) F dX7_groupTold_146 (by decide) zv_494 (fun c_498 => ?_) (fun c_498 => ?_)
                          · have t_499 := tIz_0 q_497 (by omega)
                            refine z_goto (tgt := 18) F dX7_groupTold_153 (by decide) ?_
                            refine lv_iload F.1 F.2.1 dX7_groupTold_18 (lv_at hl 0 rfl) ?_
                            refine z_if_eq (tgt := 156) F dX7_groupTold_20 (by decide) zv_494 (fun c_500 => ?_) (fun c_500 => ?_)
                            · have t_501 := tIz_0 q_497 (by omega)
                              have hTs : sBy b nn (cF b nn nr nt cc h) n L hc = (2, hc, 0) := pE2 (sBy_x (pCf_n2 (by omega) (by omega))) (by omega) (by omega)
                              have hS9 : sBys b nn (cF b nn nr nt cc h) 4 0 [] (h + 2) = (2, hc, 0) := sBys_no hsq (f := (3 - n).toNat) (by omega) hTs.symm (by omega)
                              have hfin : thn (f, h, 0) (fun t _ => sGrp b nn nr nt cc t) = (2, hc, 0) := (thn_k q0).trans (by show sGrp b nn nr nt cc h = _; unfold sGrp; exact thn_t sr_101 rfl (thn_t sr_114 rfl (thn_x hS9.symm (by omega))))
                              exact cut_156_3 v_99 (n + 1) I_466 J_468 AI_484 H locs ls zv_99 ⟨by omega, by omega⟩ hv hT pf ⟨_, _, by omega, hQ, hfin⟩ (by omega) (by omega) hH hS (lv_sub hl [6, 5, 1] rfl)
                            · exact absurd trivial (by omega)
                          · exact absurd (tIz_1 q_497 (by omega)).1 (by omega)
                        · exact absurd (mQ_z hQ (by omega)) (by omega)
                      · refine lv_aload_n F.1 F.2.1 dX7_groupTold_84 rfl (lv_at hl 5 rfl) ?_
                        refine lv_iload F.1 F.2.1 dX7_groupTold_85 (lv_at hl 0 rfl) ?_
                        refine z_if_eq (tgt := 94) F dX7_groupTold_87 (by decide) ⟨by decide, by decide⟩ (fun c_502 => ?_) (fun c_502 => ?_)
                        · exact absurd trivial (by omega)
                        · refine z_iconst F dX7_groupTold_90 ?_
                          refine z_goto (tgt := 95) F dX7_groupTold_91 (by decide) ?_
                          have b_503 := mJ hv hm
                          unfold mNum1 at b_503
                          refine g_callv (g_runV (As := [.int (iI 4)]) (rest := []) (ci := 7) F hl.1 hH hS hz (c_X7_wrongf l g gh T b nn nr nt cc 2 hc I_445 R J_118 AI_119 AJ AR mo 4 ⟨by decide, by decide⟩ hv hm hT (by omega) h65 hbM hr7 (by omega) hn9 (by omega) hQ) (cwV 1 F.2.2.2.2.1 (good_up gT_X7_wrong) rfl rfl rfl hdX7_wrong ⟨Nat.le_of_ble_eq_true rfl, Nat.le_of_ble_eq_true rfl⟩) hm (by decide) rfl rfl rfl (Nat.le_of_ble_eq_true rfl) dX7_groupTold_95 ⟨Nat.zero_le _, Nat.zero_le _⟩) hS (fun I_504 R_505 J_506 AI_507 AJ_508 AR_509 H locs hp_510 hH hS => ?_)
                          dsimp only at hp_510
                          obtain ⟨r_511, er_511⟩ : ∃ qQ : pR, qQ = thn (2, hc, 0) (fun t _ => (4, t, 0)) := ⟨_, rfl⟩
                          rw [← er_511] at hp_510
                          obtain ⟨rfl, rfl, rfl, rfl, rfl, hv, pfq, q_512, hQ⟩ := hp_510
                          have pf := qF_t pf pfq
                          have u_513_2 : (I_504 mo 2).toInt = (I mo 2).toInt := by rw [pf 2 (by decide) (by decide) (by decide) (by decide) (by decide)]
                          have u_513_5 : (I_504 mo 5).toInt = (I mo 5).toInt := by rw [pf 5 (by decide) (by decide) (by decide) (by decide) (by decide)]
                          have u_513_14 : (I_504 mo 14).toInt = (I mo 14).toInt := by rw [pf 14 (by decide) (by decide) (by decide) (by decide) (by decide)]
                          have u_513_16 : (I_504 mo 16).toInt = (I mo 16).toInt := by rw [pf 16 (by decide) (by decide) (by decide) (by decide) (by decide)]
                          have u_513_18 : (I_504 mo 18).toInt = (I mo 18).toInt := by rw [pf 18 (by decide) (by decide) (by decide) (by decide) (by decide)]
                          rw [thn_b (by omega)] at er_511
                          have hQ : mQ gh I_504 J_118 AI_119 AJ mo b nn nr nt cc 2 hc := by rw [er_511] at hQ; exact hQ
                          refine lv_aload_n F.1 F.2.1 dX7_groupTold_98 rfl (lv_at hl 5 rfl) ?_
                          refine lv_aload_n F.1 F.2.1 dX7_groupTold_99 rfl (lv_at hl 5 rfl) ?_
                          refine lv_iload_n F.1 F.2.1 dX7_groupTold_100 rfl (lv_at hl 4 rfl) ?_
                          have b_515 := mJ hv hm
                          unfold mNum1 at b_515
                          refine g_calli (g_runV (As := [.int (iI v_99)]) (rest := [.ref mo]) (ci := 7) F hl.1 hH hS hz (c_X7_columns l g gh T I_504 R J_118 AI_119 AJ AR mo v_99 zv_99 hv hm hT (by omega)) (cwV 1 F.2.2.2.2.1 (good_up gT_X7_columns) rfl rfl rfl hdX7_columns ⟨Nat.le_of_ble_eq_true rfl, Nat.le_of_ble_eq_true rfl⟩) hm (by decide) rfl rfl rfl (Nat.le_of_ble_eq_true rfl) dX7_groupTold_101 ⟨Nat.zero_le _, Nat.zero_le _⟩) hS (fun v_522 I_516 R_517 J_518 AI_519 AJ_520 AR_521 H locs zv_522 hp_523 hH hS => ?_)
                          dsimp only at hp_523
                          obtain ⟨rfl, rfl, rfl, rfl, rfl, rfl, q_514⟩ := hp_523
                          refine g_calli (g_runV (As := [.int (iI v_522)]) (rest := []) (ci := 7) F hl.1 hH hS hz (c_X7_columnf l g gh T b nn nr nt cc 2 hc I_504 R J_118 AI_119 AJ AR mo v_522 zv_522 hv hm hT (by omega) h65 hbM hr7 (by omega) hn9 (by omega) hQ) (cwV 1 F.2.2.2.2.1 (good_up gT_X7_column) rfl rfl rfl hdX7_column ⟨Nat.le_of_ble_eq_true rfl, Nat.le_of_ble_eq_true rfl⟩) hm (by decide) rfl rfl rfl (Nat.le_of_ble_eq_true rfl) dX7_groupTold_104 ⟨Nat.zero_le _, Nat.zero_le _⟩) hS (fun v_530 I_524 R_525 J_526 AI_527 AJ_528 AR_529 H locs zv_530 hp_531 hH hS => ?_)
                          dsimp only at hp_531
                          obtain ⟨r_532, er_532⟩ : ∃ qQ : pR, qQ = thn (2, hc, 0) (fun t _ => sCol b nn v_522 t) := ⟨_, rfl⟩
                          rw [← er_532] at hp_531
                          obtain ⟨rfl, rfl, rfl, rfl, hv, pfq, q_533, q_534, hQ, q_535⟩ := hp_531
                          have pf := qF_t pf pfq
                          have u_536_2 : (I_524 mo 2).toInt = (I mo 2).toInt := by rw [pf 2 (by decide) (by decide) (by decide) (by decide) (by decide)]
                          have u_536_5 : (I_524 mo 5).toInt = (I mo 5).toInt := by rw [pf 5 (by decide) (by decide) (by decide) (by decide) (by decide)]
                          have u_536_14 : (I_524 mo 14).toInt = (I mo 14).toInt := by rw [pf 14 (by decide) (by decide) (by decide) (by decide) (by decide)]
                          have u_536_16 : (I_524 mo 16).toInt = (I mo 16).toInt := by rw [pf 16 (by decide) (by decide) (by decide) (by decide) (by decide)]
                          have u_536_18 : (I_524 mo 18).toInt = (I mo 18).toInt := by rw [pf 18 (by decide) (by decide) (by decide) (by decide) (by decide)]
                          rw [thn_b (by omega)] at er_532
                          have hQ : mQ gh I_524 J_526 AI_119 AJ mo b nn nr nt cc 2 hc := by rw [er_532] at hQ; exact hQ
                          replace q_534 := hid q_534
                          obtain ⟨f1, ef1⟩ : ∃ q, q = (I_524 mo 24).toInt := ⟨_, rfl⟩
                          have hc1 : Hid (f1 = 0 → 0 ≤ v_530 ∧ v_530 ≤ 3) := fun h9 => by omega
                          refine lv_istore (lv' := [(6, .int (iI v_530)), (5, .int (iI 1)), (4, .int (iI mr)), (3, .int (iI had)), (2, .int (iI n)), (1, .int (iI v_99)), (0, .ref mo)]) F.1 F.2.1 dX7_groupTold_107 hl (by decide) rfl (fun ls hl => ?_)
                          refine lv_aload_n F.1 F.2.1 dX7_groupTold_109 rfl (lv_at hl 6 rfl) ?_
                          refine g_getI (ci := 7) (k := 24) F hH rfl (by decide) iX7 hm (by decide) rfl k81 dX7_groupTold_110 ?_
                          have b_537 := mJ hv hm
                          unfold mNum1 at b_537
                          refine z_if_ne (tgt := 123) F dX7_groupTold_113 (by decide) (zr_t _) (fun c_538 => ?_) (fun c_538 => ?_)
                          · refine lv_aload_n F.1 F.2.1 dX7_groupTold_123 rfl (lv_at hl 6 rfl) ?_
                            refine lv_iload_n F.1 F.2.1 dX7_groupTold_124 rfl (lv_at hl 4 rfl) ?_
                            refine lv_iload F.1 F.2.1 dX7_groupTold_125 (lv_at hl 0 rfl) ?_
                            refine z_iconst F dX7_groupTold_127 ?_
                            refine z_iconst F dX7_groupTold_128 ?_
                            refine z_iconst F dX7_groupTold_129 ?_
                            refine g_callv (g_runV (As := [.int (iI n), .int (iI v_530), .int (iI 0), .int (iI 0), .int (iI 0)]) (rest := []) (ci := 7) F hl.1 hH hS hz (c_X7_setsPart l g gh T M I_524 R J_526 AI_119 AJ AR mo n v_530 0 0 0 zn zv_530 ⟨by decide, by decide⟩ ⟨by decide, by decide⟩ ⟨by decide, by decide⟩ hv hm hT (by omega) (by omega) (by omega)) (cwV 5 F.2.2.2.2.1 (good_up gT_X7_setsPart) rfl rfl rfl hdX7_setsPart ⟨Nat.le_of_ble_eq_true rfl, Nat.le_of_ble_eq_true rfl⟩) hm (by decide) rfl rfl rfl (Nat.le_of_ble_eq_true rfl) dX7_groupTold_130 ⟨Nat.zero_le _, Nat.zero_le _⟩) hS (fun I_539 R_540 J_541 AI_542 AJ_543 AR_544 H locs hp_545 hH hS => ?_)
                            dsimp only at hp_545
                            obtain ⟨rfl, rfl, rfl, rfl, rfl, hv, hT, hsp⟩ := hp_545
                            replace hsp := hid hsp
                            have hQ : mQ gh I_524 J_526 AI_542 AJ mo b nn nr nt cc 2 hc := mQ_bad hQ (by omega) rfl
                            refine z_iinc (lv' := [(2, .int (iI (n + 1))), (6, .int (iI v_530)), (5, .int (iI 1)), (4, .int (iI mr)), (3, .int (iI had)), (1, .int (iI v_99)), (0, .ref mo)]) F dX7_groupTold_133 hl (k := 4) rfl (by decide) rfl (fun ls hl => ?_)
                            refine lv_aload_n F.1 F.2.1 dX7_groupTold_136 rfl (lv_at hl 6 rfl) ?_
                            refine z_bipush F dX7_groupTold_137 (by decide) ?_
                            refine g_calli (g_runV (As := [.int (iI 44)]) (rest := []) (ci := 7) F hl.1 hH hS hz (c_X7_isSignf l g gh T b nn nr nt cc 2 hc I_524 R J_526 AI_542 AJ AR mo 44 ⟨by decide, by decide⟩ hv hm hT h65 hbM hr7 (by omega) hn9 (by omega) (by omega) hQ) (cwV 1 F.2.2.2.2.1 (good_up gT_X7_isSign) rfl rfl rfl hdX7_isSign ⟨Nat.le_of_ble_eq_true rfl, Nat.le_of_ble_eq_true rfl⟩) hm (by decide) rfl rfl rfl (Nat.le_of_ble_eq_true rfl) dX7_groupTold_139 ⟨Nat.zero_le _, Nat.zero_le _⟩) hS (fun v_552 I_546 R_547 J_548 AI_549 AJ_550 AR_551 H locs zv_552 hp_553 hH hS => ?_)
                            dsimp only at hp_553
                            obtain ⟨rfl, rfl, rfl, rfl, rfl, rfl, q_554, q_555⟩ := hp_553
                            replace q_554 := q_554.1
                            refine lv_istore (lv' := [(4, .int (iI v_552)), (2, .int (iI (n + 1))), (6, .int (iI v_530)), (5, .int (iI 1)), (3, .int (iI had)), (1, .int (iI v_99)), (0, .ref mo)]) F.1 F.2.1 dX7_groupTold_142 hl (by decide) rfl (fun ls hl => ?_)
                            refine lv_iload F.1 F.2.1 dX7_groupTold_144 (lv_at hl 0 rfl) ?_
                            refine z_if_eq (tgt := 153) F dX7_groupTold_146 (by decide) zv_552 (fun c_556 => ?_) (fun c_556 => ?_)
                            · have t_557 := tIz_0 q_555 (by omega)
                              refine z_goto (tgt := 18) F dX7_groupTold_153 (by decide) ?_
                              refine lv_iload F.1 F.2.1 dX7_groupTold_18 (lv_at hl 0 rfl) ?_
                              refine z_if_eq (tgt := 156) F dX7_groupTold_20 (by decide) zv_552 (fun c_558 => ?_) (fun c_558 => ?_)
                              · have t_559 := tIz_0 q_555 (by omega)
                                have hTs : sBy b nn (cF b nn nr nt cc h) n L hc = (2, hc, 0) := pE2 (sBy_x (pCf_n2 (by omega) (by omega))) (by omega) (by omega)
                                have hS9 : sBys b nn (cF b nn nr nt cc h) 4 0 [] (h + 2) = (2, hc, 0) := sBys_no hsq (f := (3 - n).toNat) (by omega) hTs.symm (by omega)
                                have hfin : thn (f, h, 0) (fun t _ => sGrp b nn nr nt cc t) = (2, hc, 0) := (thn_k q0).trans (by show sGrp b nn nr nt cc h = _; unfold sGrp; exact thn_t sr_101 rfl (thn_t sr_114 rfl (thn_x hS9.symm (by omega))))
                                exact cut_156_3 v_99 (n + 1) I_524 J_526 AI_542 H locs ls zv_99 ⟨by omega, by omega⟩ hv hT pf ⟨_, _, by omega, hQ, hfin⟩ (by omega) (by omega) hH hS (lv_sub hl [6, 5, 1] rfl)
                              · exact absurd trivial (by omega)
                            · exact absurd (tIz_1 q_555 (by omega)).1 (by omega)
                          · exact absurd (mQ_z hQ (by omega)) (by omega)
                    · refine lv_iload_n F.1 F.2.1 dX7_groupTold_62 rfl (lv_at hl 2 rfl) ?_
                      refine lv_aload_n F.1 F.2.1 dX7_groupTold_63 rfl (lv_at hl 5 rfl) ?_
                      refine g_getI (ci := 7) (k := 23) F hH rfl (by decide) iX7 hm (by decide) rfl k97 dX7_groupTold_64 ?_
                      refine lv_ishr F.1 F.2.1 dX7_groupTold_67 ?_
                      refine z_top (fun v_560 zv_560 ev_560 => ?_)
                      refine z_iconst F dX7_groupTold_68 ?_
                      refine lv_iand F.1 F.2.1 dX7_groupTold_69 ?_
                      refine z_top (fun v_561 zv_561 ev_561 => ?_)
                      have hb69 : v_561 = mBit had (pV b nn hc) := by rw [ev_561, ev_560, show (I_117 mo 23).toInt = pV b nn hc by omega]; rfl
                      refine z_iconst F dX7_groupTold_70 ?_
                      refine z_icmp_ne (tgt := 79) F dX7_groupTold_71 (by decide) zv_561 ⟨by decide, by decide⟩ (fun c_562 => ?_) (fun c_562 => ?_)
                      · have hmem : ¬ pV b nn hc ∈ L := fun e9 => absurd ((hcn _ (by omega) (by omega)).mpr e9) (by omega)
                        refine lv_iload_n F.1 F.2.1 dX7_groupTold_79 rfl (lv_at hl 3 rfl) ?_
                        refine z_iconst F dX7_groupTold_80 ?_
                        refine z_icmp_ne (tgt := 98) F dX7_groupTold_81 (by decide) zn ⟨by decide, by decide⟩ (fun c_563 => ?_) (fun c_563 => ?_)
                        · refine lv_aload_n F.1 F.2.1 dX7_groupTold_98 rfl (lv_at hl 5 rfl) ?_
                          refine lv_aload_n F.1 F.2.1 dX7_groupTold_99 rfl (lv_at hl 5 rfl) ?_
                          refine lv_iload_n F.1 F.2.1 dX7_groupTold_100 rfl (lv_at hl 4 rfl) ?_
                          refine g_calli (g_runV (As := [.int (iI v_99)]) (rest := [.ref mo]) (ci := 7) F hl.1 hH hS hz (c_X7_columns l g gh T I_117 R J_118 AI_119 AJ AR mo v_99 zv_99 hv hm hT (by omega)) (cwV 1 F.2.2.2.2.1 (good_up gT_X7_columns) rfl rfl rfl hdX7_columns ⟨Nat.le_of_ble_eq_true rfl, Nat.le_of_ble_eq_true rfl⟩) hm (by decide) rfl rfl rfl (Nat.le_of_ble_eq_true rfl) dX7_groupTold_101 ⟨Nat.zero_le _, Nat.zero_le _⟩) hS (fun v_571 I_565 R_566 J_567 AI_568 AJ_569 AR_570 H locs zv_571 hp_572 hH hS => ?_)
                          dsimp only at hp_572
                          obtain ⟨rfl, rfl, rfl, rfl, rfl, rfl, q_564⟩ := hp_572
                          have cvv_571 : v_571 = cF b nn nr nt cc h := q_564.trans ((mQ_c hQ rfl vlr_101.1 vlr_101.2.1).trans vlr_101.2.2)
                          refine g_calli (g_runV (As := [.int (iI v_571)]) (rest := []) (ci := 7) F hl.1 hH hS hz (c_X7_columnf l g gh T b nn nr nt cc 0 hc I_117 R J_118 AI_119 AJ AR mo v_571 zv_571 hv hm hT (by omega) h65 hbM hr7 (by omega) hn9 (by omega) hQ) (cwV 1 F.2.2.2.2.1 (good_up gT_X7_column) rfl rfl rfl hdX7_column ⟨Nat.le_of_ble_eq_true rfl, Nat.le_of_ble_eq_true rfl⟩) hm (by decide) rfl rfl rfl (Nat.le_of_ble_eq_true rfl) dX7_groupTold_104 ⟨Nat.zero_le _, Nat.zero_le _⟩) hS (fun v_579 I_573 R_574 J_575 AI_576 AJ_577 AR_578 H locs zv_579 hp_580 hH hS => ?_)
                          dsimp only at hp_580
                          rw [show v_571 = cF b nn nr nt cc h by omega] at hp_580
                          obtain ⟨r_581, er_581⟩ : ∃ qQ : pR, qQ = thn (0, hc, 0) (fun t _ => sCol b nn (cF b nn nr nt cc h) t) := ⟨_, rfl⟩
                          rw [← er_581] at hp_580
                          obtain ⟨rfl, rfl, rfl, rfl, hv, pfq, q_582, q_583, hQ, q_584⟩ := hp_580
                          have pf := qF_t pf pfq
                          have u_585_2 : (I_573 mo 2).toInt = (I mo 2).toInt := by rw [pf 2 (by decide) (by decide) (by decide) (by decide) (by decide)]
                          have u_585_5 : (I_573 mo 5).toInt = (I mo 5).toInt := by rw [pf 5 (by decide) (by decide) (by decide) (by decide) (by decide)]
                          have u_585_14 : (I_573 mo 14).toInt = (I mo 14).toInt := by rw [pf 14 (by decide) (by decide) (by decide) (by decide) (by decide)]
                          have u_585_16 : (I_573 mo 16).toInt = (I mo 16).toInt := by rw [pf 16 (by decide) (by decide) (by decide) (by decide) (by decide)]
                          have u_585_18 : (I_573 mo 18).toInt = (I mo 18).toInt := by rw [pf 18 (by decide) (by decide) (by decide) (by decide) (by decide)]
                          have er_581 : r_581 = sCol b nn (cF b nn nr nt cc h) hc := er_581
                          have sr_581 := er_581
                          rcases sCol_c er_581 with ⟨er_581, pr_581⟩ | ⟨er_581, pr_581⟩
                          · have hQ : mQ gh I_573 J_575 AI_119 AJ mo b nn nr nt cc 0 (hc + 1) := by rw [er_581] at hQ; exact hQ
                            have sr_581 : sCol b nn (cF b nn nr nt cc h) hc = (0, hc + 1, pV b nn hc) := sr_581.symm.trans er_581
                            have vlr_581 := q_584 (by rw [er_581])
                            try rw [er_581] at vlr_581
                            try dsimp only at vlr_581
                            have kq_583 := q_583 (mQ_0 hQ rfl)
                            replace q_583 := hid q_583
                            obtain ⟨f1, ef1⟩ : ∃ q, q = (I_573 mo 24).toInt := ⟨_, rfl⟩
                            have hc1 : Hid (f1 = 0 → 0 ≤ v_579 ∧ v_579 ≤ 3) := fun h9 => by omega
                            refine lv_istore (lv' := [(6, .int (iI v_579)), (5, .int (iI 1)), (4, .int (iI mr)), (3, .int (iI had)), (2, .int (iI n)), (1, .int (iI v_99)), (0, .ref mo)]) F.1 F.2.1 dX7_groupTold_107 hl (by decide) rfl (fun ls hl => ?_)
                            refine lv_aload_n F.1 F.2.1 dX7_groupTold_109 rfl (lv_at hl 6 rfl) ?_
                            refine g_getI (ci := 7) (k := 24) F hH rfl (by decide) iX7 hm (by decide) rfl k81 dX7_groupTold_110 ?_
                            have b_586 := mJ hv hm
                            unfold mNum1 at b_586
                            refine z_if_ne (tgt := 123) F dX7_groupTold_113 (by decide) (zr_t _) (fun c_587 => ?_) (fun c_587 => ?_)
                            · exact absurd (mQ_0 hQ rfl) (by omega)
                            · refine lv_iload_n F.1 F.2.1 dX7_groupTold_116 rfl (lv_at hl 3 rfl) ?_
                              refine z_iconst F dX7_groupTold_117 ?_
                              refine lv_iload F.1 F.2.1 dX7_groupTold_118 (lv_at hl 0 rfl) ?_
                              refine lv_ishl F.1 F.2.1 dX7_groupTold_120 ?_
                              refine z_top (fun v_588 zv_588 ev_588 => ?_)
                              refine lv_ior F.1 F.2.1 dX7_groupTold_121 ?_
                              refine z_top (fun v_589 zv_589 ev_589 => ?_)
                              have hcn : mGn v_589 (v_579 :: L) := mGn_s hcn (by omega) ev_588 ev_589
                              rw [show v_579 = pV b nn hc by omega] at hcn
                              refine lv_istore_n (lv' := [(3, .int (iI v_589)), (6, .int (iI v_579)), (5, .int (iI 1)), (4, .int (iI mr)), (2, .int (iI n)), (1, .int (iI v_99)), (0, .ref mo)]) F.1 F.2.1 dX7_groupTold_122 rfl hl (by decide) rfl (fun ls hl => ?_)
                              refine lv_aload_n F.1 F.2.1 dX7_groupTold_123 rfl (lv_at hl 6 rfl) ?_
                              refine lv_iload_n F.1 F.2.1 dX7_groupTold_124 rfl (lv_at hl 4 rfl) ?_
                              refine lv_iload F.1 F.2.1 dX7_groupTold_125 (lv_at hl 1 rfl) ?_
                              refine z_iconst F dX7_groupTold_127 ?_
                              refine z_iconst F dX7_groupTold_128 ?_
                              refine z_iconst F dX7_groupTold_129 ?_
                              refine g_callv (g_runV (As := [.int (iI n), .int (iI v_579), .int (iI 0), .int (iI 0), .int (iI 0)]) (rest := []) (ci := 7) F hl.1 hH hS hz (c_X7_setsPart l g gh T M I_573 R J_575 AI_119 AJ AR mo n v_579 0 0 0 zn zv_579 ⟨by decide, by decide⟩ ⟨by decide, by decide⟩ ⟨by decide, by decide⟩ hv hm hT (by omega) (by omega) (by omega)) (cwV 5 F.2.2.2.2.1 (good_up gT_X7_setsPart) rfl rfl rfl hdX7_setsPart ⟨Nat.le_of_ble_eq_true rfl, Nat.le_of_ble_eq_true rfl⟩) hm (by decide) rfl rfl rfl (Nat.le_of_ble_eq_true rfl) dX7_groupTold_130 ⟨Nat.zero_le _, Nat.zero_le _⟩) hS (fun I_590 R_591 J_592 AI_593 AJ_594 AR_595 H locs hp_596 hH hS => ?_)
                              dsimp only at hp_596
                              obtain ⟨rfl, rfl, rfl, rfl, rfl, hv, hT, hsp⟩ := hp_596
                              replace hsp := hid hsp
                              have hQ : mQ gh I_573 J_575 AI_593 AJ mo b nn nr nt cc 0 (hc + 1) := mQ_a hQ (fun hf9 z9 h09 h19 => (hsp hf9).1 z9 h09 (Or.inl (by omega)))
                              refine z_iinc (lv' := [(2, .int (iI (n + 1))), (3, .int (iI v_589)), (6, .int (iI v_579)), (5, .int (iI 1)), (4, .int (iI mr)), (1, .int (iI v_99)), (0, .ref mo)]) F dX7_groupTold_133 hl (k := 4) rfl (by decide) rfl (fun ls hl => ?_)
                              refine lv_aload_n F.1 F.2.1 dX7_groupTold_136 rfl (lv_at hl 6 rfl) ?_
                              refine z_bipush F dX7_groupTold_137 (by decide) ?_
                              refine g_calli (g_runV (As := [.int (iI 44)]) (rest := []) (ci := 7) F hl.1 hH hS hz (c_X7_isSignf l g gh T b nn nr nt cc 0 (hc + 1) I_573 R J_575 AI_593 AJ AR mo 44 ⟨by decide, by decide⟩ hv hm hT h65 hbM hr7 (by omega) hn9 (by omega) (by omega) hQ) (cwV 1 F.2.2.2.2.1 (good_up gT_X7_isSign) rfl rfl rfl hdX7_isSign ⟨Nat.le_of_ble_eq_true rfl, Nat.le_of_ble_eq_true rfl⟩) hm (by decide) rfl rfl rfl (Nat.le_of_ble_eq_true rfl) dX7_groupTold_139 ⟨Nat.zero_le _, Nat.zero_le _⟩) hS (fun v_603 I_597 R_598 J_599 AI_600 AJ_601 AR_602 H locs zv_603 hp_604 hH hS => ?_)
                              dsimp only at hp_604
                              obtain ⟨rfl, rfl, rfl, rfl, rfl, rfl, q_605, q_606⟩ := hp_604
                              replace q_605 := q_605.1
                              refine lv_istore (lv' := [(4, .int (iI v_603)), (2, .int (iI (n + 1))), (3, .int (iI v_589)), (6, .int (iI v_579)), (5, .int (iI 1)), (1, .int (iI v_99)), (0, .ref mo)]) F.1 F.2.1 dX7_groupTold_142 hl (by decide) rfl (fun ls hl => ?_)
                              refine lv_iload F.1 F.2.1 dX7_groupTold_144 (lv_at hl 0 rfl) ?_
                              refine z_if_eq (tgt := 153) F dX7_groupTold_146 (by decide) zv_603 (fun c_607 => ?_) (fun c_607 => ?_)
                              · have t_608 := tIz_n q_606 (by omega)
                                have hTs : sBy b nn (cF b nn nr nt cc h) n L hc = (0, hc + 1, pV b nn hc) := sBy_ok (by omega) hmem (by omega)
                                have hp : Hid ((I_573 mo 24).toInt = 0 → (n + 1) ≤ 3 ∧ grpP (AI_593 (gh 53 0)) M (n + 1)) := ((fun hf => ⟨by omega, grpP_step (by omega) (hp (by omega)).2 (hsp (by omega)) (by omega)⟩))
                                have hS9 : sBys b nn (cF b nn nr nt cc h) 4 0 [] (h + 2) = (0, hc + 1, n + 1) := sBys_st hsq (f := (3 - n).toNat) (by omega) hTs.symm rfl (by omega)
                                refine z_goto (tgt := 18) F dX7_groupTold_153 (by decide) ?_
                                refine lv_iload F.1 F.2.1 dX7_groupTold_18 (lv_at hl 0 rfl) ?_
                                refine z_if_eq (tgt := 156) F dX7_groupTold_20 (by decide) zv_603 (fun c_609 => ?_) (fun c_609 => ?_)
                                · have t_610 := tIz_n q_606 (by omega)
                                  obtain ⟨f3, ef3⟩ : ∃ q, q = (I_573 mo 24).toInt := ⟨_, rfl⟩
                                  have cut_209_610 : ∀ (fo : Int) (H : Heap) (locs : List Loc) (ls : Array Slot), zr fo → (-1 ≤ fo ∧ fo ≤ 3) → (pFo fo (pK b nn (hc + 1)) (pV b nn (hc + 1))) → gH g I_573 R J_575 AI_593 AJ AR H → va_S (gA g) s.heap H locs → lv_has ls 7 [(4, .int (iI v_603)), (2, .int (iI (n + 1))), (3, .int (iI v_589)), (6, .int (iI v_579)), (5, .int (iI 1)), (1, .int (iI v_99)), (0, .ref mo)] → W p l e rmX7_groupToldf s m ([.ref mo] : List Value).toArray below meth c H locs 0 0 (MQ below (gQv g (fun w : gS => R = w.2.1 ∧ AJ = w.2.2.2.2.1 ∧ AR = w.2.2.2.2.2 ∧ (mInv g gh R (w.1) (w.2.2.2.1)) ∧ ((w.2.2.2.1) (gh 50 0) = T) ∧ (qF mo I (w.1)) ∧ (((w.1) mo 20).toInt ≤ 936 ∧ (I mo 24).toInt ≤ ((w.1) mo 24).toInt) ∧ (((w.1) mo 24).toInt = 0 → ((w.1) mo 21).toInt = 4 → ((w.1) mo 23).toInt = 59 → rowOK ((w.2.2.2.1) (gh 53 0)) M) ∧ (((w.1) mo 24).toInt = 0 → tI ((w.2.2.2.1) (gh 53 0)) (40 * M) = 7) ∧ (mQ gh (w.1) (w.2.2.1) (w.2.2.2.1) AJ mo b nn nr nt cc (thn (f, h, 0) (fun t _ => sGrp b nn nr nt cc t)).1 (thn (f, h, 0) (fun t _ => sGrp b nn nr nt cc t)).2.1) ∧ (pIc (thn (f, h, 0) (fun t _ => sGrp b nn nr nt cc t)).1 (pK b nn (thn (f, h, 0) (fun t _ => sGrp b nn nr nt cc t)).2.1) (tI ((w.2.2.2.1) (gh 53 0)) (40 * (nr : Int) + 1)) (thn (f, h, 0) (fun t _ => sGrp b nn nr nt cc t)).2.2))) ([.ref mo] : List Value).toArray s 0 0 (gA g)) (F0 m 209 ls [.int (iI fo)]) := by
                                    intro fo H locs ls zfo hfo hfo2 hH hS hl
                                    refine lv_istore (lv' := [(5, .int (iI fo)), (4, .int (iI v_603)), (2, .int (iI (n + 1))), (3, .int (iI v_589)), (6, .int (iI v_579)), (1, .int (iI v_99)), (0, .ref mo)]) F.1 F.2.1 dX7_groupTold_209 hl (by decide) rfl (fun ls hl => ?_)
                                    refine lv_iload F.1 F.2.1 dX7_groupTold_211 (lv_at hl 0 rfl) ?_
                                    refine z_if_ge (tgt := 221) F dX7_groupTold_213 (by decide) zfo (fun c_612 => ?_) (fun c_612 => ?_)
                                    · have yfo := pFo_y hfo2 (by omega)
                                      refine lv_aload_n F.1 F.2.1 dX7_groupTold_221 rfl (lv_at hl 6 rfl) ?_
                                      refine g_callv (g_runV (As := []) (rest := []) (ci := 7) F hl.1 hH hS hz (c_X7_nextf l g gh T b nn (tNd b nn (tPs b nn (hc + 1))) I_573 R J_575 AI_593 AJ AR mo hv hm hT (by omega) (mTp hv h65 hbM) hr7 (by omega) (by omega) (mQ_e0 hQ) tNd_le.1) (cwV 0 F.2.2.2.2.1 (good_up gT_X7_next) rfl rfl rfl hdX7_next ⟨Nat.le_of_ble_eq_true rfl, Nat.le_of_ble_eq_true rfl⟩) hm (by decide) rfl rfl rfl (Nat.le_of_ble_eq_true rfl) dX7_groupTold_222 ⟨Nat.zero_le _, Nat.zero_le _⟩) hS (fun I_613 R_614 J_615 AI_616 AJ_617 AR_618 H locs hp_619 hH hS => ?_)
                                      dsimp only at hp_619
                                      obtain ⟨rfl, rfl, rfl, rfl, hv, pfq, q_620, nx4, nxa, nxb⟩ := hp_619
                                      have pf := qF_t pf pfq
                                      have u_621_2 : (I_613 mo 2).toInt = (I mo 2).toInt := by rw [pf 2 (by decide) (by decide) (by decide) (by decide) (by decide)]
                                      have u_621_5 : (I_613 mo 5).toInt = (I mo 5).toInt := by rw [pf 5 (by decide) (by decide) (by decide) (by decide) (by decide)]
                                      have u_621_14 : (I_613 mo 14).toInt = (I mo 14).toInt := by rw [pf 14 (by decide) (by decide) (by decide) (by decide) (by decide)]
                                      have u_621_16 : (I_613 mo 16).toInt = (I mo 16).toInt := by rw [pf 16 (by decide) (by decide) (by decide) (by decide) (by decide)]
                                      have u_621_18 : (I_613 mo 18).toInt = (I mo 18).toInt := by rw [pf 18 (by decide) (by decide) (by decide) (by decide) (by decide)]
                                      have hQ : mQ gh I_613 J_615 AI_593 AJ mo b nn nr nt cc 0 (hc + 2) := mQ_nx hQ nx4 nxa
                                      clear nxa nxb
                                      refine lv_iload F.1 F.2.1 dX7_groupTold_225 (lv_at hl 0 rfl) ?_
                                      refine z_if_le (tgt := 242) F dX7_groupTold_227 (by decide) zfo (fun c_622 => ?_) (fun c_622 => ?_)
                                      · refine z_iconst F dX7_groupTold_242 ?_
                                        refine lv_istore (lv' := [(6, .int (iI 0)), (5, .int (iI fo)), (4, .int (iI v_603)), (2, .int (iI (n + 1))), (3, .int (iI v_589)), (1, .int (iI v_99)), (0, .ref mo)]) F.1 F.2.1 dX7_groupTold_243 hl (by decide) rfl (fun ls hl => ?_)
                                        refine lv_aload_n F.1 F.2.1 dX7_groupTold_245 rfl (lv_at hl 6 rfl) ?_
                                        refine lv_iload_n F.1 F.2.1 dX7_groupTold_246 rfl (lv_at hl 3 rfl) ?_
                                        refine lv_iload F.1 F.2.1 dX7_groupTold_247 (lv_at hl 0 rfl) ?_
                                        refine lv_iload F.1 F.2.1 dX7_groupTold_249 (lv_at hl 1 rfl) ?_
                                        refine z_iconst F dX7_groupTold_251 ?_
                                        refine z_iconst F dX7_groupTold_252 ?_
                                        have b_623 := mJ hv hm
                                        unfold mNum1 at b_623
                                        refine g_callv (g_runV (As := [.int (iI (n + 1)), .int (iI 0), .int (iI fo), .int (iI 0), .int (iI 0)]) (rest := []) (ci := 7) F hl.1 hH hS hz (c_X7_setsPart l g gh T M I_613 R J_615 AI_593 AJ AR mo (n + 1) 0 fo 0 0 ⟨by omega, by omega⟩ ⟨by decide, by decide⟩ zfo ⟨by decide, by decide⟩ ⟨by decide, by decide⟩ hv hm hT (by omega) (by omega) (by omega)) (cwV 5 F.2.2.2.2.1 (good_up gT_X7_setsPart) rfl rfl rfl hdX7_setsPart ⟨Nat.le_of_ble_eq_true rfl, Nat.le_of_ble_eq_true rfl⟩) hm (by decide) rfl rfl rfl (Nat.le_of_ble_eq_true rfl) dX7_groupTold_253 ⟨Nat.zero_le _, Nat.zero_le _⟩) hS (fun I_624 R_625 J_626 AI_627 AJ_628 AR_629 H locs hp_630 hH hS => ?_)
                                        dsimp only at hp_630
                                        obtain ⟨rfl, rfl, rfl, rfl, rfl, hv, hT, hsp⟩ := hp_630
                                        replace hsp := hid hsp
                                        have hQ : mQ gh I_613 J_615 AI_627 AJ mo b nn nr nt cc 0 (hc + 2) := mQ_a hQ (fun hf9 z9 h09 h19 => (hsp hf9).1 z9 h09 (Or.inl (by omega)))
                                        refine lv_aload_n F.1 F.2.1 dX7_groupTold_256 rfl (lv_at hl 6 rfl) ?_
                                        refine z_bipush F dX7_groupTold_257 (by decide) ?_
                                        refine lv_iload_n F.1 F.2.1 dX7_groupTold_259 rfl (lv_at hl 3 rfl) ?_
                                        refine z_iconst F dX7_groupTold_260 ?_
                                        refine z_iadd F dX7_groupTold_261 ?_
                                        refine lv_iload_n F.1 F.2.1 dX7_groupTold_262 rfl (lv_at hl 5 rfl) ?_
                                        refine z_iconst F dX7_groupTold_263 ?_
                                        refine lv_iload_n F.1 F.2.1 dX7_groupTold_264 rfl (lv_at hl 3 rfl) ?_
                                        refine g_callv (g_runV (As := [.int (iI 7), .int (iI ((n + 1) + 1)), .int (iI v_99), .int (iI ((-1))), .int (iI (n + 1))]) (rest := []) (ci := 7) F hl.1 hH hS hz (c_X7_header l g gh T M I_613 R J_615 AI_627 AJ AR mo 7 ((n + 1) + 1) v_99 (-1) (n + 1) ⟨by decide, by decide⟩ ⟨by omega, by omega⟩ zv_99 ⟨by decide, by decide⟩ ⟨by omega, by omega⟩ hv hm hT (by omega) (by omega)) (cwV 5 F.2.2.2.2.1 (good_up gT_X7_header) rfl rfl rfl hdX7_header ⟨Nat.le_of_ble_eq_true rfl, Nat.le_of_ble_eq_true rfl⟩) hm (by decide) rfl rfl rfl (Nat.le_of_ble_eq_true rfl) dX7_groupTold_265 ⟨Nat.zero_le _, Nat.zero_le _⟩) hS (fun I_631 R_632 J_633 AI_634 AJ_635 AR_636 H locs hp_637 hH hS => ?_)
                                        dsimp only at hp_637
                                        obtain ⟨rfl, rfl, rfl, rfl, rfl, hv, hT, hhd⟩ := hp_637
                                        replace hhd := hid hhd
                                        have hQ : mQ gh I_613 J_615 AI_634 AJ mo b nn nr nt cc 0 (hc + 2) := mQ_a hQ (fun hf9 z9 h09 h19 => (hhd hf9).1 z9 h09 (Or.inl (by omega)))
                                        have hfin : thn (f, h, 0) (fun t _ => sGrp b nn nr nt cc t) = (0, hc + 2, n + 1 + 1) := (thn_k q0).trans (by show sGrp b nn nr nt cc h = _; unfold sGrp; exact thn_t sr_101 rfl (thn_t sr_114 rfl (thn_t hS9 rfl (sFo_0 (by omega) (by omega)))))
                                        exact g_vret F hr hlk hH hS hz ⟨rfl, rfl, rfl, hv, hT, pf, by first | (dsimp only; omega) | omega | rfl, by (try dsimp only); intro hf ht hn; have q9 := hp (by omega); exact row_mk (by omega) (hhd (by omega)) (by omega) (by omega) (by omega) (by omega) (fun h => absurd h (by omega)) (fun h => absurd h (by omega)) (fun h => absurd h (by omega)) (fun h => absurd h (by omega)) (fun h => absurd h (by omega)) (fun _ => ⟨by omega, grpP_step (by omega) q9.2 (hsp (by omega)) (by omega)⟩) (fun h => absurd h (by omega)), by (try dsimp only); intro hf; exact (hhd (by omega)).2.1, by (try dsimp only); rw [hfin]; exact hQ, by (try dsimp only); rw [hfin]; have q9 := (hhd (mQ_0 hQ rfl)).2.2.1; rw [show M = (nr : Int) by omega] at q9; (try dsimp only); exact pIc_y (by omega)⟩ dX7_groupTold_268
                                      · refine lv_aload_n F.1 F.2.1 dX7_groupTold_230 rfl (lv_at hl 6 rfl) ?_
                                        refine lv_aload_n F.1 F.2.1 dX7_groupTold_231 rfl (lv_at hl 6 rfl) ?_
                                        refine lv_iload_n F.1 F.2.1 dX7_groupTold_232 rfl (lv_at hl 5 rfl) ?_
                                        have b_639 := mJ hv hm
                                        unfold mNum1 at b_639
                                        refine g_calli (g_runV (As := [.int (iI v_99)]) (rest := [.ref mo]) (ci := 7) F hl.1 hH hS hz (c_X7_columns l g gh T I_613 R J_615 AI_593 AJ AR mo v_99 zv_99 hv hm hT (by omega)) (cwV 1 F.2.2.2.2.1 (good_up gT_X7_columns) rfl rfl rfl hdX7_columns ⟨Nat.le_of_ble_eq_true rfl, Nat.le_of_ble_eq_true rfl⟩) hm (by decide) rfl rfl rfl (Nat.le_of_ble_eq_true rfl) dX7_groupTold_233 ⟨Nat.zero_le _, Nat.zero_le _⟩) hS (fun v_646 I_640 R_641 J_642 AI_643 AJ_644 AR_645 H locs zv_646 hp_647 hH hS => ?_)
                                        dsimp only at hp_647
                                        obtain ⟨rfl, rfl, rfl, rfl, rfl, rfl, q_638⟩ := hp_647
                                        have cvv_646 : v_646 = cF b nn nr nt cc h := q_638.trans ((mQ_c hQ rfl vlr_101.1 vlr_101.2.1).trans vlr_101.2.2)
                                        refine g_calli (g_runV (As := [.int (iI v_646)]) (rest := []) (ci := 7) F hl.1 hH hS hz (c_X7_columnf l g gh T b nn nr nt cc 0 (hc + 2) I_613 R J_615 AI_593 AJ AR mo v_646 zv_646 hv hm hT (by omega) h65 hbM hr7 (by omega) hn9 (by omega) hQ) (cwV 1 F.2.2.2.2.1 (good_up gT_X7_column) rfl rfl rfl hdX7_column ⟨Nat.le_of_ble_eq_true rfl, Nat.le_of_ble_eq_true rfl⟩) hm (by decide) rfl rfl rfl (Nat.le_of_ble_eq_true rfl) dX7_groupTold_236 ⟨Nat.zero_le _, Nat.zero_le _⟩) hS (fun v_654 I_648 R_649 J_650 AI_651 AJ_652 AR_653 H locs zv_654 hp_655 hH hS => ?_)
                                        dsimp only at hp_655
                                        rw [show v_646 = cF b nn nr nt cc h by omega] at hp_655
                                        obtain ⟨r_656, er_656⟩ : ∃ qQ : pR, qQ = thn (0, (hc + 2), 0) (fun t _ => sCol b nn (cF b nn nr nt cc h) t) := ⟨_, rfl⟩
                                        rw [← er_656] at hp_655
                                        obtain ⟨rfl, rfl, rfl, rfl, hv, pfq, q_657, q_658, hQ, q_659⟩ := hp_655
                                        have pf := qF_t pf pfq
                                        have u_660_2 : (I_648 mo 2).toInt = (I mo 2).toInt := by rw [pf 2 (by decide) (by decide) (by decide) (by decide) (by decide)]
                                        have u_660_5 : (I_648 mo 5).toInt = (I mo 5).toInt := by rw [pf 5 (by decide) (by decide) (by decide) (by decide) (by decide)]
                                        have u_660_14 : (I_648 mo 14).toInt = (I mo 14).toInt := by rw [pf 14 (by decide) (by decide) (by decide) (by decide) (by decide)]
                                        have u_660_16 : (I_648 mo 16).toInt = (I mo 16).toInt := by rw [pf 16 (by decide) (by decide) (by decide) (by decide) (by decide)]
                                        have u_660_18 : (I_648 mo 18).toInt = (I mo 18).toInt := by rw [pf 18 (by decide) (by decide) (by decide) (by decide) (by decide)]
                                        have er_656 : r_656 = sCol b nn (cF b nn nr nt cc h) (hc + 2) := er_656
                                        have sr_656 := er_656
                                        rcases sCol_c er_656 with ⟨er_656, pr_656⟩ | ⟨er_656, pr_656⟩
                                        · have hQ : mQ gh I_648 J_650 AI_593 AJ mo b nn nr nt cc 0 (hc + 3) := by rw [er_656] at hQ; exact hQ
                                          have sr_656 : sCol b nn (cF b nn nr nt cc h) (hc + 2) = (0, hc + 3, pV b nn (hc + 2)) := sr_656.symm.trans er_656
                                          have vlr_656 := q_659 (by rw [er_656])
                                          try rw [er_656] at vlr_656
                                          try dsimp only at vlr_656
                                          have kq_658 := q_658 (mQ_0 hQ rfl)
                                          replace q_658 := hid q_658
                                          refine z_goto (tgt := 243) F dX7_groupTold_239 (by decide) ?_
                                          refine lv_istore (lv' := [(6, .int (iI v_654)), (5, .int (iI fo)), (4, .int (iI v_603)), (2, .int (iI (n + 1))), (3, .int (iI v_589)), (1, .int (iI v_99)), (0, .ref mo)]) F.1 F.2.1 dX7_groupTold_243 hl (by decide) rfl (fun ls hl => ?_)
                                          refine lv_aload_n F.1 F.2.1 dX7_groupTold_245 rfl (lv_at hl 6 rfl) ?_
                                          refine lv_iload_n F.1 F.2.1 dX7_groupTold_246 rfl (lv_at hl 3 rfl) ?_
                                          refine lv_iload F.1 F.2.1 dX7_groupTold_247 (lv_at hl 0 rfl) ?_
                                          refine lv_iload F.1 F.2.1 dX7_groupTold_249 (lv_at hl 1 rfl) ?_
                                          refine z_iconst F dX7_groupTold_251 ?_
                                          refine z_iconst F dX7_groupTold_252 ?_
                                          have b_661 := mJ hv hm
                                          unfold mNum1 at b_661
                                          refine g_callv (g_runV (As := [.int (iI (n + 1)), .int (iI v_654), .int (iI fo), .int (iI 0), .int (iI 0)]) (rest := []) (ci := 7) F hl.1 hH hS hz (c_X7_setsPart l g gh T M I_648 R J_650 AI_593 AJ AR mo (n + 1) v_654 fo 0 0 ⟨by omega, by omega⟩ zv_654 zfo ⟨by decide, by decide⟩ ⟨by decide, by decide⟩ hv hm hT (by omega) (by omega) (by omega)) (cwV 5 F.2.2.2.2.1 (good_up gT_X7_setsPart) rfl rfl rfl hdX7_setsPart ⟨Nat.le_of_ble_eq_true rfl, Nat.le_of_ble_eq_true rfl⟩) hm (by decide) rfl rfl rfl (Nat.le_of_ble_eq_true rfl) dX7_groupTold_253 ⟨Nat.zero_le _, Nat.zero_le _⟩) hS (fun I_662 R_663 J_664 AI_665 AJ_666 AR_667 H locs hp_668 hH hS => ?_)
                                          dsimp only at hp_668
                                          obtain ⟨rfl, rfl, rfl, rfl, rfl, hv, hT, hsp⟩ := hp_668
                                          replace hsp := hid hsp
                                          have hQ : mQ gh I_648 J_650 AI_665 AJ mo b nn nr nt cc 0 (hc + 3) := mQ_a hQ (fun hf9 z9 h09 h19 => (hsp hf9).1 z9 h09 (Or.inl (by omega)))
                                          refine lv_aload_n F.1 F.2.1 dX7_groupTold_256 rfl (lv_at hl 6 rfl) ?_
                                          refine z_bipush F dX7_groupTold_257 (by decide) ?_
                                          refine lv_iload_n F.1 F.2.1 dX7_groupTold_259 rfl (lv_at hl 3 rfl) ?_
                                          refine z_iconst F dX7_groupTold_260 ?_
                                          refine z_iadd F dX7_groupTold_261 ?_
                                          refine lv_iload_n F.1 F.2.1 dX7_groupTold_262 rfl (lv_at hl 5 rfl) ?_
                                          refine z_iconst F dX7_groupTold_263 ?_
                                          refine lv_iload_n F.1 F.2.1 dX7_groupTold_264 rfl (lv_at hl 3 rfl) ?_
                                          refine g_callv (g_runV (As := [.int (iI 7), .int (iI ((n + 1) + 1)), .int (iI v_99), .int (iI ((-1))), .int (iI (n + 1))]) (rest := []) (ci := 7) F hl.1 hH hS hz (c_X7_header l g gh T M I_648 R J_650 AI_665 AJ AR mo 7 ((n + 1) + 1) v_99 (-1) (n + 1) ⟨by decide, by decide⟩ ⟨by omega, by omega⟩ zv_99 ⟨by decide, by decide⟩ ⟨by omega, by omega⟩ hv hm hT (by omega) (by omega)) (cwV 5 F.2.2.2.2.1 (good_up gT_X7_header) rfl rfl rfl hdX7_header ⟨Nat.le_of_ble_eq_true rfl, Nat.le_of_ble_eq_true rfl⟩) hm (by decide) rfl rfl rfl (Nat.le_of_ble_eq_true rfl) dX7_groupTold_265 ⟨Nat.zero_le _, Nat.zero_le _⟩) hS (fun I_669 R_670 J_671 AI_672 AJ_673 AR_674 H locs hp_675 hH hS => ?_)
                                          dsimp only at hp_675
                                          obtain ⟨rfl, rfl, rfl, rfl, rfl, hv, hT, hhd⟩ := hp_675
                                          replace hhd := hid hhd
                                          have hQ : mQ gh I_648 J_650 AI_672 AJ mo b nn nr nt cc 0 (hc + 3) := mQ_a hQ (fun hf9 z9 h09 h19 => (hhd hf9).1 z9 h09 (Or.inl (by omega)))
                                          have hfin : thn (f, h, 0) (fun t _ => sGrp b nn nr nt cc t) = (0, hc + 3, n + 1 + 1) := (thn_k q0).trans (by show sGrp b nn nr nt cc h = _; unfold sGrp; exact thn_t sr_101 rfl (thn_t sr_114 rfl (thn_t hS9 rfl (sFo_c (by omega) (by omega) pr_656.1))))
                                          exact g_vret F hr hlk hH hS hz ⟨rfl, rfl, rfl, hv, hT, pf, by first | (dsimp only; omega) | omega | rfl, by (try dsimp only); intro hf ht hn; have q9 := hp (by omega); exact row_mk (by omega) (hhd (by omega)) (by omega) (by omega) (by omega) (by omega) (fun h => absurd h (by omega)) (fun h => absurd h (by omega)) (fun h => absurd h (by omega)) (fun h => absurd h (by omega)) (fun h => absurd h (by omega)) (fun _ => ⟨by omega, grpP_step (by omega) q9.2 (hsp (by omega)) (by omega)⟩) (fun h => absurd h (by omega)), by (try dsimp only); intro hf; exact (hhd (by omega)).2.1, by (try dsimp only); rw [hfin]; exact hQ, by (try dsimp only); rw [hfin]; have q9 := (hhd (mQ_0 hQ rfl)).2.2.1; rw [show M = (nr : Int) by omega] at q9; (try dsimp only); exact pIc_y (by omega)⟩ dX7_groupTold_268
                                        · have hQ : mQ gh I_648 J_650 AI_593 AJ mo b nn nr nt cc (pCf b nn (cF b nn nr nt cc h) (hc + 2)) (hc + 2) := by rw [er_656] at hQ; exact hQ
                                          have sr_656 := sr_656.symm.trans er_656
                                          have g9r_656 := mQ_f hQ (by omega)
                                          replace q_658 := hid q_658
                                          refine z_goto (tgt := 243) F dX7_groupTold_239 (by decide) ?_
                                          refine lv_istore (lv' := [(6, .int (iI v_654)), (5, .int (iI fo)), (4, .int (iI v_603)), (2, .int (iI (n + 1))), (3, .int (iI v_589)), (1, .int (iI v_99)), (0, .ref mo)]) F.1 F.2.1 dX7_groupTold_243 hl (by decide) rfl (fun ls hl => ?_)
                                          refine lv_aload_n F.1 F.2.1 dX7_groupTold_245 rfl (lv_at hl 6 rfl) ?_
                                          refine lv_iload_n F.1 F.2.1 dX7_groupTold_246 rfl (lv_at hl 3 rfl) ?_
                                          refine lv_iload F.1 F.2.1 dX7_groupTold_247 (lv_at hl 0 rfl) ?_
                                          refine lv_iload F.1 F.2.1 dX7_groupTold_249 (lv_at hl 1 rfl) ?_
                                          refine z_iconst F dX7_groupTold_251 ?_
                                          refine z_iconst F dX7_groupTold_252 ?_
                                          have b_676 := mJ hv hm
                                          unfold mNum1 at b_676
                                          refine g_callv (g_runV (As := [.int (iI (n + 1)), .int (iI v_654), .int (iI fo), .int (iI 0), .int (iI 0)]) (rest := []) (ci := 7) F hl.1 hH hS hz (c_X7_setsPart l g gh T M I_648 R J_650 AI_593 AJ AR mo (n + 1) v_654 fo 0 0 ⟨by omega, by omega⟩ zv_654 zfo ⟨by decide, by decide⟩ ⟨by decide, by decide⟩ hv hm hT (by omega) (by omega) (by omega)) (cwV 5 F.2.2.2.2.1 (good_up gT_X7_setsPart) rfl rfl rfl hdX7_setsPart ⟨Nat.le_of_ble_eq_true rfl, Nat.le_of_ble_eq_true rfl⟩) hm (by decide) rfl rfl rfl (Nat.le_of_ble_eq_true rfl) dX7_groupTold_253 ⟨Nat.zero_le _, Nat.zero_le _⟩) hS (fun I_677 R_678 J_679 AI_680 AJ_681 AR_682 H locs hp_683 hH hS => ?_)
                                          dsimp only at hp_683
                                          obtain ⟨rfl, rfl, rfl, rfl, rfl, hv, hT, hsp⟩ := hp_683
                                          replace hsp := hid hsp
                                          have hQ : mQ gh I_648 J_650 AI_680 AJ mo b nn nr nt cc (pCf b nn (cF b nn nr nt cc h) (hc + 2)) (hc + 2) := mQ_bad hQ (by omega) rfl
                                          refine lv_aload_n F.1 F.2.1 dX7_groupTold_256 rfl (lv_at hl 6 rfl) ?_
                                          refine z_bipush F dX7_groupTold_257 (by decide) ?_
                                          refine lv_iload_n F.1 F.2.1 dX7_groupTold_259 rfl (lv_at hl 3 rfl) ?_
                                          refine z_iconst F dX7_groupTold_260 ?_
                                          refine z_iadd F dX7_groupTold_261 ?_
                                          refine lv_iload_n F.1 F.2.1 dX7_groupTold_262 rfl (lv_at hl 5 rfl) ?_
                                          refine z_iconst F dX7_groupTold_263 ?_
                                          refine lv_iload_n F.1 F.2.1 dX7_groupTold_264 rfl (lv_at hl 3 rfl) ?_
                                          refine g_callv (g_runV (As := [.int (iI 7), .int (iI ((n + 1) + 1)), .int (iI v_99), .int (iI ((-1))), .int (iI (n + 1))]) (rest := []) (ci := 7) F hl.1 hH hS hz (c_X7_header l g gh T M I_648 R J_650 AI_680 AJ AR mo 7 ((n + 1) + 1) v_99 (-1) (n + 1) ⟨by decide, by decide⟩ ⟨by omega, by omega⟩ zv_99 ⟨by decide, by decide⟩ ⟨by omega, by omega⟩ hv hm hT (by omega) (by omega)) (cwV 5 F.2.2.2.2.1 (good_up gT_X7_header) rfl rfl rfl hdX7_header ⟨Nat.le_of_ble_eq_true rfl, Nat.le_of_ble_eq_true rfl⟩) hm (by decide) rfl rfl rfl (Nat.le_of_ble_eq_true rfl) dX7_groupTold_265 ⟨Nat.zero_le _, Nat.zero_le _⟩) hS (fun I_684 R_685 J_686 AI_687 AJ_688 AR_689 H locs hp_690 hH hS => ?_)
                                          dsimp only at hp_690
                                          obtain ⟨rfl, rfl, rfl, rfl, rfl, hv, hT, hhd⟩ := hp_690
                                          replace hhd := hid hhd
                                          have hQ : mQ gh I_648 J_650 AI_687 AJ mo b nn nr nt cc (pCf b nn (cF b nn nr nt cc h) (hc + 2)) (hc + 2) := mQ_bad hQ (by omega) rfl
                                          have hfin : thn (f, h, 0) (fun t _ => sGrp b nn nr nt cc t) = (pCf b nn (cF b nn nr nt cc h) (hc + 2), hc + 2, 0) := (thn_k q0).trans (by show sGrp b nn nr nt cc h = _; unfold sGrp; exact thn_t sr_101 rfl (thn_t sr_114 rfl (thn_t hS9 rfl (sFo_v (by omega) (by omega) pr_656.1))))
                                          exact g_vret F hr hlk hH hS hz ⟨rfl, rfl, rfl, hv, hT, pf, by first | (dsimp only; omega) | omega | rfl, by (try dsimp only); exact (fun hf => absurd hf (by omega)), by (try dsimp only); exact (fun hf => absurd hf (by omega)), by (try dsimp only); rw [hfin]; exact hQ, by (try dsimp only); rw [hfin]; exact pIc_n (by omega)⟩ dX7_groupTold_268
                                    · have nfo := pFo_n hfo2 (by omega)
                                      refine lv_aload_n F.1 F.2.1 dX7_groupTold_216 rfl (lv_at hl 6 rfl) ?_
                                      refine z_iconst F dX7_groupTold_217 ?_
                                      refine g_callv (g_runV (As := [.int (iI 1)]) (rest := []) (ci := 7) F hl.1 hH hS hz (c_X7_wrongf l g gh T b nn nr nt cc 0 (hc + 1) I_573 R J_575 AI_593 AJ AR mo 1 ⟨by decide, by decide⟩ hv hm hT (by omega) h65 hbM hr7 (by omega) hn9 (by omega) hQ) (cwV 1 F.2.2.2.2.1 (good_up gT_X7_wrong) rfl rfl rfl hdX7_wrong ⟨Nat.le_of_ble_eq_true rfl, Nat.le_of_ble_eq_true rfl⟩) hm (by decide) rfl rfl rfl (Nat.le_of_ble_eq_true rfl) dX7_groupTold_218 ⟨Nat.zero_le _, Nat.zero_le _⟩) hS (fun I_691 R_692 J_693 AI_694 AJ_695 AR_696 H locs hp_697 hH hS => ?_)
                                      dsimp only at hp_697
                                      obtain ⟨r_698, er_698⟩ : ∃ qQ : pR, qQ = thn (0, (hc + 1), 0) (fun t _ => (1, t, 0)) := ⟨_, rfl⟩
                                      rw [← er_698] at hp_697
                                      obtain ⟨rfl, rfl, rfl, rfl, rfl, hv, pfq, q_699, hQ⟩ := hp_697
                                      have pf := qF_t pf pfq
                                      have u_700_2 : (I_691 mo 2).toInt = (I mo 2).toInt := by rw [pf 2 (by decide) (by decide) (by decide) (by decide) (by decide)]
                                      have u_700_5 : (I_691 mo 5).toInt = (I mo 5).toInt := by rw [pf 5 (by decide) (by decide) (by decide) (by decide) (by decide)]
                                      have u_700_14 : (I_691 mo 14).toInt = (I mo 14).toInt := by rw [pf 14 (by decide) (by decide) (by decide) (by decide) (by decide)]
                                      have u_700_16 : (I_691 mo 16).toInt = (I mo 16).toInt := by rw [pf 16 (by decide) (by decide) (by decide) (by decide) (by decide)]
                                      have u_700_18 : (I_691 mo 18).toInt = (I mo 18).toInt := by rw [pf 18 (by decide) (by decide) (by decide) (by decide) (by decide)]
                                      have er_698 : r_698 = (1, (hc + 1), 0) := er_698
                                      have hQ : mQ gh I_691 J_575 AI_593 AJ mo b nn nr nt cc 1 (hc + 1) := by rw [er_698] at hQ; exact hQ
                                      have q9_r_698 : (1 : Int) ≠ 0 := by omega
                                      have g9_r_698 := mQ_f hQ q9_r_698
                                      refine lv_aload_n F.1 F.2.1 dX7_groupTold_221 rfl (lv_at hl 6 rfl) ?_
                                      have b_701 := mJ hv hm
                                      unfold mNum1 at b_701
                                      refine g_callv (g_runV (As := []) (rest := []) (ci := 7) F hl.1 hH hS hz (c_X7_nextf l g gh T b nn (tNd b nn (tPs b nn (hc + 1))) I_691 R J_575 AI_593 AJ AR mo hv hm hT (by omega) (mTp hv h65 hbM) hr7 (by omega) (by omega) (mQ_e0 hQ) tNd_le.1) (cwV 0 F.2.2.2.2.1 (good_up gT_X7_next) rfl rfl rfl hdX7_next ⟨Nat.le_of_ble_eq_true rfl, Nat.le_of_ble_eq_true rfl⟩) hm (by decide) rfl rfl rfl (Nat.le_of_ble_eq_true rfl) dX7_groupTold_222 ⟨Nat.zero_le _, Nat.zero_le _⟩) hS (fun I_702 R_703 J_704 AI_705 AJ_706 AR_707 H locs hp_708 hH hS => ?_)
                                      dsimp only at hp_708
                                      obtain ⟨rfl, rfl, rfl, rfl, hv, pfq, q_709, nx4, nxa, nxb⟩ := hp_708
                                      have pf := qF_t pf pfq
                                      have u_710_2 : (I_702 mo 2).toInt = (I mo 2).toInt := by rw [pf 2 (by decide) (by decide) (by decide) (by decide) (by decide)]
                                      have u_710_5 : (I_702 mo 5).toInt = (I mo 5).toInt := by rw [pf 5 (by decide) (by decide) (by decide) (by decide) (by decide)]
                                      have u_710_14 : (I_702 mo 14).toInt = (I mo 14).toInt := by rw [pf 14 (by decide) (by decide) (by decide) (by decide) (by decide)]
                                      have u_710_16 : (I_702 mo 16).toInt = (I mo 16).toInt := by rw [pf 16 (by decide) (by decide) (by decide) (by decide) (by decide)]
                                      have u_710_18 : (I_702 mo 18).toInt = (I mo 18).toInt := by rw [pf 18 (by decide) (by decide) (by decide) (by decide) (by decide)]
                                      have hQ : mQ gh I_702 J_704 AI_593 AJ mo b nn nr nt cc 1 (hc + 1) := by have q9 := mQ_nx hQ nx4 nxa; rw [thn_b (by omega)] at q9; exact q9
                                      clear nxa nxb
                                      refine lv_iload F.1 F.2.1 dX7_groupTold_225 (lv_at hl 0 rfl) ?_
                                      refine z_if_le (tgt := 242) F dX7_groupTold_227 (by decide) zfo (fun c_711 => ?_) (fun c_711 => ?_)
                                      · have nfo := pFo_n hfo2 (by omega)
                                        refine z_iconst F dX7_groupTold_242 ?_
                                        refine lv_istore (lv' := [(6, .int (iI 0)), (5, .int (iI fo)), (4, .int (iI v_603)), (2, .int (iI (n + 1))), (3, .int (iI v_589)), (1, .int (iI v_99)), (0, .ref mo)]) F.1 F.2.1 dX7_groupTold_243 hl (by decide) rfl (fun ls hl => ?_)
                                        refine lv_aload_n F.1 F.2.1 dX7_groupTold_245 rfl (lv_at hl 6 rfl) ?_
                                        refine lv_iload_n F.1 F.2.1 dX7_groupTold_246 rfl (lv_at hl 3 rfl) ?_
                                        refine lv_iload F.1 F.2.1 dX7_groupTold_247 (lv_at hl 0 rfl) ?_
                                        refine lv_iload F.1 F.2.1 dX7_groupTold_249 (lv_at hl 1 rfl) ?_
                                        refine z_iconst F dX7_groupTold_251 ?_
                                        refine z_iconst F dX7_groupTold_252 ?_
                                        have b_712 := mJ hv hm
                                        unfold mNum1 at b_712
                                        refine g_callv (g_runV (As := [.int (iI (n + 1)), .int (iI 0), .int (iI fo), .int (iI 0), .int (iI 0)]) (rest := []) (ci := 7) F hl.1 hH hS hz (c_X7_setsPart l g gh T M I_702 R J_704 AI_593 AJ AR mo (n + 1) 0 fo 0 0 ⟨by omega, by omega⟩ ⟨by decide, by decide⟩ zfo ⟨by decide, by decide⟩ ⟨by decide, by decide⟩ hv hm hT (by omega) (by omega) (by omega)) (cwV 5 F.2.2.2.2.1 (good_up gT_X7_setsPart) rfl rfl rfl hdX7_setsPart ⟨Nat.le_of_ble_eq_true rfl, Nat.le_of_ble_eq_true rfl⟩) hm (by decide) rfl rfl rfl (Nat.le_of_ble_eq_true rfl) dX7_groupTold_253 ⟨Nat.zero_le _, Nat.zero_le _⟩) hS (fun I_713 R_714 J_715 AI_716 AJ_717 AR_718 H locs hp_719 hH hS => ?_)
                                        dsimp only at hp_719
                                        obtain ⟨rfl, rfl, rfl, rfl, rfl, hv, hT, hsp⟩ := hp_719
                                        replace hsp := hid hsp
                                        have hQ : mQ gh I_702 J_704 AI_716 AJ mo b nn nr nt cc 1 (hc + 1) := mQ_bad hQ (by omega) rfl
                                        refine lv_aload_n F.1 F.2.1 dX7_groupTold_256 rfl (lv_at hl 6 rfl) ?_
                                        refine z_bipush F dX7_groupTold_257 (by decide) ?_
                                        refine lv_iload_n F.1 F.2.1 dX7_groupTold_259 rfl (lv_at hl 3 rfl) ?_
                                        refine z_iconst F dX7_groupTold_260 ?_
                                        refine z_iadd F dX7_groupTold_261 ?_
                                        refine lv_iload_n F.1 F.2.1 dX7_groupTold_262 rfl (lv_at hl 5 rfl) ?_
                                        refine z_iconst F dX7_groupTold_263 ?_
                                        refine lv_iload_n F.1 F.2.1 dX7_groupTold_264 rfl (lv_at hl 3 rfl) ?_
                                        refine g_callv (g_runV (As := [.int (iI 7), .int (iI ((n + 1) + 1)), .int (iI v_99), .int (iI ((-1))), .int (iI (n + 1))]) (rest := []) (ci := 7) F hl.1 hH hS hz (c_X7_header l g gh T M I_702 R J_704 AI_716 AJ AR mo 7 ((n + 1) + 1) v_99 (-1) (n + 1) ⟨by decide, by decide⟩ ⟨by omega, by omega⟩ zv_99 ⟨by decide, by decide⟩ ⟨by omega, by omega⟩ hv hm hT (by omega) (by omega)) (cwV 5 F.2.2.2.2.1 (good_up gT_X7_header) rfl rfl rfl hdX7_header ⟨Nat.le_of_ble_eq_true rfl, Nat.le_of_ble_eq_true rfl⟩) hm (by decide) rfl rfl rfl (Nat.le_of_ble_eq_true rfl) dX7_groupTold_265 ⟨Nat.zero_le _, Nat.zero_le _⟩) hS (fun I_720 R_721 J_722 AI_723 AJ_724 AR_725 H locs hp_726 hH hS => ?_)
                                        dsimp only at hp_726
                                        obtain ⟨rfl, rfl, rfl, rfl, rfl, hv, hT, hhd⟩ := hp_726
                                        replace hhd := hid hhd
                                        have hQ : mQ gh I_702 J_704 AI_723 AJ mo b nn nr nt cc 1 (hc + 1) := mQ_bad hQ (by omega) rfl
                                        have hfin : thn (f, h, 0) (fun t _ => sGrp b nn nr nt cc t) = (1, hc + 1, 0) := (thn_k q0).trans (by show sGrp b nn nr nt cc h = _; unfold sGrp; exact thn_t sr_101 rfl (thn_t sr_114 rfl (thn_t hS9 rfl (sFo_n nfo))))
                                        exact g_vret F hr hlk hH hS hz ⟨rfl, rfl, rfl, hv, hT, pf, by first | (dsimp only; omega) | omega | rfl, by (try dsimp only); exact (fun hf => absurd hf (by omega)), by (try dsimp only); exact (fun hf => absurd hf (by omega)), by (try dsimp only); rw [hfin]; exact hQ, by (try dsimp only); rw [hfin]; exact pIc_n (by omega)⟩ dX7_groupTold_268
                                      · exact absurd trivial (by omega)
                                  refine lv_aload_n F.1 F.2.1 dX7_groupTold_156 rfl (lv_at hl 6 rfl) ?_
                                  refine va_ldcS F.1 F.2.1 F.2.2.2.1 (F.2.2.2.2.2.2.1 20 _ rfl).1 dX7_groupTold_157 ?_
                                  refine g_calli (g_runV (As := [.ref (gSK g 20)]) (rest := []) (ci := 7) F hl.1 hH hS hz (c_X7_isWordf l g gh T 20 _ 16 b nn nr nt cc 0 (hc + 1) I_573 R J_575 AI_593 AJ AR mo hv hm hT (rfl : sTab[20]? = some _) (by decide) (by decide +kernel) h65 hbM hr7 (by omega) hn9 (by omega) hQ) (cwV 1 F.2.2.2.2.1 (good_up gT_X7_isWord) rfl rfl rfl hdX7_isWord ⟨Nat.le_of_ble_eq_true rfl, Nat.le_of_ble_eq_true rfl⟩) hm (by decide) rfl rfl rfl (Nat.le_of_ble_eq_true rfl) dX7_groupTold_159 ⟨Nat.zero_le _, Nat.zero_le _⟩) hS (fun v_733 I_727 R_728 J_729 AI_730 AJ_731 AR_732 H locs zv_733 hp_734 hH hS => ?_)
                                  dsimp only at hp_734
                                  obtain ⟨rfl, rfl, rfl, rfl, rfl, rfl, q_735, q_736⟩ := hp_734
                                  refine z_if_eq (tgt := 169) F dX7_groupTold_162 (by decide) zv_733 (fun c_737 => ?_) (fun c_737 => ?_)
                                  · have t_738 := tIz_n q_736 (by omega)
                                    refine lv_aload_n F.1 F.2.1 dX7_groupTold_169 rfl (lv_at hl 6 rfl) ?_
                                    refine va_ldcS F.1 F.2.1 F.2.2.2.1 (F.2.2.2.2.2.2.1 21 _ rfl).1 dX7_groupTold_170 ?_
                                    refine g_calli (g_runV (As := [.ref (gSK g 21)]) (rest := []) (ci := 7) F hl.1 hH hS hz (c_X7_isWordf l g gh T 21 _ 17 b nn nr nt cc 0 (hc + 1) I_573 R J_575 AI_593 AJ AR mo hv hm hT (rfl : sTab[21]? = some _) (by decide) (by decide +kernel) h65 hbM hr7 (by omega) hn9 (by omega) hQ) (cwV 1 F.2.2.2.2.1 (good_up gT_X7_isWord) rfl rfl rfl hdX7_isWord ⟨Nat.le_of_ble_eq_true rfl, Nat.le_of_ble_eq_true rfl⟩) hm (by decide) rfl rfl rfl (Nat.le_of_ble_eq_true rfl) dX7_groupTold_172 ⟨Nat.zero_le _, Nat.zero_le _⟩) hS (fun v_745 I_739 R_740 J_741 AI_742 AJ_743 AR_744 H locs zv_745 hp_746 hH hS => ?_)
                                    dsimp only at hp_746
                                    obtain ⟨rfl, rfl, rfl, rfl, rfl, rfl, q_747, q_748⟩ := hp_746
                                    refine z_if_eq (tgt := 182) F dX7_groupTold_175 (by decide) zv_745 (fun c_749 => ?_) (fun c_749 => ?_)
                                    · have t_750 := tIz_n q_748 (by omega)
                                      refine lv_aload_n F.1 F.2.1 dX7_groupTold_182 rfl (lv_at hl 6 rfl) ?_
                                      refine va_ldcS F.1 F.2.1 F.2.2.2.1 (F.2.2.2.2.2.2.1 22 _ rfl).1 dX7_groupTold_183 ?_
                                      refine g_calli (g_runV (As := [.ref (gSK g 22)]) (rest := []) (ci := 7) F hl.1 hH hS hz (c_X7_isWordf l g gh T 22 _ 18 b nn nr nt cc 0 (hc + 1) I_573 R J_575 AI_593 AJ AR mo hv hm hT (rfl : sTab[22]? = some _) (by decide) (by decide +kernel) h65 hbM hr7 (by omega) hn9 (by omega) hQ) (cwV 1 F.2.2.2.2.1 (good_up gT_X7_isWord) rfl rfl rfl hdX7_isWord ⟨Nat.le_of_ble_eq_true rfl, Nat.le_of_ble_eq_true rfl⟩) hm (by decide) rfl rfl rfl (Nat.le_of_ble_eq_true rfl) dX7_groupTold_185 ⟨Nat.zero_le _, Nat.zero_le _⟩) hS (fun v_757 I_751 R_752 J_753 AI_754 AJ_755 AR_756 H locs zv_757 hp_758 hH hS => ?_)
                                      dsimp only at hp_758
                                      obtain ⟨rfl, rfl, rfl, rfl, rfl, rfl, q_759, q_760⟩ := hp_758
                                      refine z_if_eq (tgt := 195) F dX7_groupTold_188 (by decide) zv_757 (fun c_761 => ?_) (fun c_761 => ?_)
                                      · have t_762 := tIz_n q_760 (by omega)
                                        refine lv_aload_n F.1 F.2.1 dX7_groupTold_195 rfl (lv_at hl 6 rfl) ?_
                                        refine va_ldcS F.1 F.2.1 F.2.2.2.1 (F.2.2.2.2.2.2.1 23 _ rfl).1 dX7_groupTold_196 ?_
                                        refine g_calli (g_runV (As := [.ref (gSK g 23)]) (rest := []) (ci := 7) F hl.1 hH hS hz (c_X7_isWordf l g gh T 23 _ 19 b nn nr nt cc 0 (hc + 1) I_573 R J_575 AI_593 AJ AR mo hv hm hT (rfl : sTab[23]? = some _) (by decide) (by decide +kernel) h65 hbM hr7 (by omega) hn9 (by omega) hQ) (cwV 1 F.2.2.2.2.1 (good_up gT_X7_isWord) rfl rfl rfl hdX7_isWord ⟨Nat.le_of_ble_eq_true rfl, Nat.le_of_ble_eq_true rfl⟩) hm (by decide) rfl rfl rfl (Nat.le_of_ble_eq_true rfl) dX7_groupTold_198 ⟨Nat.zero_le _, Nat.zero_le _⟩) hS (fun v_769 I_763 R_764 J_765 AI_766 AJ_767 AR_768 H locs zv_769 hp_770 hH hS => ?_)
                                        dsimp only at hp_770
                                        obtain ⟨rfl, rfl, rfl, rfl, rfl, rfl, q_771, q_772⟩ := hp_770
                                        refine z_if_eq (tgt := 208) F dX7_groupTold_201 (by decide) zv_769 (fun c_773 => ?_) (fun c_773 => ?_)
                                        · have t_774 := tIz_n q_772 (by omega)
                                          refine z_iconst F dX7_groupTold_208 ?_
                                          exact cut_209_610 (-1) H locs ls ⟨by decide, by decide⟩ (by omega) (by first | exact Or.inr ⟨by decide, by omega, by omega, by decide⟩ | exact Or.inl ⟨rfl, by omega⟩) hH hS (lv_sub hl [0, 1, 2, 3, 4, 5, 6] rfl)
                                        · have t_775 := tIz_y q_772 (by omega)
                                          refine z_iconst F dX7_groupTold_204 ?_
                                          refine z_goto (tgt := 209) F dX7_groupTold_205 (by decide) ?_
                                          exact cut_209_610 3 H locs ls ⟨by decide, by decide⟩ (by omega) (by first | exact Or.inr ⟨by decide, by omega, by omega, by decide⟩ | exact Or.inl ⟨rfl, by omega⟩) hH hS (lv_sub hl [0, 1, 2, 3, 4, 5, 6] rfl)
                                      · have t_776 := tIz_y q_760 (by omega)
                                        refine z_iconst F dX7_groupTold_191 ?_
                                        refine z_goto (tgt := 209) F dX7_groupTold_192 (by decide) ?_
                                        exact cut_209_610 2 H locs ls ⟨by decide, by decide⟩ (by omega) (by first | exact Or.inr ⟨by decide, by omega, by omega, by decide⟩ | exact Or.inl ⟨rfl, by omega⟩) hH hS (lv_sub hl [0, 1, 2, 3, 4, 5, 6] rfl)
                                    · have t_777 := tIz_y q_748 (by omega)
                                      refine z_iconst F dX7_groupTold_178 ?_
                                      refine z_goto (tgt := 209) F dX7_groupTold_179 (by decide) ?_
                                      exact cut_209_610 1 H locs ls ⟨by decide, by decide⟩ (by omega) (by first | exact Or.inr ⟨by decide, by omega, by omega, by decide⟩ | exact Or.inl ⟨rfl, by omega⟩) hH hS (lv_sub hl [0, 1, 2, 3, 4, 5, 6] rfl)
                                  · have t_778 := tIz_y q_736 (by omega)
                                    refine z_iconst F dX7_groupTold_165 ?_
                                    refine z_goto (tgt := 209) F dX7_groupTold_166 (by decide) ?_
                                    exact cut_209_610 0 H locs ls ⟨by decide, by decide⟩ (by omega) (by first | exact Or.inr ⟨by decide, by omega, by omega, by decide⟩ | exact Or.inl ⟨rfl, by omega⟩) hH hS (lv_sub hl [0, 1, 2, 3, 4, 5, 6] rfl)
                                · exact absurd trivial (by omega)
                              · have t_779 := tIz_y q_606 (by omega)
                                refine lv_aload_n F.1 F.2.1 dX7_groupTold_149 rfl (lv_at hl 6 rfl) ?_
                                refine g_callv (g_runV (As := []) (rest := []) (ci := 7) F hl.1 hH hS hz (c_X7_nextf l g gh T b nn (tNd b nn (tPs b nn (hc + 1))) I_573 R J_575 AI_593 AJ AR mo hv hm hT (by omega) (mTp hv h65 hbM) hr7 (by omega) (by omega) (mQ_e0 hQ) tNd_le.1) (cwV 0 F.2.2.2.2.1 (good_up gT_X7_next) rfl rfl rfl hdX7_next ⟨Nat.le_of_ble_eq_true rfl, Nat.le_of_ble_eq_true rfl⟩) hm (by decide) rfl rfl rfl (Nat.le_of_ble_eq_true rfl) dX7_groupTold_150 ⟨Nat.zero_le _, Nat.zero_le _⟩) hS (fun I_780 R_781 J_782 AI_783 AJ_784 AR_785 H locs hp_786 hH hS => ?_)
                                dsimp only at hp_786
                                obtain ⟨rfl, rfl, rfl, rfl, hv, pfq, q_787, nx4, nxa, nxb⟩ := hp_786
                                have pf := qF_t pf pfq
                                have u_788_2 : (I_780 mo 2).toInt = (I mo 2).toInt := by rw [pf 2 (by decide) (by decide) (by decide) (by decide) (by decide)]
                                have u_788_5 : (I_780 mo 5).toInt = (I mo 5).toInt := by rw [pf 5 (by decide) (by decide) (by decide) (by decide) (by decide)]
                                have u_788_14 : (I_780 mo 14).toInt = (I mo 14).toInt := by rw [pf 14 (by decide) (by decide) (by decide) (by decide) (by decide)]
                                have u_788_16 : (I_780 mo 16).toInt = (I mo 16).toInt := by rw [pf 16 (by decide) (by decide) (by decide) (by decide) (by decide)]
                                have u_788_18 : (I_780 mo 18).toInt = (I mo 18).toInt := by rw [pf 18 (by decide) (by decide) (by decide) (by decide) (by decide)]
                                have hQ : mQ gh I_780 J_782 AI_593 AJ mo b nn nr nt cc 0 (hc + 2) := mQ_nx hQ nx4 nxa
                                clear nxa nxb
                                have hTs : sBy b nn (cF b nn nr nt cc h) n L hc = (0, hc + 1, pV b nn hc) := sBy_ok (by omega) hmem (by omega)
                                have hsq := sBys_go hsq (f := (3 - n).toNat) (by omega) hTs.symm rfl (by omega)
                                refine z_goto (tgt := 18) F dX7_groupTold_153 (by decide) ?_
                                exact ih18 (n + 1) v_589 v_603 I_780 J_782 AI_593 H locs ls ⟨by omega, by omega⟩ zv_589 zv_603 hv hT pf (by omega) ((fun hf => ⟨by omega, grpP_step (by omega) (hp (by omega)).2 (hsp (by omega)) (by omega)⟩)) ⟨_, _, hQ, by rw [show (4 - (n + 1)).toNat = (3 - n).toNat by omega]; exact hsq, hcn⟩ (by omega) (by omega) hH hS (lv_sub hl [0, 2, 1, 5, 6] rfl)
                          · have hQ : mQ gh I_573 J_575 AI_119 AJ mo b nn nr nt cc (pCf b nn (cF b nn nr nt cc h) hc) hc := by rw [er_581] at hQ; exact hQ
                            have sr_581 := sr_581.symm.trans er_581
                            have g9r_581 := mQ_f hQ (by omega)
                            replace q_583 := hid q_583
                            obtain ⟨f1, ef1⟩ : ∃ q, q = (I_573 mo 24).toInt := ⟨_, rfl⟩
                            have hc1 : Hid (f1 = 0 → 0 ≤ v_579 ∧ v_579 ≤ 3) := fun h9 => by omega
                            refine lv_istore (lv' := [(6, .int (iI v_579)), (5, .int (iI 1)), (4, .int (iI mr)), (3, .int (iI had)), (2, .int (iI n)), (1, .int (iI v_99)), (0, .ref mo)]) F.1 F.2.1 dX7_groupTold_107 hl (by decide) rfl (fun ls hl => ?_)
                            refine lv_aload_n F.1 F.2.1 dX7_groupTold_109 rfl (lv_at hl 6 rfl) ?_
                            refine g_getI (ci := 7) (k := 24) F hH rfl (by decide) iX7 hm (by decide) rfl k81 dX7_groupTold_110 ?_
                            have b_789 := mJ hv hm
                            unfold mNum1 at b_789
                            refine z_if_ne (tgt := 123) F dX7_groupTold_113 (by decide) (zr_t _) (fun c_790 => ?_) (fun c_790 => ?_)
                            · refine lv_aload_n F.1 F.2.1 dX7_groupTold_123 rfl (lv_at hl 6 rfl) ?_
                              refine lv_iload_n F.1 F.2.1 dX7_groupTold_124 rfl (lv_at hl 4 rfl) ?_
                              refine lv_iload F.1 F.2.1 dX7_groupTold_125 (lv_at hl 0 rfl) ?_
                              refine z_iconst F dX7_groupTold_127 ?_
                              refine z_iconst F dX7_groupTold_128 ?_
                              refine z_iconst F dX7_groupTold_129 ?_
                              refine g_callv (g_runV (As := [.int (iI n), .int (iI v_579), .int (iI 0), .int (iI 0), .int (iI 0)]) (rest := []) (ci := 7) F hl.1 hH hS hz (c_X7_setsPart l g gh T M I_573 R J_575 AI_119 AJ AR mo n v_579 0 0 0 zn zv_579 ⟨by decide, by decide⟩ ⟨by decide, by decide⟩ ⟨by decide, by decide⟩ hv hm hT (by omega) (by omega) (by omega)) (cwV 5 F.2.2.2.2.1 (good_up gT_X7_setsPart) rfl rfl rfl hdX7_setsPart ⟨Nat.le_of_ble_eq_true rfl, Nat.le_of_ble_eq_true rfl⟩) hm (by decide) rfl rfl rfl (Nat.le_of_ble_eq_true rfl) dX7_groupTold_130 ⟨Nat.zero_le _, Nat.zero_le _⟩) hS (fun I_791 R_792 J_793 AI_794 AJ_795 AR_796 H locs hp_797 hH hS => ?_)
                              dsimp only at hp_797
                              obtain ⟨rfl, rfl, rfl, rfl, rfl, hv, hT, hsp⟩ := hp_797
                              replace hsp := hid hsp
                              have hQ : mQ gh I_573 J_575 AI_794 AJ mo b nn nr nt cc (pCf b nn (cF b nn nr nt cc h) hc) hc := mQ_bad hQ (by omega) rfl
                              refine z_iinc (lv' := [(2, .int (iI (n + 1))), (6, .int (iI v_579)), (5, .int (iI 1)), (4, .int (iI mr)), (3, .int (iI had)), (1, .int (iI v_99)), (0, .ref mo)]) F dX7_groupTold_133 hl (k := 4) rfl (by decide) rfl (fun ls hl => ?_)
                              refine lv_aload_n F.1 F.2.1 dX7_groupTold_136 rfl (lv_at hl 6 rfl) ?_
                              refine z_bipush F dX7_groupTold_137 (by decide) ?_
                              refine g_calli (g_runV (As := [.int (iI 44)]) (rest := []) (ci := 7) F hl.1 hH hS hz (c_X7_isSignf l g gh T b nn nr nt cc (pCf b nn (cF b nn nr nt cc h) hc) hc I_573 R J_575 AI_794 AJ AR mo 44 ⟨by decide, by decide⟩ hv hm hT h65 hbM hr7 (by omega) hn9 (by omega) (by omega) hQ) (cwV 1 F.2.2.2.2.1 (good_up gT_X7_isSign) rfl rfl rfl hdX7_isSign ⟨Nat.le_of_ble_eq_true rfl, Nat.le_of_ble_eq_true rfl⟩) hm (by decide) rfl rfl rfl (Nat.le_of_ble_eq_true rfl) dX7_groupTold_139 ⟨Nat.zero_le _, Nat.zero_le _⟩) hS (fun v_804 I_798 R_799 J_800 AI_801 AJ_802 AR_803 H locs zv_804 hp_805 hH hS => ?_)
                              dsimp only at hp_805
                              obtain ⟨rfl, rfl, rfl, rfl, rfl, rfl, q_806, q_807⟩ := hp_805
                              replace q_806 := q_806.1
                              refine lv_istore (lv' := [(4, .int (iI v_804)), (2, .int (iI (n + 1))), (6, .int (iI v_579)), (5, .int (iI 1)), (3, .int (iI had)), (1, .int (iI v_99)), (0, .ref mo)]) F.1 F.2.1 dX7_groupTold_142 hl (by decide) rfl (fun ls hl => ?_)
                              refine lv_iload F.1 F.2.1 dX7_groupTold_144 (lv_at hl 0 rfl) ?_
                              refine z_if_eq (tgt := 153) F dX7_groupTold_146 (by decide) zv_804 (fun c_808 => ?_) (fun c_808 => ?_)
                              · have t_809 := tIz_0 q_807 (by omega)
                                refine z_goto (tgt := 18) F dX7_groupTold_153 (by decide) ?_
                                refine lv_iload F.1 F.2.1 dX7_groupTold_18 (lv_at hl 0 rfl) ?_
                                refine z_if_eq (tgt := 156) F dX7_groupTold_20 (by decide) zv_804 (fun c_810 => ?_) (fun c_810 => ?_)
                                · have t_811 := tIz_0 q_807 (by omega)
                                  have hTs : sBy b nn (cF b nn nr nt cc h) n L hc = (pCf b nn (cF b nn nr nt cc h) hc, hc, 0) := sBy_x (by omega)
                                  have hS9 : sBys b nn (cF b nn nr nt cc h) 4 0 [] (h + 2) = (pCf b nn (cF b nn nr nt cc h) hc, hc, 0) := sBys_no hsq (f := (3 - n).toNat) (by omega) hTs.symm (by omega)
                                  have hfin : thn (f, h, 0) (fun t _ => sGrp b nn nr nt cc t) = (pCf b nn (cF b nn nr nt cc h) hc, hc, 0) := (thn_k q0).trans (by show sGrp b nn nr nt cc h = _; unfold sGrp; exact thn_t sr_101 rfl (thn_t sr_114 rfl (thn_x hS9.symm (by omega))))
                                  exact cut_156_3 v_99 (n + 1) I_573 J_575 AI_794 H locs ls zv_99 ⟨by omega, by omega⟩ hv hT pf ⟨_, _, by omega, hQ, hfin⟩ (by omega) (by omega) hH hS (lv_sub hl [6, 5, 1] rfl)
                                · exact absurd trivial (by omega)
                              · exact absurd (tIz_1 q_807 (by omega)).1 (by omega)
                            · exact absurd (mQ_z hQ (by omega)) (by omega)
                        · refine lv_aload_n F.1 F.2.1 dX7_groupTold_84 rfl (lv_at hl 5 rfl) ?_
                          refine lv_iload F.1 F.2.1 dX7_groupTold_85 (lv_at hl 0 rfl) ?_
                          refine z_if_eq (tgt := 94) F dX7_groupTold_87 (by decide) ⟨by decide, by decide⟩ (fun c_812 => ?_) (fun c_812 => ?_)
                          · exact absurd trivial (by omega)
                          · refine z_iconst F dX7_groupTold_90 ?_
                            refine z_goto (tgt := 95) F dX7_groupTold_91 (by decide) ?_
                            refine g_callv (g_runV (As := [.int (iI 4)]) (rest := []) (ci := 7) F hl.1 hH hS hz (c_X7_wrongf l g gh T b nn nr nt cc 0 hc I_117 R J_118 AI_119 AJ AR mo 4 ⟨by decide, by decide⟩ hv hm hT (by omega) h65 hbM hr7 (by omega) hn9 (by omega) hQ) (cwV 1 F.2.2.2.2.1 (good_up gT_X7_wrong) rfl rfl rfl hdX7_wrong ⟨Nat.le_of_ble_eq_true rfl, Nat.le_of_ble_eq_true rfl⟩) hm (by decide) rfl rfl rfl (Nat.le_of_ble_eq_true rfl) dX7_groupTold_95 ⟨Nat.zero_le _, Nat.zero_le _⟩) hS (fun I_813 R_814 J_815 AI_816 AJ_817 AR_818 H locs hp_819 hH hS => ?_)
                            dsimp only at hp_819
                            obtain ⟨r_820, er_820⟩ : ∃ qQ : pR, qQ = thn (0, hc, 0) (fun t _ => (4, t, 0)) := ⟨_, rfl⟩
                            rw [← er_820] at hp_819
                            obtain ⟨rfl, rfl, rfl, rfl, rfl, hv, pfq, q_821, hQ⟩ := hp_819
                            have pf := qF_t pf pfq
                            have u_822_2 : (I_813 mo 2).toInt = (I mo 2).toInt := by rw [pf 2 (by decide) (by decide) (by decide) (by decide) (by decide)]
                            have u_822_5 : (I_813 mo 5).toInt = (I mo 5).toInt := by rw [pf 5 (by decide) (by decide) (by decide) (by decide) (by decide)]
                            have u_822_14 : (I_813 mo 14).toInt = (I mo 14).toInt := by rw [pf 14 (by decide) (by decide) (by decide) (by decide) (by decide)]
                            have u_822_16 : (I_813 mo 16).toInt = (I mo 16).toInt := by rw [pf 16 (by decide) (by decide) (by decide) (by decide) (by decide)]
                            have u_822_18 : (I_813 mo 18).toInt = (I mo 18).toInt := by rw [pf 18 (by decide) (by decide) (by decide) (by decide) (by decide)]
                            have er_820 : r_820 = (4, hc, 0) := er_820
                            have hQ : mQ gh I_813 J_118 AI_119 AJ mo b nn nr nt cc 4 hc := by rw [er_820] at hQ; exact hQ
                            have q9_r_820 : (4 : Int) ≠ 0 := by omega
                            have g9_r_820 := mQ_f hQ q9_r_820
                            refine lv_aload_n F.1 F.2.1 dX7_groupTold_98 rfl (lv_at hl 5 rfl) ?_
                            refine lv_aload_n F.1 F.2.1 dX7_groupTold_99 rfl (lv_at hl 5 rfl) ?_
                            refine lv_iload_n F.1 F.2.1 dX7_groupTold_100 rfl (lv_at hl 4 rfl) ?_
                            have b_824 := mJ hv hm
                            unfold mNum1 at b_824
                            refine g_calli (g_runV (As := [.int (iI v_99)]) (rest := [.ref mo]) (ci := 7) F hl.1 hH hS hz (c_X7_columns l g gh T I_813 R J_118 AI_119 AJ AR mo v_99 zv_99 hv hm hT (by omega)) (cwV 1 F.2.2.2.2.1 (good_up gT_X7_columns) rfl rfl rfl hdX7_columns ⟨Nat.le_of_ble_eq_true rfl, Nat.le_of_ble_eq_true rfl⟩) hm (by decide) rfl rfl rfl (Nat.le_of_ble_eq_true rfl) dX7_groupTold_101 ⟨Nat.zero_le _, Nat.zero_le _⟩) hS (fun v_831 I_825 R_826 J_827 AI_828 AJ_829 AR_830 H locs zv_831 hp_832 hH hS => ?_)
                            dsimp only at hp_832
                            obtain ⟨rfl, rfl, rfl, rfl, rfl, rfl, q_823⟩ := hp_832
                            refine g_calli (g_runV (As := [.int (iI v_831)]) (rest := []) (ci := 7) F hl.1 hH hS hz (c_X7_columnf l g gh T b nn nr nt cc 4 hc I_813 R J_118 AI_119 AJ AR mo v_831 zv_831 hv hm hT (by omega) h65 hbM hr7 (by omega) hn9 (by omega) hQ) (cwV 1 F.2.2.2.2.1 (good_up gT_X7_column) rfl rfl rfl hdX7_column ⟨Nat.le_of_ble_eq_true rfl, Nat.le_of_ble_eq_true rfl⟩) hm (by decide) rfl rfl rfl (Nat.le_of_ble_eq_true rfl) dX7_groupTold_104 ⟨Nat.zero_le _, Nat.zero_le _⟩) hS (fun v_839 I_833 R_834 J_835 AI_836 AJ_837 AR_838 H locs zv_839 hp_840 hH hS => ?_)
                            dsimp only at hp_840
                            obtain ⟨r_841, er_841⟩ : ∃ qQ : pR, qQ = thn (4, hc, 0) (fun t _ => sCol b nn v_831 t) := ⟨_, rfl⟩
                            rw [← er_841] at hp_840
                            obtain ⟨rfl, rfl, rfl, rfl, hv, pfq, q_842, q_843, hQ, q_844⟩ := hp_840
                            have pf := qF_t pf pfq
                            have u_845_2 : (I_833 mo 2).toInt = (I mo 2).toInt := by rw [pf 2 (by decide) (by decide) (by decide) (by decide) (by decide)]
                            have u_845_5 : (I_833 mo 5).toInt = (I mo 5).toInt := by rw [pf 5 (by decide) (by decide) (by decide) (by decide) (by decide)]
                            have u_845_14 : (I_833 mo 14).toInt = (I mo 14).toInt := by rw [pf 14 (by decide) (by decide) (by decide) (by decide) (by decide)]
                            have u_845_16 : (I_833 mo 16).toInt = (I mo 16).toInt := by rw [pf 16 (by decide) (by decide) (by decide) (by decide) (by decide)]
                            have u_845_18 : (I_833 mo 18).toInt = (I mo 18).toInt := by rw [pf 18 (by decide) (by decide) (by decide) (by decide) (by decide)]
                            rw [thn_b (by omega)] at er_841
                            have hQ : mQ gh I_833 J_835 AI_119 AJ mo b nn nr nt cc 4 hc := by rw [er_841] at hQ; exact hQ
                            replace q_843 := hid q_843
                            obtain ⟨f1, ef1⟩ : ∃ q, q = (I_833 mo 24).toInt := ⟨_, rfl⟩
                            have hc1 : Hid (f1 = 0 → 0 ≤ v_839 ∧ v_839 ≤ 3) := fun h9 => by omega
                            refine lv_istore (lv' := [(6, .int (iI v_839)), (5, .int (iI 1)), (4, .int (iI mr)), (3, .int (iI had)), (2, .int (iI n)), (1, .int (iI v_99)), (0, .ref mo)]) F.1 F.2.1 dX7_groupTold_107 hl (by decide) rfl (fun ls hl => ?_)
                            refine lv_aload_n F.1 F.2.1 dX7_groupTold_109 rfl (lv_at hl 6 rfl) ?_
                            refine g_getI (ci := 7) (k := 24) F hH rfl (by decide) iX7 hm (by decide) rfl k81 dX7_groupTold_110 ?_
                            have b_846 := mJ hv hm
                            unfold mNum1 at b_846
                            refine z_if_ne (tgt := 123) F dX7_groupTold_113 (by decide) (zr_t _) (fun c_847 => ?_) (fun c_847 => ?_)
                            · refine lv_aload_n F.1 F.2.1 dX7_groupTold_123 rfl (lv_at hl 6 rfl) ?_
                              refine lv_iload_n F.1 F.2.1 dX7_groupTold_124 rfl (lv_at hl 4 rfl) ?_
                              refine lv_iload F.1 F.2.1 dX7_groupTold_125 (lv_at hl 0 rfl) ?_
                              refine z_iconst F dX7_groupTold_127 ?_
                              refine z_iconst F dX7_groupTold_128 ?_
                              refine z_iconst F dX7_groupTold_129 ?_
                              refine g_callv (g_runV (As := [.int (iI n), .int (iI v_839), .int (iI 0), .int (iI 0), .int (iI 0)]) (rest := []) (ci := 7) F hl.1 hH hS hz (c_X7_setsPart l g gh T M I_833 R J_835 AI_119 AJ AR mo n v_839 0 0 0 zn zv_839 ⟨by decide, by decide⟩ ⟨by decide, by decide⟩ ⟨by decide, by decide⟩ hv hm hT (by omega) (by omega) (by omega)) (cwV 5 F.2.2.2.2.1 (good_up gT_X7_setsPart) rfl rfl rfl hdX7_setsPart ⟨Nat.le_of_ble_eq_true rfl, Nat.le_of_ble_eq_true rfl⟩) hm (by decide) rfl rfl rfl (Nat.le_of_ble_eq_true rfl) dX7_groupTold_130 ⟨Nat.zero_le _, Nat.zero_le _⟩) hS (fun I_848 R_849 J_850 AI_851 AJ_852 AR_853 H locs hp_854 hH hS => ?_)
                              dsimp only at hp_854
                              obtain ⟨rfl, rfl, rfl, rfl, rfl, hv, hT, hsp⟩ := hp_854
                              replace hsp := hid hsp
                              have hQ : mQ gh I_833 J_835 AI_851 AJ mo b nn nr nt cc 4 hc := mQ_bad hQ (by omega) rfl
                              refine z_iinc (lv' := [(2, .int (iI (n + 1))), (6, .int (iI v_839)), (5, .int (iI 1)), (4, .int (iI mr)), (3, .int (iI had)), (1, .int (iI v_99)), (0, .ref mo)]) F dX7_groupTold_133 hl (k := 4) rfl (by decide) rfl (fun ls hl => ?_)
                              refine lv_aload_n F.1 F.2.1 dX7_groupTold_136 rfl (lv_at hl 6 rfl) ?_
                              refine z_bipush F dX7_groupTold_137 (by decide) ?_
                              refine g_calli (g_runV (As := [.int (iI 44)]) (rest := []) (ci := 7) F hl.1 hH hS hz (c_X7_isSignf l g gh T b nn nr nt cc 4 hc I_833 R J_835 AI_851 AJ AR mo 44 ⟨by decide, by decide⟩ hv hm hT h65 hbM hr7 (by omega) hn9 (by omega) (by omega) hQ) (cwV 1 F.2.2.2.2.1 (good_up gT_X7_isSign) rfl rfl rfl hdX7_isSign ⟨Nat.le_of_ble_eq_true rfl, Nat.le_of_ble_eq_true rfl⟩) hm (by decide) rfl rfl rfl (Nat.le_of_ble_eq_true rfl) dX7_groupTold_139 ⟨Nat.zero_le _, Nat.zero_le _⟩) hS (fun v_861 I_855 R_856 J_857 AI_858 AJ_859 AR_860 H locs zv_861 hp_862 hH hS => ?_)
                              dsimp only at hp_862
                              obtain ⟨rfl, rfl, rfl, rfl, rfl, rfl, q_863, q_864⟩ := hp_862
                              replace q_863 := q_863.1
                              refine lv_istore (lv' := [(4, .int (iI v_861)), (2, .int (iI (n + 1))), (6, .int (iI v_839)), (5, .int (iI 1)), (3, .int (iI had)), (1, .int (iI v_99)), (0, .ref mo)]) F.1 F.2.1 dX7_groupTold_142 hl (by decide) rfl (fun ls hl => ?_)
                              refine lv_iload F.1 F.2.1 dX7_groupTold_144 (lv_at hl 0 rfl) ?_
                              refine z_if_eq (tgt := 153) F dX7_groupTold_146 (by decide) zv_861 (fun c_865 => ?_) (fun c_865 => ?_)
                              · have t_866 := tIz_0 q_864 (by omega)
                                refine z_goto (tgt := 18) F dX7_groupTold_153 (by decide) ?_
                                refine lv_iload F.1 F.2.1 dX7_groupTold_18 (lv_at hl 0 rfl) ?_
                                refine z_if_eq (tgt := 156) F dX7_groupTold_20 (by decide) zv_861 (fun c_867 => ?_) (fun c_867 => ?_)
                                · have t_868 := tIz_0 q_864 (by omega)
                                  have hTs : sBy b nn (cF b nn nr nt cc h) n L hc = (4, hc, 0) := sBy_4 (pCf_ok (by omega) (by omega)) hmem (by omega)
                                  have hS9 : sBys b nn (cF b nn nr nt cc h) 4 0 [] (h + 2) = (4, hc, 0) := sBys_no hsq (f := (3 - n).toNat) (by omega) hTs.symm (by omega)
                                  have hfin : thn (f, h, 0) (fun t _ => sGrp b nn nr nt cc t) = (4, hc, 0) := (thn_k q0).trans (by show sGrp b nn nr nt cc h = _; unfold sGrp; exact thn_t sr_101 rfl (thn_t sr_114 rfl (thn_x hS9.symm (by omega))))
                                  exact cut_156_3 v_99 (n + 1) I_833 J_835 AI_851 H locs ls zv_99 ⟨by omega, by omega⟩ hv hT pf ⟨_, _, by omega, hQ, hfin⟩ (by omega) (by omega) hH hS (lv_sub hl [6, 5, 1] rfl)
                                · exact absurd trivial (by omega)
                              · exact absurd (tIz_1 q_864 (by omega)).1 (by omega)
                            · exact absurd (mQ_z hQ (by omega)) (by omega)
                      · have hmem : pV b nn hc ∈ L := (hcn _ (by omega) (by omega)).mp (by omega)
                        refine lv_aload_n F.1 F.2.1 dX7_groupTold_74 rfl (lv_at hl 5 rfl) ?_
                        refine z_iconst F dX7_groupTold_75 ?_
                        refine g_callv (g_runV (As := [.int (iI 2)]) (rest := []) (ci := 7) F hl.1 hH hS hz (c_X7_wrongf l g gh T b nn nr nt cc 0 hc I_117 R J_118 AI_119 AJ AR mo 2 ⟨by decide, by decide⟩ hv hm hT (by omega) h65 hbM hr7 (by omega) hn9 (by omega) hQ) (cwV 1 F.2.2.2.2.1 (good_up gT_X7_wrong) rfl rfl rfl hdX7_wrong ⟨Nat.le_of_ble_eq_true rfl, Nat.le_of_ble_eq_true rfl⟩) hm (by decide) rfl rfl rfl (Nat.le_of_ble_eq_true rfl) dX7_groupTold_76 ⟨Nat.zero_le _, Nat.zero_le _⟩) hS (fun I_869 R_870 J_871 AI_872 AJ_873 AR_874 H locs hp_875 hH hS => ?_)
                        dsimp only at hp_875
                        obtain ⟨r_876, er_876⟩ : ∃ qQ : pR, qQ = thn (0, hc, 0) (fun t _ => (2, t, 0)) := ⟨_, rfl⟩
                        rw [← er_876] at hp_875
                        obtain ⟨rfl, rfl, rfl, rfl, rfl, hv, pfq, q_877, hQ⟩ := hp_875
                        have pf := qF_t pf pfq
                        have u_878_2 : (I_869 mo 2).toInt = (I mo 2).toInt := by rw [pf 2 (by decide) (by decide) (by decide) (by decide) (by decide)]
                        have u_878_5 : (I_869 mo 5).toInt = (I mo 5).toInt := by rw [pf 5 (by decide) (by decide) (by decide) (by decide) (by decide)]
                        have u_878_14 : (I_869 mo 14).toInt = (I mo 14).toInt := by rw [pf 14 (by decide) (by decide) (by decide) (by decide) (by decide)]
                        have u_878_16 : (I_869 mo 16).toInt = (I mo 16).toInt := by rw [pf 16 (by decide) (by decide) (by decide) (by decide) (by decide)]
                        have u_878_18 : (I_869 mo 18).toInt = (I mo 18).toInt := by rw [pf 18 (by decide) (by decide) (by decide) (by decide) (by decide)]
                        have er_876 : r_876 = (2, hc, 0) := er_876
                        have hQ : mQ gh I_869 J_118 AI_119 AJ mo b nn nr nt cc 2 hc := by rw [er_876] at hQ; exact hQ
                        have q9_r_876 : (2 : Int) ≠ 0 := by omega
                        have g9_r_876 := mQ_f hQ q9_r_876
                        refine lv_iload_n F.1 F.2.1 dX7_groupTold_79 rfl (lv_at hl 3 rfl) ?_
                        refine z_iconst F dX7_groupTold_80 ?_
                        refine z_icmp_ne (tgt := 98) F dX7_groupTold_81 (by decide) zn ⟨by decide, by decide⟩ (fun c_879 => ?_) (fun c_879 => ?_)
                        · refine lv_aload_n F.1 F.2.1 dX7_groupTold_98 rfl (lv_at hl 5 rfl) ?_
                          refine lv_aload_n F.1 F.2.1 dX7_groupTold_99 rfl (lv_at hl 5 rfl) ?_
                          refine lv_iload_n F.1 F.2.1 dX7_groupTold_100 rfl (lv_at hl 4 rfl) ?_
                          have b_881 := mJ hv hm
                          unfold mNum1 at b_881
                          refine g_calli (g_runV (As := [.int (iI v_99)]) (rest := [.ref mo]) (ci := 7) F hl.1 hH hS hz (c_X7_columns l g gh T I_869 R J_118 AI_119 AJ AR mo v_99 zv_99 hv hm hT (by omega)) (cwV 1 F.2.2.2.2.1 (good_up gT_X7_columns) rfl rfl rfl hdX7_columns ⟨Nat.le_of_ble_eq_true rfl, Nat.le_of_ble_eq_true rfl⟩) hm (by decide) rfl rfl rfl (Nat.le_of_ble_eq_true rfl) dX7_groupTold_101 ⟨Nat.zero_le _, Nat.zero_le _⟩) hS (fun v_888 I_882 R_883 J_884 AI_885 AJ_886 AR_887 H locs zv_888 hp_889 hH hS => ?_)
                          dsimp only at hp_889
                          obtain ⟨rfl, rfl, rfl, rfl, rfl, rfl, q_880⟩ := hp_889
                          refine g_calli (g_runV (As := [.int (iI v_888)]) (rest := []) (ci := 7) F hl.1 hH hS hz (c_X7_columnf l g gh T b nn nr nt cc 2 hc I_869 R J_118 AI_119 AJ AR mo v_888 zv_888 hv hm hT (by omega) h65 hbM hr7 (by omega) hn9 (by omega) hQ) (cwV 1 F.2.2.2.2.1 (good_up gT_X7_column) rfl rfl rfl hdX7_column ⟨Nat.le_of_ble_eq_true rfl, Nat.le_of_ble_eq_true rfl⟩) hm (by decide) rfl rfl rfl (Nat.le_of_ble_eq_true rfl) dX7_groupTold_104 ⟨Nat.zero_le _, Nat.zero_le _⟩) hS (fun v_896 I_890 R_891 J_892 AI_893 AJ_894 AR_895 H locs zv_896 hp_897 hH hS => ?_)
                          dsimp only at hp_897
                          obtain ⟨r_898, er_898⟩ : ∃ qQ : pR, qQ = thn (2, hc, 0) (fun t _ => sCol b nn v_888 t) := ⟨_, rfl⟩
                          rw [← er_898] at hp_897
                          obtain ⟨rfl, rfl, rfl, rfl, hv, pfq, q_899, q_900, hQ, q_901⟩ := hp_897
                          have pf := qF_t pf pfq
                          have u_902_2 : (I_890 mo 2).toInt = (I mo 2).toInt := by rw [pf 2 (by decide) (by decide) (by decide) (by decide) (by decide)]
                          have u_902_5 : (I_890 mo 5).toInt = (I mo 5).toInt := by rw [pf 5 (by decide) (by decide) (by decide) (by decide) (by decide)]
                          have u_902_14 : (I_890 mo 14).toInt = (I mo 14).toInt := by rw [pf 14 (by decide) (by decide) (by decide) (by decide) (by decide)]
                          have u_902_16 : (I_890 mo 16).toInt = (I mo 16).toInt := by rw [pf 16 (by decide) (by decide) (by decide) (by decide) (by decide)]
                          have u_902_18 : (I_890 mo 18).toInt = (I mo 18).toInt := by rw [pf 18 (by decide) (by decide) (by decide) (by decide) (by decide)]
                          rw [thn_b (by omega)] at er_898
                          have hQ : mQ gh I_890 J_892 AI_119 AJ mo b nn nr nt cc 2 hc := by rw [er_898] at hQ; exact hQ
                          replace q_900 := hid q_900
                          obtain ⟨f1, ef1⟩ : ∃ q, q = (I_890 mo 24).toInt := ⟨_, rfl⟩
                          have hc1 : Hid (f1 = 0 → 0 ≤ v_896 ∧ v_896 ≤ 3) := fun h9 => by omega
                          refine lv_istore (lv' := [(6, .int (iI v_896)), (5, .int (iI 1)), (4, .int (iI mr)), (3, .int (iI had)), (2, .int (iI n)), (1, .int (iI v_99)), (0, .ref mo)]) F.1 F.2.1 dX7_groupTold_107 hl (by decide) rfl (fun ls hl => ?_)
                          refine lv_aload_n F.1 F.2.1 dX7_groupTold_109 rfl (lv_at hl 6 rfl) ?_
                          refine g_getI (ci := 7) (k := 24) F hH rfl (by decide) iX7 hm (by decide) rfl k81 dX7_groupTold_110 ?_
                          have b_903 := mJ hv hm
                          unfold mNum1 at b_903
                          refine z_if_ne (tgt := 123) F dX7_groupTold_113 (by decide) (zr_t _) (fun c_904 => ?_) (fun c_904 => ?_)
                          · refine lv_aload_n F.1 F.2.1 dX7_groupTold_123 rfl (lv_at hl 6 rfl) ?_
                            refine lv_iload_n F.1 F.2.1 dX7_groupTold_124 rfl (lv_at hl 4 rfl) ?_
                            refine lv_iload F.1 F.2.1 dX7_groupTold_125 (lv_at hl 0 rfl) ?_
                            refine z_iconst F dX7_groupTold_127 ?_
                            refine z_iconst F dX7_groupTold_128 ?_
                            refine z_iconst F dX7_groupTold_129 ?_
                            refine g_callv (g_runV (As := [.int (iI n), .int (iI v_896), .int (iI 0), .int (iI 0), .int (iI 0)]) (rest := []) (ci := 7) F hl.1 hH hS hz (c_X7_setsPart l g gh T M I_890 R J_892 AI_119 AJ AR mo n v_896 0 0 0 zn zv_896 ⟨by decide, by decide⟩ ⟨by decide, by decide⟩ ⟨by decide, by decide⟩ hv hm hT (by omega) (by omega) (by omega)) (cwV 5 F.2.2.2.2.1 (good_up gT_X7_setsPart) rfl rfl rfl hdX7_setsPart ⟨Nat.le_of_ble_eq_true rfl, Nat.le_of_ble_eq_true rfl⟩) hm (by decide) rfl rfl rfl (Nat.le_of_ble_eq_true rfl) dX7_groupTold_130 ⟨Nat.zero_le _, Nat.zero_le _⟩) hS (fun I_905 R_906 J_907 AI_908 AJ_909 AR_910 H locs hp_911 hH hS => ?_)
                            dsimp only at hp_911
                            obtain ⟨rfl, rfl, rfl, rfl, rfl, hv, hT, hsp⟩ := hp_911
                            replace hsp := hid hsp
                            have hQ : mQ gh I_890 J_892 AI_908 AJ mo b nn nr nt cc 2 hc := mQ_bad hQ (by omega) rfl
                            refine z_iinc (lv' := [(2, .int (iI (n + 1))), (6, .int (iI v_896)), (5, .int (iI 1)), (4, .int (iI mr)), (3, .int (iI had)), (1, .int (iI v_99)), (0, .ref mo)]) F dX7_groupTold_133 hl (k := 4) rfl (by decide) rfl (fun ls hl => ?_)
                            refine lv_aload_n F.1 F.2.1 dX7_groupTold_136 rfl (lv_at hl 6 rfl) ?_
                            refine z_bipush F dX7_groupTold_137 (by decide) ?_
                            refine g_calli (g_runV (As := [.int (iI 44)]) (rest := []) (ci := 7) F hl.1 hH hS hz (c_X7_isSignf l g gh T b nn nr nt cc 2 hc I_890 R J_892 AI_908 AJ AR mo 44 ⟨by decide, by decide⟩ hv hm hT h65 hbM hr7 (by omega) hn9 (by omega) (by omega) hQ) (cwV 1 F.2.2.2.2.1 (good_up gT_X7_isSign) rfl rfl rfl hdX7_isSign ⟨Nat.le_of_ble_eq_true rfl, Nat.le_of_ble_eq_true rfl⟩) hm (by decide) rfl rfl rfl (Nat.le_of_ble_eq_true rfl) dX7_groupTold_139 ⟨Nat.zero_le _, Nat.zero_le _⟩) hS (fun v_918 I_912 R_913 J_914 AI_915 AJ_916 AR_917 H locs zv_918 hp_919 hH hS => ?_)
                            dsimp only at hp_919
                            obtain ⟨rfl, rfl, rfl, rfl, rfl, rfl, q_920, q_921⟩ := hp_919
                            replace q_920 := q_920.1
                            refine lv_istore (lv' := [(4, .int (iI v_918)), (2, .int (iI (n + 1))), (6, .int (iI v_896)), (5, .int (iI 1)), (3, .int (iI had)), (1, .int (iI v_99)), (0, .ref mo)]) F.1 F.2.1 dX7_groupTold_142 hl (by decide) rfl (fun ls hl => ?_)
                            refine lv_iload F.1 F.2.1 dX7_groupTold_144 (lv_at hl 0 rfl) ?_
                            refine z_if_eq (tgt := 153) F dX7_groupTold_146 (by decide) zv_918 (fun c_922 => ?_) (fun c_922 => ?_)
                            · have t_923 := tIz_0 q_921 (by omega)
                              refine z_goto (tgt := 18) F dX7_groupTold_153 (by decide) ?_
                              refine lv_iload F.1 F.2.1 dX7_groupTold_18 (lv_at hl 0 rfl) ?_
                              refine z_if_eq (tgt := 156) F dX7_groupTold_20 (by decide) zv_918 (fun c_924 => ?_) (fun c_924 => ?_)
                              · have t_925 := tIz_0 q_921 (by omega)
                                have hTs : sBy b nn (cF b nn nr nt cc h) n L hc = (2, hc, 0) := sBy_2 (pCf_ok (by omega) (by omega)) hmem
                                have hS9 : sBys b nn (cF b nn nr nt cc h) 4 0 [] (h + 2) = (2, hc, 0) := sBys_no hsq (f := (3 - n).toNat) (by omega) hTs.symm (by omega)
                                have hfin : thn (f, h, 0) (fun t _ => sGrp b nn nr nt cc t) = (2, hc, 0) := (thn_k q0).trans (by show sGrp b nn nr nt cc h = _; unfold sGrp; exact thn_t sr_101 rfl (thn_t sr_114 rfl (thn_x hS9.symm (by omega))))
                                exact cut_156_3 v_99 (n + 1) I_890 J_892 AI_908 H locs ls zv_99 ⟨by omega, by omega⟩ hv hT pf ⟨_, _, by omega, hQ, hfin⟩ (by omega) (by omega) hH hS (lv_sub hl [6, 5, 1] rfl)
                              · exact absurd trivial (by omega)
                            · exact absurd (tIz_1 q_921 (by omega)).1 (by omega)
                          · exact absurd (mQ_z hQ (by omega)) (by omega)
                        · refine lv_aload_n F.1 F.2.1 dX7_groupTold_84 rfl (lv_at hl 5 rfl) ?_
                          refine lv_iload F.1 F.2.1 dX7_groupTold_85 (lv_at hl 0 rfl) ?_
                          refine z_if_eq (tgt := 94) F dX7_groupTold_87 (by decide) ⟨by decide, by decide⟩ (fun c_926 => ?_) (fun c_926 => ?_)
                          · exact absurd trivial (by omega)
                          · refine z_iconst F dX7_groupTold_90 ?_
                            refine z_goto (tgt := 95) F dX7_groupTold_91 (by decide) ?_
                            have b_927 := mJ hv hm
                            unfold mNum1 at b_927
                            refine g_callv (g_runV (As := [.int (iI 4)]) (rest := []) (ci := 7) F hl.1 hH hS hz (c_X7_wrongf l g gh T b nn nr nt cc 2 hc I_869 R J_118 AI_119 AJ AR mo 4 ⟨by decide, by decide⟩ hv hm hT (by omega) h65 hbM hr7 (by omega) hn9 (by omega) hQ) (cwV 1 F.2.2.2.2.1 (good_up gT_X7_wrong) rfl rfl rfl hdX7_wrong ⟨Nat.le_of_ble_eq_true rfl, Nat.le_of_ble_eq_true rfl⟩) hm (by decide) rfl rfl rfl (Nat.le_of_ble_eq_true rfl) dX7_groupTold_95 ⟨Nat.zero_le _, Nat.zero_le _⟩) hS (fun I_928 R_929 J_930 AI_931 AJ_932 AR_933 H locs hp_934 hH hS => ?_)
                            dsimp only at hp_934
                            obtain ⟨r_935, er_935⟩ : ∃ qQ : pR, qQ = thn (2, hc, 0) (fun t _ => (4, t, 0)) := ⟨_, rfl⟩
                            rw [← er_935] at hp_934
                            obtain ⟨rfl, rfl, rfl, rfl, rfl, hv, pfq, q_936, hQ⟩ := hp_934
                            have pf := qF_t pf pfq
                            have u_937_2 : (I_928 mo 2).toInt = (I mo 2).toInt := by rw [pf 2 (by decide) (by decide) (by decide) (by decide) (by decide)]
                            have u_937_5 : (I_928 mo 5).toInt = (I mo 5).toInt := by rw [pf 5 (by decide) (by decide) (by decide) (by decide) (by decide)]
                            have u_937_14 : (I_928 mo 14).toInt = (I mo 14).toInt := by rw [pf 14 (by decide) (by decide) (by decide) (by decide) (by decide)]
                            have u_937_16 : (I_928 mo 16).toInt = (I mo 16).toInt := by rw [pf 16 (by decide) (by decide) (by decide) (by decide) (by decide)]
                            have u_937_18 : (I_928 mo 18).toInt = (I mo 18).toInt := by rw [pf 18 (by decide) (by decide) (by decide) (by decide) (by decide)]
                            rw [thn_b (by omega)] at er_935
                            have hQ : mQ gh I_928 J_118 AI_119 AJ mo b nn nr nt cc 2 hc := by rw [er_935] at hQ; exact hQ
                            refine lv_aload_n F.1 F.2.1 dX7_groupTold_98 rfl (lv_at hl 5 rfl) ?_
                            refine lv_aload_n F.1 F.2.1 dX7_groupTold_99 rfl (lv_at hl 5 rfl) ?_
                            refine lv_iload_n F.1 F.2.1 dX7_groupTold_100 rfl (lv_at hl 4 rfl) ?_
                            have b_939 := mJ hv hm
                            unfold mNum1 at b_939
                            refine g_calli (g_runV (As := [.int (iI v_99)]) (rest := [.ref mo]) (ci := 7) F hl.1 hH hS hz (c_X7_columns l g gh T I_928 R J_118 AI_119 AJ AR mo v_99 zv_99 hv hm hT (by omega)) (cwV 1 F.2.2.2.2.1 (good_up gT_X7_columns) rfl rfl rfl hdX7_columns ⟨Nat.le_of_ble_eq_true rfl, Nat.le_of_ble_eq_true rfl⟩) hm (by decide) rfl rfl rfl (Nat.le_of_ble_eq_true rfl) dX7_groupTold_101 ⟨Nat.zero_le _, Nat.zero_le _⟩) hS (fun v_946 I_940 R_941 J_942 AI_943 AJ_944 AR_945 H locs zv_946 hp_947 hH hS => ?_)
                            dsimp only at hp_947
                            obtain ⟨rfl, rfl, rfl, rfl, rfl, rfl, q_938⟩ := hp_947
                            refine g_calli (g_runV (As := [.int (iI v_946)]) (rest := []) (ci := 7) F hl.1 hH hS hz (c_X7_columnf l g gh T b nn nr nt cc 2 hc I_928 R J_118 AI_119 AJ AR mo v_946 zv_946 hv hm hT (by omega) h65 hbM hr7 (by omega) hn9 (by omega) hQ) (cwV 1 F.2.2.2.2.1 (good_up gT_X7_column) rfl rfl rfl hdX7_column ⟨Nat.le_of_ble_eq_true rfl, Nat.le_of_ble_eq_true rfl⟩) hm (by decide) rfl rfl rfl (Nat.le_of_ble_eq_true rfl) dX7_groupTold_104 ⟨Nat.zero_le _, Nat.zero_le _⟩) hS (fun v_954 I_948 R_949 J_950 AI_951 AJ_952 AR_953 H locs zv_954 hp_955 hH hS => ?_)
                            dsimp only at hp_955
                            obtain ⟨r_956, er_956⟩ : ∃ qQ : pR, qQ = thn (2, hc, 0) (fun t _ => sCol b nn v_946 t) := ⟨_, rfl⟩
                            rw [← er_956] at hp_955
                            obtain ⟨rfl, rfl, rfl, rfl, hv, pfq, q_957, q_958, hQ, q_959⟩ := hp_955
                            have pf := qF_t pf pfq
                            have u_960_2 : (I_948 mo 2).toInt = (I mo 2).toInt := by rw [pf 2 (by decide) (by decide) (by decide) (by decide) (by decide)]
                            have u_960_5 : (I_948 mo 5).toInt = (I mo 5).toInt := by rw [pf 5 (by decide) (by decide) (by decide) (by decide) (by decide)]
                            have u_960_14 : (I_948 mo 14).toInt = (I mo 14).toInt := by rw [pf 14 (by decide) (by decide) (by decide) (by decide) (by decide)]
                            have u_960_16 : (I_948 mo 16).toInt = (I mo 16).toInt := by rw [pf 16 (by decide) (by decide) (by decide) (by decide) (by decide)]
                            have u_960_18 : (I_948 mo 18).toInt = (I mo 18).toInt := by rw [pf 18 (by decide) (by decide) (by decide) (by decide) (by decide)]
                            rw [thn_b (by omega)] at er_956
                            have hQ : mQ gh I_948 J_950 AI_119 AJ mo b nn nr nt cc 2 hc := by rw [er_956] at hQ; exact hQ
                            replace q_958 := hid q_958
                            obtain ⟨f1, ef1⟩ : ∃ q, q = (I_948 mo 24).toInt := ⟨_, rfl⟩
                            have hc1 : Hid (f1 = 0 → 0 ≤ v_954 ∧ v_954 ≤ 3) := fun h9 => by omega
                            refine lv_istore (lv' := [(6, .int (iI v_954)), (5, .int (iI 1)), (4, .int (iI mr)), (3, .int (iI had)), (2, .int (iI n)), (1, .int (iI v_99)), (0, .ref mo)]) F.1 F.2.1 dX7_groupTold_107 hl (by decide) rfl (fun ls hl => ?_)
                            refine lv_aload_n F.1 F.2.1 dX7_groupTold_109 rfl (lv_at hl 6 rfl) ?_
                            refine g_getI (ci := 7) (k := 24) F hH rfl (by decide) iX7 hm (by decide) rfl k81 dX7_groupTold_110 ?_
                            have b_961 := mJ hv hm
                            unfold mNum1 at b_961
                            refine z_if_ne (tgt := 123) F dX7_groupTold_113 (by decide) (zr_t _) (fun c_962 => ?_) (fun c_962 => ?_)
                            · refine lv_aload_n F.1 F.2.1 dX7_groupTold_123 rfl (lv_at hl 6 rfl) ?_
                              refine lv_iload_n F.1 F.2.1 dX7_groupTold_124 rfl (lv_at hl 4 rfl) ?_
                              refine lv_iload F.1 F.2.1 dX7_groupTold_125 (lv_at hl 0 rfl) ?_
                              refine z_iconst F dX7_groupTold_127 ?_
                              refine z_iconst F dX7_groupTold_128 ?_
                              refine z_iconst F dX7_groupTold_129 ?_
                              refine g_callv (g_runV (As := [.int (iI n), .int (iI v_954), .int (iI 0), .int (iI 0), .int (iI 0)]) (rest := []) (ci := 7) F hl.1 hH hS hz (c_X7_setsPart l g gh T M I_948 R J_950 AI_119 AJ AR mo n v_954 0 0 0 zn zv_954 ⟨by decide, by decide⟩ ⟨by decide, by decide⟩ ⟨by decide, by decide⟩ hv hm hT (by omega) (by omega) (by omega)) (cwV 5 F.2.2.2.2.1 (good_up gT_X7_setsPart) rfl rfl rfl hdX7_setsPart ⟨Nat.le_of_ble_eq_true rfl, Nat.le_of_ble_eq_true rfl⟩) hm (by decide) rfl rfl rfl (Nat.le_of_ble_eq_true rfl) dX7_groupTold_130 ⟨Nat.zero_le _, Nat.zero_le _⟩) hS (fun I_963 R_964 J_965 AI_966 AJ_967 AR_968 H locs hp_969 hH hS => ?_)
                              dsimp only at hp_969
                              obtain ⟨rfl, rfl, rfl, rfl, rfl, hv, hT, hsp⟩ := hp_969
                              replace hsp := hid hsp
                              have hQ : mQ gh I_948 J_950 AI_966 AJ mo b nn nr nt cc 2 hc := mQ_bad hQ (by omega) rfl
                              refine z_iinc (lv' := [(2, .int (iI (n + 1))), (6, .int (iI v_954)), (5, .int (iI 1)), (4, .int (iI mr)), (3, .int (iI had)), (1, .int (iI v_99)), (0, .ref mo)]) F dX7_groupTold_133 hl (k := 4) rfl (by decide) rfl (fun ls hl => ?_)
                              refine lv_aload_n F.1 F.2.1 dX7_groupTold_136 rfl (lv_at hl 6 rfl) ?_
                              refine z_bipush F dX7_groupTold_137 (by decide) ?_
                              refine g_calli (g_runV (As := [.int (iI 44)]) (rest := []) (ci := 7) F hl.1 hH hS hz (c_X7_isSignf l g gh T b nn nr nt cc 2 hc I_948 R J_950 AI_966 AJ AR mo 44 ⟨by decide, by decide⟩ hv hm hT h65 hbM hr7 (by omega) hn9 (by omega) (by omega) hQ) (cwV 1 F.2.2.2.2.1 (good_up gT_X7_isSign) rfl rfl rfl hdX7_isSign ⟨Nat.le_of_ble_eq_true rfl, Nat.le_of_ble_eq_true rfl⟩) hm (by decide) rfl rfl rfl (Nat.le_of_ble_eq_true rfl) dX7_groupTold_139 ⟨Nat.zero_le _, Nat.zero_le _⟩) hS (fun v_976 I_970 R_971 J_972 AI_973 AJ_974 AR_975 H locs zv_976 hp_977 hH hS => ?_)
                              dsimp only at hp_977
                              obtain ⟨rfl, rfl, rfl, rfl, rfl, rfl, q_978, q_979⟩ := hp_977
                              replace q_978 := q_978.1
                              refine lv_istore (lv' := [(4, .int (iI v_976)), (2, .int (iI (n + 1))), (6, .int (iI v_954)), (5, .int (iI 1)), (3, .int (iI had)), (1, .int (iI v_99)), (0, .ref mo)]) F.1 F.2.1 dX7_groupTold_142 hl (by decide) rfl (fun ls hl => ?_)
                              refine lv_iload F.1 F.2.1 dX7_groupTold_144 (lv_at hl 0 rfl) ?_
                              refine z_if_eq (tgt := 153) F dX7_groupTold_146 (by decide) zv_976 (fun c_980 => ?_) (fun c_980 => ?_)
                              · have t_981 := tIz_0 q_979 (by omega)
                                refine z_goto (tgt := 18) F dX7_groupTold_153 (by decide) ?_
                                refine lv_iload F.1 F.2.1 dX7_groupTold_18 (lv_at hl 0 rfl) ?_
                                refine z_if_eq (tgt := 156) F dX7_groupTold_20 (by decide) zv_976 (fun c_982 => ?_) (fun c_982 => ?_)
                                · have t_983 := tIz_0 q_979 (by omega)
                                  have hTs : sBy b nn (cF b nn nr nt cc h) n L hc = (2, hc, 0) := sBy_2 (pCf_ok (by omega) (by omega)) hmem
                                  have hS9 : sBys b nn (cF b nn nr nt cc h) 4 0 [] (h + 2) = (2, hc, 0) := sBys_no hsq (f := (3 - n).toNat) (by omega) hTs.symm (by omega)
                                  have hfin : thn (f, h, 0) (fun t _ => sGrp b nn nr nt cc t) = (2, hc, 0) := (thn_k q0).trans (by show sGrp b nn nr nt cc h = _; unfold sGrp; exact thn_t sr_101 rfl (thn_t sr_114 rfl (thn_x hS9.symm (by omega))))
                                  exact cut_156_3 v_99 (n + 1) I_948 J_950 AI_966 H locs ls zv_99 ⟨by omega, by omega⟩ hv hT pf ⟨_, _, by omega, hQ, hfin⟩ (by omega) (by omega) hH hS (lv_sub hl [6, 5, 1] rfl)
                                · exact absurd trivial (by omega)
                              · exact absurd (tIz_1 q_979 (by omega)).1 (by omega)
                            · exact absurd (mQ_z hQ (by omega)) (by omega)
        exact cut_18_119 (((5 - 0) + 1 : Int).toNat) 0 0 1 I_107 J_109 AI H locs ls ⟨by decide, by decide⟩ ⟨by decide, by decide⟩ ⟨by decide, by decide⟩ hv hT pf (by omega) ((fun _ => ⟨by omega, fun k a b => absurd b (by omega)⟩)) ⟨_, _, hQ, rfl, mGn_0⟩ (by omega) (by omega) hH hS (lv_sub hl [0, 1, 2, 3, 4] rfl)
      · have hQ : mQ gh I_107 J_109 AI AJ mo b nn nr nt cc 1 (h + 1) := by rw [er_114] at hQ; exact hQ
        have sr_114 := sr_114.symm.trans er_114
        have g9r_114 := mQ_f hQ (by omega)
        refine z_iconst F dX7_groupTold_11 ?_
        refine lv_istore_n (lv' := [(2, .int (iI 0)), (1, .int (iI v_99)), (0, .ref mo)]) F.1 F.2.1 dX7_groupTold_12 rfl hl (by decide) rfl (fun ls hl => ?_)
        refine z_iconst F dX7_groupTold_13 ?_
        refine lv_istore_n (lv' := [(3, .int (iI 0)), (2, .int (iI 0)), (1, .int (iI v_99)), (0, .ref mo)]) F.1 F.2.1 dX7_groupTold_14 rfl hl (by decide) rfl (fun ls hl => ?_)
        refine z_iconst F dX7_groupTold_15 ?_
        refine lv_istore (lv' := [(4, .int (iI 1)), (3, .int (iI 0)), (2, .int (iI 0)), (1, .int (iI v_99)), (0, .ref mo)]) F.1 F.2.1 dX7_groupTold_16 hl (by decide) rfl (fun ls hl => ?_)
        refine lv_iload F.1 F.2.1 dX7_groupTold_18 (lv_at hl 0 rfl) ?_
        refine z_if_eq (tgt := 156) F dX7_groupTold_20 (by decide) ⟨by decide, by decide⟩ (fun c_984 => ?_) (fun c_984 => ?_)
        · exact absurd trivial (by omega)
        · refine lv_aload_n F.1 F.2.1 dX7_groupTold_23 rfl (lv_at hl 4 rfl) ?_
          refine g_getI (ci := 7) (k := 24) F hH rfl (by decide) iX7 hm (by decide) rfl k81 dX7_groupTold_24 ?_
          have b_985 := mJ hv hm
          unfold mNum1 at b_985
          refine z_if_ne (tgt := 156) F dX7_groupTold_27 (by decide) (zr_t _) (fun c_986 => ?_) (fun c_986 => ?_)
          · have hfin : thn (f, h, 0) (fun t _ => sGrp b nn nr nt cc t) = (1, h + 1, 0) := (thn_k q0).trans (by show sGrp b nn nr nt cc h = _; unfold sGrp; exact thn_y sr_101.symm rfl (thn_x sr_114.symm (by omega)))
            exact cut_156_3 v_99 0 I_107 J_109 AI H locs ls zv_99 ⟨by decide, by decide⟩ hv hT pf ⟨_, _, by omega, hQ, hfin⟩ (by omega) (by omega) hH hS (lv_sub hl [4, 3, 2] rfl)
          · exact absurd (mQ_z hQ (by omega)) (by omega)
    · have hQ : mQ gh I_93 J_95 AI AJ mo b nn nr nt cc (pRf b nn nt nr h) h := by rw [er_101] at hQ; exact hQ
      have sr_101 := sr_101.symm.trans er_101
      have g9r_101 := mQ_f hQ (by omega)
      replace q_103 := (⟨q_103.1, q_103.2.1⟩ : _ ∧ _)
      obtain ⟨f0, ef0⟩ : ∃ q, q = (I_93 mo 24).toInt := ⟨_, rfl⟩
      have hr1 : Hid (f0 = 0 → v_99 < M) := fun h9 => by omega
      refine lv_istore_n (lv' := [(1, .int (iI v_99)), (0, .ref mo)]) F.1 F.2.1 dX7_groupTold_4 rfl hl (by decide) rfl (fun ls hl => ?_)
      refine lv_aload_n F.1 F.2.1 dX7_groupTold_5 rfl (lv_at hl 1 rfl) ?_
      refine va_ldcS F.1 F.2.1 F.2.2.2.1 (F.2.2.2.2.2.2.1 19 _ rfl).1 dX7_groupTold_6 ?_
      have b_987 := mJ hv hm
      unfold mNum1 at b_987
      refine g_callv (g_runV (As := [.ref (gSK g 19)]) (rest := []) (ci := 7) F hl.1 hH hS hz (c_X7_mustWordf l g gh T 19 _ 13 b nn nr nt cc (pRf b nn nt nr h) h I_93 R J_95 AI AJ AR mo hv hm hT (by omega) (rfl : sTab[19]? = some _) h65 hbM hr7 (by omega) hn9 (by omega) (by decide) (by decide +kernel) hQ) (cwV 1 F.2.2.2.2.1 (good_up gT_X7_mustWord) rfl rfl rfl hdX7_mustWord ⟨Nat.le_of_ble_eq_true rfl, Nat.le_of_ble_eq_true rfl⟩) hm (by decide) rfl rfl rfl (Nat.le_of_ble_eq_true rfl) dX7_groupTold_8 ⟨Nat.zero_le _, Nat.zero_le _⟩) hS (fun I_988 R_989 J_990 AI_991 AJ_992 AR_993 H locs hp_994 hH hS => ?_)
      dsimp only at hp_994
      obtain ⟨r_995, er_995⟩ : ∃ qQ : pR, qQ = thn ((pRf b nn nt nr h), h, 0) (fun t _ => sTw b nn ((13 : Nat) : Int) t) := ⟨_, rfl⟩
      rw [← er_995] at hp_994
      obtain ⟨rfl, rfl, rfl, rfl, hv, pfq, q_996, hQ⟩ := hp_994
      have pf := qF_t pf pfq
      have u_997_2 : (I_988 mo 2).toInt = (I mo 2).toInt := by rw [pf 2 (by decide) (by decide) (by decide) (by decide) (by decide)]
      have u_997_5 : (I_988 mo 5).toInt = (I mo 5).toInt := by rw [pf 5 (by decide) (by decide) (by decide) (by decide) (by decide)]
      have u_997_14 : (I_988 mo 14).toInt = (I mo 14).toInt := by rw [pf 14 (by decide) (by decide) (by decide) (by decide) (by decide)]
      have u_997_16 : (I_988 mo 16).toInt = (I mo 16).toInt := by rw [pf 16 (by decide) (by decide) (by decide) (by decide) (by decide)]
      have u_997_18 : (I_988 mo 18).toInt = (I mo 18).toInt := by rw [pf 18 (by decide) (by decide) (by decide) (by decide) (by decide)]
      rw [thn_b (by omega)] at er_995
      have hQ : mQ gh I_988 J_990 AI AJ mo b nn nr nt cc (pRf b nn nt nr h) h := by rw [er_995] at hQ; exact hQ
      refine z_iconst F dX7_groupTold_11 ?_
      refine lv_istore_n (lv' := [(2, .int (iI 0)), (1, .int (iI v_99)), (0, .ref mo)]) F.1 F.2.1 dX7_groupTold_12 rfl hl (by decide) rfl (fun ls hl => ?_)
      refine z_iconst F dX7_groupTold_13 ?_
      refine lv_istore_n (lv' := [(3, .int (iI 0)), (2, .int (iI 0)), (1, .int (iI v_99)), (0, .ref mo)]) F.1 F.2.1 dX7_groupTold_14 rfl hl (by decide) rfl (fun ls hl => ?_)
      refine z_iconst F dX7_groupTold_15 ?_
      refine lv_istore (lv' := [(4, .int (iI 1)), (3, .int (iI 0)), (2, .int (iI 0)), (1, .int (iI v_99)), (0, .ref mo)]) F.1 F.2.1 dX7_groupTold_16 hl (by decide) rfl (fun ls hl => ?_)
      refine lv_iload F.1 F.2.1 dX7_groupTold_18 (lv_at hl 0 rfl) ?_
      refine z_if_eq (tgt := 156) F dX7_groupTold_20 (by decide) ⟨by decide, by decide⟩ (fun c_998 => ?_) (fun c_998 => ?_)
      · exact absurd trivial (by omega)
      · refine lv_aload_n F.1 F.2.1 dX7_groupTold_23 rfl (lv_at hl 4 rfl) ?_
        refine g_getI (ci := 7) (k := 24) F hH rfl (by decide) iX7 hm (by decide) rfl k81 dX7_groupTold_24 ?_
        have b_999 := mJ hv hm
        unfold mNum1 at b_999
        refine z_if_ne (tgt := 156) F dX7_groupTold_27 (by decide) (zr_t _) (fun c_1000 => ?_) (fun c_1000 => ?_)
        · have hfin : thn (f, h, 0) (fun t _ => sGrp b nn nr nt cc t) = (pRf b nn nt nr h, h, 0) := (thn_k q0).trans (by show sGrp b nn nr nt cc h = _; unfold sGrp; exact thn_x sr_101.symm (by omega))
          exact cut_156_3 v_99 0 I_988 J_990 AI H locs ls zv_99 ⟨by decide, by decide⟩ hv hT pf ⟨_, _, by omega, hQ, hfin⟩ (by omega) (by omega) hH hS (lv_sub hl [4, 3, 2] rfl)
        · exact absurd (mQ_z hQ (by omega)) (by omega)
  · have hf1 := mQ_f hQ q0
    have cut_156_1003 : ∀ (l1 l2 : Int) (I_1001 : gI) (J_1002 : gJ) (AI_1003 : gI) (H : Heap) (locs : List Loc) (ls : Array Slot), zr l1 → zr l2 → (mInv g gh R I_1001 AI_1003) → (AI_1003 (gh 50 0) = T) → (qF mo I I_1001) → (∃ (f9 : Int) (h9 : Nat), f9 ≠ 0 ∧ mQ gh I_1001 J_1002 AI_1003 AJ mo b nn nr nt cc f9 h9 ∧ thn (f, h, 0) (fun t _ => sGrp b nn nr nt cc t) = (f9, h9, 0)) → ((I_1001 mo 20).toInt ≤ 936 ∧ (I mo 24).toInt ≤ (I_1001 mo 24).toInt) → (0 ≤ l1 ∧ l1 ≤ 15) → gH g I_1001 R J_1002 AI_1003 AJ AR H → va_S (gA g) s.heap H locs → lv_has ls 7 [(0, .ref mo), (1, .int (iI l1)), (2, .int (iI l2))] → W p l e rmX7_groupToldf s m ([.ref mo] : List Value).toArray below meth c H locs 0 0 (MQ below (gQv g (fun w : gS => R = w.2.1 ∧ AJ = w.2.2.2.2.1 ∧ AR = w.2.2.2.2.2 ∧ (mInv g gh R (w.1) (w.2.2.2.1)) ∧ ((w.2.2.2.1) (gh 50 0) = T) ∧ (qF mo I (w.1)) ∧ (((w.1) mo 20).toInt ≤ 936 ∧ (I mo 24).toInt ≤ ((w.1) mo 24).toInt) ∧ (((w.1) mo 24).toInt = 0 → ((w.1) mo 21).toInt = 4 → ((w.1) mo 23).toInt = 59 → rowOK ((w.2.2.2.1) (gh 53 0)) M) ∧ (((w.1) mo 24).toInt = 0 → tI ((w.2.2.2.1) (gh 53 0)) (40 * M) = 7) ∧ (mQ gh (w.1) (w.2.2.1) (w.2.2.2.1) AJ mo b nn nr nt cc (thn (f, h, 0) (fun t _ => sGrp b nn nr nt cc t)).1 (thn (f, h, 0) (fun t _ => sGrp b nn nr nt cc t)).2.1) ∧ (pIc (thn (f, h, 0) (fun t _ => sGrp b nn nr nt cc t)).1 (pK b nn (thn (f, h, 0) (fun t _ => sGrp b nn nr nt cc t)).2.1) (tI ((w.2.2.2.1) (gh 53 0)) (40 * (nr : Int) + 1)) (thn (f, h, 0) (fun t _ => sGrp b nn nr nt cc t)).2.2))) ([.ref mo] : List Value).toArray s 0 0 (gA g)) (F0 m 156 ls []) := by
      intro l1 l2 I_1001 J_1002 AI_1003 H locs ls zl1 zl2 hv hT pf hBad hx9 hl12 hH hS hl
      (try clear u_105_18); (try clear u_105_16); (try clear u_105_14); (try clear u_105_5); (try clear u_105_2); (try clear b_92)
      have uc_2 : (I_1001 mo 2).toInt = (I mo 2).toInt := by rw [pf 2 (by decide) (by decide) (by decide) (by decide) (by decide)]
      have uc_5 : (I_1001 mo 5).toInt = (I mo 5).toInt := by rw [pf 5 (by decide) (by decide) (by decide) (by decide) (by decide)]
      have uc_14 : (I_1001 mo 14).toInt = (I mo 14).toInt := by rw [pf 14 (by decide) (by decide) (by decide) (by decide) (by decide)]
      have uc_16 : (I_1001 mo 16).toInt = (I mo 16).toInt := by rw [pf 16 (by decide) (by decide) (by decide) (by decide) (by decide)]
      have uc_18 : (I_1001 mo 18).toInt = (I mo 18).toInt := by rw [pf 18 (by decide) (by decide) (by decide) (by decide) (by decide)]
      obtain ⟨fb9, hb9, q9, hQ, hfin⟩ := hBad
      have q9f := mQ_f hQ q9
      have q9p := mQ_p hQ
      obtain ⟨f3, ef3⟩ : ∃ q, q = (I_1001 mo 24).toInt := ⟨_, rfl⟩
      refine lv_aload_n F.1 F.2.1 dX7_groupTold_156 rfl (lv_at hl 0 rfl) ?_
      refine va_ldcS F.1 F.2.1 F.2.2.2.1 (F.2.2.2.2.2.2.1 20 _ rfl).1 dX7_groupTold_157 ?_
      have b_1005 := mJ hv hm
      unfold mNum1 at b_1005
      refine g_calli (g_runV (As := [.ref (gSK g 20)]) (rest := []) (ci := 7) F hl.1 hH hS hz (c_X7_isWordf l g gh T 20 _ 16 b nn nr nt cc fb9 hb9 I_1001 R J_1002 AI_1003 AJ AR mo hv hm hT (rfl : sTab[20]? = some _) (by decide) (by decide +kernel) h65 hbM hr7 (by omega) hn9 (by omega) hQ) (cwV 1 F.2.2.2.2.1 (good_up gT_X7_isWord) rfl rfl rfl hdX7_isWord ⟨Nat.le_of_ble_eq_true rfl, Nat.le_of_ble_eq_true rfl⟩) hm (by decide) rfl rfl rfl (Nat.le_of_ble_eq_true rfl) dX7_groupTold_159 ⟨Nat.zero_le _, Nat.zero_le _⟩) hS (fun v_1012 I_1006 R_1007 J_1008 AI_1009 AJ_1010 AR_1011 H locs zv_1012 hp_1013 hH hS => ?_)
      dsimp only at hp_1013
      obtain ⟨rfl, rfl, rfl, rfl, rfl, rfl, q_1014, q_1015⟩ := hp_1013
      refine z_if_eq (tgt := 169) F dX7_groupTold_162 (by decide) zv_1012 (fun c_1016 => ?_) (fun c_1016 => ?_)
      · have t_1017 := tIz_0 q_1015 (by omega)
        refine lv_aload_n F.1 F.2.1 dX7_groupTold_169 rfl (lv_at hl 0 rfl) ?_
        refine va_ldcS F.1 F.2.1 F.2.2.2.1 (F.2.2.2.2.2.2.1 21 _ rfl).1 dX7_groupTold_170 ?_
        refine g_calli (g_runV (As := [.ref (gSK g 21)]) (rest := []) (ci := 7) F hl.1 hH hS hz (c_X7_isWordf l g gh T 21 _ 17 b nn nr nt cc fb9 hb9 I_1001 R J_1002 AI_1003 AJ AR mo hv hm hT (rfl : sTab[21]? = some _) (by decide) (by decide +kernel) h65 hbM hr7 (by omega) hn9 (by omega) hQ) (cwV 1 F.2.2.2.2.1 (good_up gT_X7_isWord) rfl rfl rfl hdX7_isWord ⟨Nat.le_of_ble_eq_true rfl, Nat.le_of_ble_eq_true rfl⟩) hm (by decide) rfl rfl rfl (Nat.le_of_ble_eq_true rfl) dX7_groupTold_172 ⟨Nat.zero_le _, Nat.zero_le _⟩) hS (fun v_1024 I_1018 R_1019 J_1020 AI_1021 AJ_1022 AR_1023 H locs zv_1024 hp_1025 hH hS => ?_)
        dsimp only at hp_1025
        obtain ⟨rfl, rfl, rfl, rfl, rfl, rfl, q_1026, q_1027⟩ := hp_1025
        refine z_if_eq (tgt := 182) F dX7_groupTold_175 (by decide) zv_1024 (fun c_1028 => ?_) (fun c_1028 => ?_)
        · have t_1029 := tIz_0 q_1027 (by omega)
          refine lv_aload_n F.1 F.2.1 dX7_groupTold_182 rfl (lv_at hl 0 rfl) ?_
          refine va_ldcS F.1 F.2.1 F.2.2.2.1 (F.2.2.2.2.2.2.1 22 _ rfl).1 dX7_groupTold_183 ?_
          refine g_calli (g_runV (As := [.ref (gSK g 22)]) (rest := []) (ci := 7) F hl.1 hH hS hz (c_X7_isWordf l g gh T 22 _ 18 b nn nr nt cc fb9 hb9 I_1001 R J_1002 AI_1003 AJ AR mo hv hm hT (rfl : sTab[22]? = some _) (by decide) (by decide +kernel) h65 hbM hr7 (by omega) hn9 (by omega) hQ) (cwV 1 F.2.2.2.2.1 (good_up gT_X7_isWord) rfl rfl rfl hdX7_isWord ⟨Nat.le_of_ble_eq_true rfl, Nat.le_of_ble_eq_true rfl⟩) hm (by decide) rfl rfl rfl (Nat.le_of_ble_eq_true rfl) dX7_groupTold_185 ⟨Nat.zero_le _, Nat.zero_le _⟩) hS (fun v_1036 I_1030 R_1031 J_1032 AI_1033 AJ_1034 AR_1035 H locs zv_1036 hp_1037 hH hS => ?_)
          dsimp only at hp_1037
          obtain ⟨rfl, rfl, rfl, rfl, rfl, rfl, q_1038, q_1039⟩ := hp_1037
          refine z_if_eq (tgt := 195) F dX7_groupTold_188 (by decide) zv_1036 (fun c_1040 => ?_) (fun c_1040 => ?_)
          · have t_1041 := tIz_0 q_1039 (by omega)
            refine lv_aload_n F.1 F.2.1 dX7_groupTold_195 rfl (lv_at hl 0 rfl) ?_
            refine va_ldcS F.1 F.2.1 F.2.2.2.1 (F.2.2.2.2.2.2.1 23 _ rfl).1 dX7_groupTold_196 ?_
            refine g_calli (g_runV (As := [.ref (gSK g 23)]) (rest := []) (ci := 7) F hl.1 hH hS hz (c_X7_isWordf l g gh T 23 _ 19 b nn nr nt cc fb9 hb9 I_1001 R J_1002 AI_1003 AJ AR mo hv hm hT (rfl : sTab[23]? = some _) (by decide) (by decide +kernel) h65 hbM hr7 (by omega) hn9 (by omega) hQ) (cwV 1 F.2.2.2.2.1 (good_up gT_X7_isWord) rfl rfl rfl hdX7_isWord ⟨Nat.le_of_ble_eq_true rfl, Nat.le_of_ble_eq_true rfl⟩) hm (by decide) rfl rfl rfl (Nat.le_of_ble_eq_true rfl) dX7_groupTold_198 ⟨Nat.zero_le _, Nat.zero_le _⟩) hS (fun v_1048 I_1042 R_1043 J_1044 AI_1045 AJ_1046 AR_1047 H locs zv_1048 hp_1049 hH hS => ?_)
            dsimp only at hp_1049
            obtain ⟨rfl, rfl, rfl, rfl, rfl, rfl, q_1050, q_1051⟩ := hp_1049
            refine z_if_eq (tgt := 208) F dX7_groupTold_201 (by decide) zv_1048 (fun c_1052 => ?_) (fun c_1052 => ?_)
            · have t_1053 := tIz_0 q_1051 (by omega)
              refine z_iconst F dX7_groupTold_208 ?_
              refine lv_istore (lv' := [(5, .int (iI ((-1)))), (0, .ref mo), (1, .int (iI l1)), (2, .int (iI l2))]) F.1 F.2.1 dX7_groupTold_209 hl (by decide) rfl (fun ls hl => ?_)
              refine lv_iload F.1 F.2.1 dX7_groupTold_211 (lv_at hl 0 rfl) ?_
              refine z_if_ge (tgt := 221) F dX7_groupTold_213 (by decide) ⟨by decide, by decide⟩ (fun c_1054 => ?_) (fun c_1054 => ?_)
              · exact absurd trivial (by omega)
              · refine lv_aload_n F.1 F.2.1 dX7_groupTold_216 rfl (lv_at hl 1 rfl) ?_
                refine z_iconst F dX7_groupTold_217 ?_
                refine g_callv (g_runV (As := [.int (iI 1)]) (rest := []) (ci := 7) F hl.1 hH hS hz (c_X7_wrongf l g gh T b nn nr nt cc fb9 hb9 I_1001 R J_1002 AI_1003 AJ AR mo 1 ⟨by decide, by decide⟩ hv hm hT (by omega) h65 hbM hr7 (by omega) hn9 (by omega) hQ) (cwV 1 F.2.2.2.2.1 (good_up gT_X7_wrong) rfl rfl rfl hdX7_wrong ⟨Nat.le_of_ble_eq_true rfl, Nat.le_of_ble_eq_true rfl⟩) hm (by decide) rfl rfl rfl (Nat.le_of_ble_eq_true rfl) dX7_groupTold_218 ⟨Nat.zero_le _, Nat.zero_le _⟩) hS (fun I_1055 R_1056 J_1057 AI_1058 AJ_1059 AR_1060 H locs hp_1061 hH hS => ?_)
                dsimp only at hp_1061
                obtain ⟨r_1062, er_1062⟩ : ∃ qQ : pR, qQ = thn (fb9, hb9, 0) (fun t _ => (1, t, 0)) := ⟨_, rfl⟩
                rw [← er_1062] at hp_1061
                obtain ⟨rfl, rfl, rfl, rfl, rfl, hv, pfq, q_1063, hQ⟩ := hp_1061
                have pf := qF_t pf pfq
                have u_1064_2 : (I_1055 mo 2).toInt = (I mo 2).toInt := by rw [pf 2 (by decide) (by decide) (by decide) (by decide) (by decide)]
                have u_1064_5 : (I_1055 mo 5).toInt = (I mo 5).toInt := by rw [pf 5 (by decide) (by decide) (by decide) (by decide) (by decide)]
                have u_1064_14 : (I_1055 mo 14).toInt = (I mo 14).toInt := by rw [pf 14 (by decide) (by decide) (by decide) (by decide) (by decide)]
                have u_1064_16 : (I_1055 mo 16).toInt = (I mo 16).toInt := by rw [pf 16 (by decide) (by decide) (by decide) (by decide) (by decide)]
                have u_1064_18 : (I_1055 mo 18).toInt = (I mo 18).toInt := by rw [pf 18 (by decide) (by decide) (by decide) (by decide) (by decide)]
                rw [thn_b (by omega)] at er_1062
                have hQ : mQ gh I_1055 J_1002 AI_1003 AJ mo b nn nr nt cc fb9 hb9 := by rw [er_1062] at hQ; exact hQ
                refine lv_aload_n F.1 F.2.1 dX7_groupTold_221 rfl (lv_at hl 1 rfl) ?_
                have b_1065 := mJ hv hm
                unfold mNum1 at b_1065
                refine g_callv (g_runV (As := []) (rest := []) (ci := 7) F hl.1 hH hS hz (c_X7_nextf l g gh T b nn (tNd b nn (tPs b nn hb9)) I_1055 R J_1002 AI_1003 AJ AR mo hv hm hT (by omega) (mTp hv h65 hbM) hr7 (by omega) (by omega) (mQ_e0 hQ) tNd_le.1) (cwV 0 F.2.2.2.2.1 (good_up gT_X7_next) rfl rfl rfl hdX7_next ⟨Nat.le_of_ble_eq_true rfl, Nat.le_of_ble_eq_true rfl⟩) hm (by decide) rfl rfl rfl (Nat.le_of_ble_eq_true rfl) dX7_groupTold_222 ⟨Nat.zero_le _, Nat.zero_le _⟩) hS (fun I_1066 R_1067 J_1068 AI_1069 AJ_1070 AR_1071 H locs hp_1072 hH hS => ?_)
                dsimp only at hp_1072
                obtain ⟨rfl, rfl, rfl, rfl, hv, pfq, q_1073, nx4, nxa, nxb⟩ := hp_1072
                have pf := qF_t pf pfq
                have u_1074_2 : (I_1066 mo 2).toInt = (I mo 2).toInt := by rw [pf 2 (by decide) (by decide) (by decide) (by decide) (by decide)]
                have u_1074_5 : (I_1066 mo 5).toInt = (I mo 5).toInt := by rw [pf 5 (by decide) (by decide) (by decide) (by decide) (by decide)]
                have u_1074_14 : (I_1066 mo 14).toInt = (I mo 14).toInt := by rw [pf 14 (by decide) (by decide) (by decide) (by decide) (by decide)]
                have u_1074_16 : (I_1066 mo 16).toInt = (I mo 16).toInt := by rw [pf 16 (by decide) (by decide) (by decide) (by decide) (by decide)]
                have u_1074_18 : (I_1066 mo 18).toInt = (I mo 18).toInt := by rw [pf 18 (by decide) (by decide) (by decide) (by decide) (by decide)]
                have hQ : mQ gh I_1066 J_1068 AI_1003 AJ mo b nn nr nt cc fb9 hb9 := by have q9 := mQ_nx hQ nx4 nxa; rw [thn_b (by omega)] at q9; exact q9
                clear nxa nxb
                refine lv_iload F.1 F.2.1 dX7_groupTold_225 (lv_at hl 0 rfl) ?_
                refine z_if_le (tgt := 242) F dX7_groupTold_227 (by decide) ⟨by decide, by decide⟩ (fun c_1075 => ?_) (fun c_1075 => ?_)
                · refine z_iconst F dX7_groupTold_242 ?_
                  refine lv_istore (lv' := [(6, .int (iI 0)), (5, .int (iI ((-1)))), (0, .ref mo), (1, .int (iI l1)), (2, .int (iI l2))]) F.1 F.2.1 dX7_groupTold_243 hl (by decide) rfl (fun ls hl => ?_)
                  refine lv_aload_n F.1 F.2.1 dX7_groupTold_245 rfl (lv_at hl 2 rfl) ?_
                  refine lv_iload_n F.1 F.2.1 dX7_groupTold_246 rfl (lv_at hl 4 rfl) ?_
                  refine lv_iload F.1 F.2.1 dX7_groupTold_247 (lv_at hl 0 rfl) ?_
                  refine lv_iload F.1 F.2.1 dX7_groupTold_249 (lv_at hl 1 rfl) ?_
                  refine z_iconst F dX7_groupTold_251 ?_
                  refine z_iconst F dX7_groupTold_252 ?_
                  have b_1076 := mJ hv hm
                  unfold mNum1 at b_1076
                  refine g_callv (g_runV (As := [.int (iI l2), .int (iI 0), .int (iI ((-1))), .int (iI 0), .int (iI 0)]) (rest := []) (ci := 7) F hl.1 hH hS hz (c_X7_setsPart l g gh T M I_1066 R J_1068 AI_1003 AJ AR mo l2 0 (-1) 0 0 zl2 ⟨by decide, by decide⟩ ⟨by decide, by decide⟩ ⟨by decide, by decide⟩ ⟨by decide, by decide⟩ hv hm hT (by omega) (by omega) (by omega)) (cwV 5 F.2.2.2.2.1 (good_up gT_X7_setsPart) rfl rfl rfl hdX7_setsPart ⟨Nat.le_of_ble_eq_true rfl, Nat.le_of_ble_eq_true rfl⟩) hm (by decide) rfl rfl rfl (Nat.le_of_ble_eq_true rfl) dX7_groupTold_253 ⟨Nat.zero_le _, Nat.zero_le _⟩) hS (fun I_1077 R_1078 J_1079 AI_1080 AJ_1081 AR_1082 H locs hp_1083 hH hS => ?_)
                  dsimp only at hp_1083
                  obtain ⟨rfl, rfl, rfl, rfl, rfl, hv, hT, hsp⟩ := hp_1083
                  replace hsp := hid hsp
                  have hQ : mQ gh I_1066 J_1068 AI_1080 AJ mo b nn nr nt cc fb9 hb9 := mQ_bad hQ (by omega) rfl
                  refine lv_aload_n F.1 F.2.1 dX7_groupTold_256 rfl (lv_at hl 2 rfl) ?_
                  refine z_bipush F dX7_groupTold_257 (by decide) ?_
                  refine lv_iload_n F.1 F.2.1 dX7_groupTold_259 rfl (lv_at hl 4 rfl) ?_
                  refine z_iconst F dX7_groupTold_260 ?_
                  refine z_iadd F dX7_groupTold_261 ?_
                  refine z_norm (fun v_1084 zv_1084 ev_1084 => ?_)
                  refine lv_iload_n F.1 F.2.1 dX7_groupTold_262 rfl (lv_at hl 3 rfl) ?_
                  refine z_iconst F dX7_groupTold_263 ?_
                  refine lv_iload_n F.1 F.2.1 dX7_groupTold_264 rfl (lv_at hl 4 rfl) ?_
                  refine g_callv (g_runV (As := [.int (iI 7), .int (iI v_1084), .int (iI l1), .int (iI ((-1))), .int (iI l2)]) (rest := []) (ci := 7) F hl.1 hH hS hz (c_X7_header l g gh T M I_1066 R J_1068 AI_1080 AJ AR mo 7 v_1084 l1 (-1) l2 ⟨by decide, by decide⟩ zv_1084 zl1 ⟨by decide, by decide⟩ zl2 hv hm hT (by omega) (by omega)) (cwV 5 F.2.2.2.2.1 (good_up gT_X7_header) rfl rfl rfl hdX7_header ⟨Nat.le_of_ble_eq_true rfl, Nat.le_of_ble_eq_true rfl⟩) hm (by decide) rfl rfl rfl (Nat.le_of_ble_eq_true rfl) dX7_groupTold_265 ⟨Nat.zero_le _, Nat.zero_le _⟩) hS (fun I_1085 R_1086 J_1087 AI_1088 AJ_1089 AR_1090 H locs hp_1091 hH hS => ?_)
                  dsimp only at hp_1091
                  obtain ⟨rfl, rfl, rfl, rfl, rfl, hv, hT, hhd⟩ := hp_1091
                  replace hhd := hid hhd
                  have hQ : mQ gh I_1066 J_1068 AI_1088 AJ mo b nn nr nt cc fb9 hb9 := mQ_bad hQ (by omega) rfl
                  exact g_vret F hr hlk hH hS hz ⟨rfl, rfl, rfl, hv, hT, pf, by first | (dsimp only; omega) | omega | rfl, by (try dsimp only); exact (fun hf => absurd hf (by omega)), by (try dsimp only); exact (fun hf => absurd hf (by omega)), by (try dsimp only); rw [hfin]; exact hQ, by (try dsimp only); rw [hfin]; exact pIc_n (by omega)⟩ dX7_groupTold_268
                · exact absurd trivial (by omega)
            · exact absurd (tIz_1 q_1051 (by omega)).1 (by omega)
          · exact absurd (tIz_1 q_1039 (by omega)).1 (by omega)
        · exact absurd (tIz_1 q_1027 (by omega)).1 (by omega)
      · exact absurd (tIz_1 q_1015 (by omega)).1 (by omega)
    refine lv_aload_n F.1 F.2.1 dX7_groupTold_0 rfl (lv_at hl 0 rfl) ?_
    have b_1092 := mJ hv hm
    unfold mNum1 at b_1092
    refine g_calli (g_runV (As := []) (rest := []) (ci := 7) F hl.1 hH hS hz (c_X7_relationf l g gh T b nn nr nt cc f h I R J AI AJ AR mo hv hm hT (by omega) h65 hbM hr7 (by omega) hn9 (by omega) hQ) (cwV 0 F.2.2.2.2.1 (good_up gT_X7_relation) rfl rfl rfl hdX7_relation ⟨Nat.le_of_ble_eq_true rfl, Nat.le_of_ble_eq_true rfl⟩) hm (by decide) rfl rfl rfl (Nat.le_of_ble_eq_true rfl) dX7_groupTold_1 ⟨Nat.zero_le _, Nat.zero_le _⟩) hS (fun v_1099 I_1093 R_1094 J_1095 AI_1096 AJ_1097 AR_1098 H locs zv_1099 hp_1100 hH hS => ?_)
    dsimp only at hp_1100
    obtain ⟨r_1101, er_1101⟩ : ∃ qQ : pR, qQ = thn (f, h, 0) (fun t _ => sRl b nn nr nt cc t) := ⟨_, rfl⟩
    rw [← er_1101] at hp_1100
    obtain ⟨rfl, rfl, rfl, rfl, hv, pfq, q_1102, q_1103, hQ, q_1104⟩ := hp_1100
    have pf := qF_t pf pfq
    have u_1105_2 : (I_1093 mo 2).toInt = (I mo 2).toInt := by rw [pf 2 (by decide) (by decide) (by decide) (by decide) (by decide)]
    have u_1105_5 : (I_1093 mo 5).toInt = (I mo 5).toInt := by rw [pf 5 (by decide) (by decide) (by decide) (by decide) (by decide)]
    have u_1105_14 : (I_1093 mo 14).toInt = (I mo 14).toInt := by rw [pf 14 (by decide) (by decide) (by decide) (by decide) (by decide)]
    have u_1105_16 : (I_1093 mo 16).toInt = (I mo 16).toInt := by rw [pf 16 (by decide) (by decide) (by decide) (by decide) (by decide)]
    have u_1105_18 : (I_1093 mo 18).toInt = (I mo 18).toInt := by rw [pf 18 (by decide) (by decide) (by decide) (by decide) (by decide)]
    rw [thn_b (by omega)] at er_1101
    have hQ : mQ gh I_1093 J_1095 AI AJ mo b nn nr nt cc f h := by rw [er_1101] at hQ; exact hQ
    replace q_1103 := (⟨q_1103.1, q_1103.2.1⟩ : _ ∧ _)
    obtain ⟨f0, ef0⟩ : ∃ q, q = (I_1093 mo 24).toInt := ⟨_, rfl⟩
    have hr1 : Hid (f0 = 0 → v_1099 < M) := fun h9 => by omega
    refine lv_istore_n (lv' := [(1, .int (iI v_1099)), (0, .ref mo)]) F.1 F.2.1 dX7_groupTold_4 rfl hl (by decide) rfl (fun ls hl => ?_)
    refine lv_aload_n F.1 F.2.1 dX7_groupTold_5 rfl (lv_at hl 1 rfl) ?_
    refine va_ldcS F.1 F.2.1 F.2.2.2.1 (F.2.2.2.2.2.2.1 19 _ rfl).1 dX7_groupTold_6 ?_
    have b_1106 := mJ hv hm
    unfold mNum1 at b_1106
    refine g_callv (g_runV (As := [.ref (gSK g 19)]) (rest := []) (ci := 7) F hl.1 hH hS hz (c_X7_mustWordf l g gh T 19 _ 13 b nn nr nt cc f h I_1093 R J_1095 AI AJ AR mo hv hm hT (by omega) (rfl : sTab[19]? = some _) h65 hbM hr7 (by omega) hn9 (by omega) (by decide) (by decide +kernel) hQ) (cwV 1 F.2.2.2.2.1 (good_up gT_X7_mustWord) rfl rfl rfl hdX7_mustWord ⟨Nat.le_of_ble_eq_true rfl, Nat.le_of_ble_eq_true rfl⟩) hm (by decide) rfl rfl rfl (Nat.le_of_ble_eq_true rfl) dX7_groupTold_8 ⟨Nat.zero_le _, Nat.zero_le _⟩) hS (fun I_1107 R_1108 J_1109 AI_1110 AJ_1111 AR_1112 H locs hp_1113 hH hS => ?_)
    dsimp only at hp_1113
    obtain ⟨r_1114, er_1114⟩ : ∃ qQ : pR, qQ = thn (f, h, 0) (fun t _ => sTw b nn ((13 : Nat) : Int) t) := ⟨_, rfl⟩
    rw [← er_1114] at hp_1113
    obtain ⟨rfl, rfl, rfl, rfl, hv, pfq, q_1115, hQ⟩ := hp_1113
    have pf := qF_t pf pfq
    have u_1116_2 : (I_1107 mo 2).toInt = (I mo 2).toInt := by rw [pf 2 (by decide) (by decide) (by decide) (by decide) (by decide)]
    have u_1116_5 : (I_1107 mo 5).toInt = (I mo 5).toInt := by rw [pf 5 (by decide) (by decide) (by decide) (by decide) (by decide)]
    have u_1116_14 : (I_1107 mo 14).toInt = (I mo 14).toInt := by rw [pf 14 (by decide) (by decide) (by decide) (by decide) (by decide)]
    have u_1116_16 : (I_1107 mo 16).toInt = (I mo 16).toInt := by rw [pf 16 (by decide) (by decide) (by decide) (by decide) (by decide)]
    have u_1116_18 : (I_1107 mo 18).toInt = (I mo 18).toInt := by rw [pf 18 (by decide) (by decide) (by decide) (by decide) (by decide)]
    rw [thn_b (by omega)] at er_1114
    have hQ : mQ gh I_1107 J_1109 AI AJ mo b nn nr nt cc f h := by rw [er_1114] at hQ; exact hQ
    refine z_iconst F dX7_groupTold_11 ?_
    refine lv_istore_n (lv' := [(2, .int (iI 0)), (1, .int (iI v_1099)), (0, .ref mo)]) F.1 F.2.1 dX7_groupTold_12 rfl hl (by decide) rfl (fun ls hl => ?_)
    refine z_iconst F dX7_groupTold_13 ?_
    refine lv_istore_n (lv' := [(3, .int (iI 0)), (2, .int (iI 0)), (1, .int (iI v_1099)), (0, .ref mo)]) F.1 F.2.1 dX7_groupTold_14 rfl hl (by decide) rfl (fun ls hl => ?_)
    refine z_iconst F dX7_groupTold_15 ?_
    refine lv_istore (lv' := [(4, .int (iI 1)), (3, .int (iI 0)), (2, .int (iI 0)), (1, .int (iI v_1099)), (0, .ref mo)]) F.1 F.2.1 dX7_groupTold_16 hl (by decide) rfl (fun ls hl => ?_)
    refine lv_iload F.1 F.2.1 dX7_groupTold_18 (lv_at hl 0 rfl) ?_
    refine z_if_eq (tgt := 156) F dX7_groupTold_20 (by decide) ⟨by decide, by decide⟩ (fun c_1117 => ?_) (fun c_1117 => ?_)
    · exact absurd trivial (by omega)
    · refine lv_aload_n F.1 F.2.1 dX7_groupTold_23 rfl (lv_at hl 4 rfl) ?_
      refine g_getI (ci := 7) (k := 24) F hH rfl (by decide) iX7 hm (by decide) rfl k81 dX7_groupTold_24 ?_
      have b_1118 := mJ hv hm
      unfold mNum1 at b_1118
      refine z_if_ne (tgt := 156) F dX7_groupTold_27 (by decide) (zr_t _) (fun c_1119 => ?_) (fun c_1119 => ?_)
      · have hfin : thn (f, h, 0) (fun t _ => sGrp b nn nr nt cc t) = (f, h, 0) := thn_b q0
        exact cut_156_1003 v_1099 0 I_1107 J_1109 AI H locs ls zv_1099 ⟨by decide, by decide⟩ hv hT pf ⟨_, _, by omega, hQ, hfin⟩ (by omega) (by omega) hH hS (lv_sub hl [4, 3, 2] rfl)
      · exact absurd (mQ_z hQ (by omega)) (by omega)
