def rmX7_toldf : Room := { frames := 3, cells := 0, slots := 0, locals := 76 }
set_option maxHeartbeats 4000000 in
set_option maxRecDepth 100000 in
/-- told -/
theorem c_X7_toldf (l : Launch) (g : gG) (gh : gGh) (T : Nat → Int32) (tbs : Int) (nr : Nat) (cc : Nat → LC) (cl : Nat → Int) (I : gI) (R : gR) (J : gJ) (AI : gI) (AJ : gJ) (AR : gR) (mo : Nat) (wh : Int) (zwh : zr wh) (hv : mInv g gh R I AI) (hm : gO g mo 7) (hT : AI (gh 50 0) = T) (hmr : (I mo 2).toInt = (nr : Int)) (hpl : plM9 T tbs nr cc cl) (hbg : ∀ r : Nat, r < nr → bgOK (rfM gh AI 0) cl r) (hb9 : ∀ r : Nat, r < nr → bgOK (rfM gh AI 9) cl r) : gMet l g yX7_told tsX7_told rmX7_toldf [.ref mo, .int (iI wh)] (I, R, J, AI, AJ, AR) (gQi g (fun (z : Int) (w : gS) => R = w.2.1 ∧ J = w.2.2.1 ∧ AJ = w.2.2.2.2.1 ∧ AR = w.2.2.2.2.2 ∧ (mInv g gh R (w.1) (w.2.2.2.1)) ∧ ((w.2.2.2.1) (gh 50 0) = T) ∧ (nF mo I (w.1)) ∧ (wh = 9 → z = (I mo 16).toInt) ∧ ((wh = 0 ∧ z = tbs) ∨ (wh = 1 ∧ z = (nr : Int) - tbs) ∨ (wh = 2 ∧ iI z = I mo 9) ∨ (wh = 3 ∧ iI z = I mo 10) ∨ (wh = 4 ∧ z = (I mo 8).toInt) ∨ (wh = 5 ∧ z = (I mo 14).toInt) ∨ (wh = 6 ∧ z = smL (fun r => (((rfM gh AI 0 r).1 : Nat) : Int)) tbs.toNat (nr - tbs.toNat)) ∨ (wh = 7 ∧ z = smL (fun r => ((bgN (mvF gh AI r) : Nat) : Int)) tbs.toNat (nr - tbs.toNat)) ∨ (wh = 8 ∧ z = smL (ctF gh AI cc) tbs.toNat (nr - tbs.toNat)) ∨ (wh = 9 ∧ z = (I mo 16).toInt) ∨ ((wh < 0 ∨ 9 < wh) ∧ z = -1)) ∧ (∀ b, b ≠ gh 81 0 → (w.2.2.2.1) b = AI b))) := by
  refine gStart (cc := cX7_told) (maxL := 4) (ret := (some (.int))) (by decide) rfl (Nat.le_of_ble_eq_true rfl) ?_
  intro p e s m below meth c ls F hr hlk hH hz hS hl
  have hl : lv_has ls 4 [(0, .ref mo), (1, .int (iI wh))] := hl
  have hS : va_S (gA g) s.heap s.heap [] := hS
  obtain ⟨H, hHe⟩ : ∃ H : Heap, H = s.heap := ⟨_, rfl⟩
  obtain ⟨locs, hlo⟩ : ∃ k : List Loc, k = [] := ⟨_, rfl⟩
  have hH : gH g I R J AI AJ AR H := by rw [hHe]; exact hH
  have hS : va_S (gA g) s.heap H locs := by rw [hHe, hlo]; exact hS
  suffices hw : W p l e rmX7_toldf s m ([.ref mo, .int (iI wh)] : List Value).toArray below meth c H locs 0 0 (MQ below (gQi g (fun (z : Int) (w : gS) => R = w.2.1 ∧ J = w.2.2.1 ∧ AJ = w.2.2.2.2.1 ∧ AR = w.2.2.2.2.2 ∧ (mInv g gh R (w.1) (w.2.2.2.1)) ∧ ((w.2.2.2.1) (gh 50 0) = T) ∧ (nF mo I (w.1)) ∧ (wh = 9 → z = (I mo 16).toInt) ∧ ((wh = 0 ∧ z = tbs) ∨ (wh = 1 ∧ z = (nr : Int) - tbs) ∨ (wh = 2 ∧ iI z = I mo 9) ∨ (wh = 3 ∧ iI z = I mo 10) ∨ (wh = 4 ∧ z = (I mo 8).toInt) ∨ (wh = 5 ∧ z = (I mo 14).toInt) ∨ (wh = 6 ∧ z = smL (fun r => (((rfM gh AI 0 r).1 : Nat) : Int)) tbs.toNat (nr - tbs.toNat)) ∨ (wh = 7 ∧ z = smL (fun r => ((bgN (mvF gh AI r) : Nat) : Int)) tbs.toNat (nr - tbs.toNat)) ∨ (wh = 8 ∧ z = smL (ctF gh AI cc) tbs.toNat (nr - tbs.toNat)) ∨ (wh = 9 ∧ z = (I mo 16).toInt) ∨ ((wh < 0 ∨ 9 < wh) ∧ z = -1)) ∧ (∀ b, b ≠ gh 81 0 → (w.2.2.2.1) b = AI b))) ([.ref mo, .int (iI wh)] : List Value).toArray s 0 0 (gA g)) (F0 m 0 ls []) by
    rw [hHe, hlo] at hw; exact hw
  clear hHe hlo
  have nf : nF mo I I := nF_r
  have hp1 := hpl.1
  have hb0 := mJ hv hm
  unfold mNum1 at hb0
  have iX7 : ∀ w ∈ u_ws RX7 TX7 32, w ∈ tsX7_told := fun w h => List.mem_cons_of_mem _ (inTB7 w h)
  have k60 : Cond.fieldLink RX7 60 (TX7 17).1 (TX7 17).2.1 (TX7 17).2.2.1 ∈ tsX7_told := List.mem_cons_of_mem _ fl_60
  have k64 : Cond.fieldLink RX7 64 (TX7 2).1 (TX7 2).2.1 (TX7 2).2.2.1 ∈ tsX7_told := List.mem_cons_of_mem _ fl_64
  have k260 : Cond.fieldLink RX7 260 (TX7 9).1 (TX7 9).2.1 (TX7 9).2.2.1 ∈ tsX7_told := List.mem_cons_of_mem _ fl_260
  have k263 : Cond.fieldLink RX7 263 (TX7 10).1 (TX7 10).2.1 (TX7 10).2.2.1 ∈ tsX7_told := List.mem_cons_of_mem _ fl_263
  have k257 : Cond.fieldLink RX7 257 (TX7 8).1 (TX7 8).2.1 (TX7 8).2.2.1 ∈ tsX7_told := List.mem_cons_of_mem _ fl_257
  have k266 : Cond.fieldLink RX7 266 (TX7 14).1 (TX7 14).2.1 (TX7 14).2.2.1 ∈ tsX7_told := List.mem_cons_of_mem _ fl_266
  have k71 : Cond.fieldLink RX7 71 (TX7 16).1 (TX7 16).2.1 (TX7 16).2.2.1 ∈ tsX7_told := List.mem_cons_of_mem _ fl_71
  refine lv_aload_n F.1 F.2.1 dX7_told_0 rfl (lv_at hl 0 rfl) ?_
  refine z_iconst F dX7_told_1 ?_
  refine g_putI (ci := 7) (k := 17) F hH hS rfl (by decide) iX7 hm (by decide) tyX7 tyX7_ok nmX7 rfl rfl rfl k60 dX7_told_2 (fun H locs hH hS => ?_)
  obtain ⟨I_1, eI_1⟩ : ∃ qQ, qQ = gup2 I mo 17 (iI (0)) := ⟨_, rfl⟩
  rw [← eI_1] at hH
  have kI_1 : ∀ b, b ≠ mo → I_1 b = I b := fun b hb => by rw [eI_1]; exact funext fun j => gup2_a _ _ hb
  have w_2 : (I_1 mo 17).toInt = 0 := by rw [eI_1, gup2_s]; exact iI_val ⟨by decide, by decide⟩
  have hv : mInv g gh R I_1 AI := by rw [eI_1]; exact mP17 hv hm
  have nf : nF mo I I_1 := nF_t nf (by rw [eI_1]; exact nF_p (by decide))
  have u_3_2 : (I_1 mo 2).toInt = (I mo 2).toInt := by rw [nf 2 (by decide) (by decide) (by decide) (by decide) (by decide)]
  have u_3_5 : (I_1 mo 5).toInt = (I mo 5).toInt := by rw [nf 5 (by decide) (by decide) (by decide) (by decide) (by decide)]
  have u_3_14 : (I_1 mo 14).toInt = (I mo 14).toInt := by rw [nf 14 (by decide) (by decide) (by decide) (by decide) (by decide)]
  have u_3_16 : (I_1 mo 16).toInt = (I mo 16).toInt := by rw [nf 16 (by decide) (by decide) (by decide) (by decide) (by decide)]
  have u_3_24 : (I_1 mo 24).toInt = (I mo 24).toInt := by rw [nf 24 (by decide) (by decide) (by decide) (by decide) (by decide)]
  have i8 : I mo 8 = I mo 8 := rfl
  have i9 : I mo 9 = I mo 9 := rfl
  have i10 : I mo 10 = I mo 10 := rfl
  have i14 : I mo 14 = I mo 14 := rfl
  have i8 : I_1 mo 8 = I mo 8 := (show I_1 mo 8 = I mo 8 by rw [eI_1, gup2_k _ _ (by decide)]).trans i8
  have i9 : I_1 mo 9 = I mo 9 := (show I_1 mo 9 = I mo 9 by rw [eI_1, gup2_k _ _ (by decide)]).trans i9
  have i10 : I_1 mo 10 = I mo 10 := (show I_1 mo 10 = I mo 10 by rw [eI_1, gup2_k _ _ (by decide)]).trans i10
  have i14 : I_1 mo 14 = I mo 14 := (show I_1 mo 14 = I mo 14 by rw [eI_1, gup2_k _ _ (by decide)]).trans i14
  refine z_iconst F dX7_told_5 ?_
  refine lv_istore_n (lv' := [(2, .int (iI 0)), (0, .ref mo), (1, .int (iI wh))]) F.1 F.2.1 dX7_told_6 rfl hl (by decide) rfl (fun ls hl => ?_)
  refine lv_iload_n F.1 F.2.1 dX7_told_7 rfl (lv_at hl 2 rfl) ?_
  have ec_4 : (iI wh).toInt = wh := iI_val zwh
  by_cases c_4 : wh < 0 ∨ 9 < wh
  · refine lv_tableOut (tgt := 168) F.1 F.2.1 dX7_told_8 (by rw [ec_4]; exact c_4) (by decide) ?_
    refine z_iconst F dX7_told_168 ?_
    exact g_iret F hr hlk hH hS hz ⟨by decide, by decide⟩ ⟨rfl, rfl, rfl, rfl, hv, hT, nf, fun _ => by omega, Or.inr (Or.inr (Or.inr (Or.inr (Or.inr (Or.inr (Or.inr (Or.inr (Or.inr (Or.inr (⟨by omega, rfl⟩)))))))))), fun _ _ => rfl⟩ dX7_told_169
  by_cases c_4_0 : wh = 0
  · refine lv_tableIn (tgt := 64) (off := 56) F.1 F.2.1 dX7_told_8 (by rw [ec_4]; omega) (by rw [ec_4]; omega) (by rw [ec_4, c_4_0]; rfl) (by decide) ?_
    refine lv_aload_n F.1 F.2.1 dX7_told_64 rfl (lv_at hl 1 rfl) ?_
    have b_5 := mJ hv hm
    unfold mNum1 at b_5
    refine g_calli (g_runV (As := []) (rest := []) (ci := 7) F hl.1 hH hS hz (c_X7_tablesf l g gh T I_1 R J AI AJ AR mo hv hm hT) (cwV 0 F.2.2.2.2.1 (good_up gT_X7_tables) rfl rfl rfl hdX7_tables ⟨Nat.le_of_ble_eq_true rfl, Nat.le_of_ble_eq_true rfl⟩) hm (by decide) rfl rfl rfl (Nat.le_of_ble_eq_true rfl) dX7_told_65 ⟨Nat.zero_le _, Nat.zero_le _⟩) hS (fun v_12 I_6 R_7 J_8 AI_9 AJ_10 AR_11 H locs zv_12 hp_13 hH hS => ?_)
    dsimp only at hp_13
    obtain ⟨rfl, rfl, rfl, rfl, rfl, rfl, q_14, hvw, qtt⟩ := hp_13
    have ht65 : v_12 = tbs := tb_eq (many := (I mo 2).toInt) (by omega) (fun r h1 h2 => hvw r h1 (by omega)) qtt (by omega) hpl.2.1 (pl_6 hpl hmr)
    exact g_iret F hr hlk hH hS hz zv_12 ⟨rfl, rfl, rfl, rfl, hv, hT, nf, fun _ => by omega, Or.inl ⟨by omega, ht65⟩, fun _ _ => rfl⟩ dX7_told_68
  by_cases c_4_1 : wh = 1
  · refine lv_tableIn (tgt := 69) (off := 61) F.1 F.2.1 dX7_told_8 (by rw [ec_4]; omega) (by rw [ec_4]; omega) (by rw [ec_4, c_4_1]; rfl) (by decide) ?_
    refine lv_aload_n F.1 F.2.1 dX7_told_69 rfl (lv_at hl 1 rfl) ?_
    refine g_getI (ci := 7) (k := 2) F hH rfl (by decide) iX7 hm (by decide) rfl k64 dX7_told_70 ?_
    have b_15 := mJ hv hm
    unfold mNum1 at b_15
    refine lv_aload_n F.1 F.2.1 dX7_told_73 rfl (lv_at hl 1 rfl) ?_
    refine g_calli (g_runV (As := []) (rest := [.int (iI ((I_1 mo 2).toInt))]) (ci := 7) F hl.1 hH hS hz (c_X7_tablesf l g gh T I_1 R J AI AJ AR mo hv hm hT) (cwV 0 F.2.2.2.2.1 (good_up gT_X7_tables) rfl rfl rfl hdX7_tables ⟨Nat.le_of_ble_eq_true rfl, Nat.le_of_ble_eq_true rfl⟩) hm (by decide) rfl rfl rfl (Nat.le_of_ble_eq_true rfl) dX7_told_74 ⟨Nat.zero_le _, Nat.zero_le _⟩) hS (fun v_22 I_16 R_17 J_18 AI_19 AJ_20 AR_21 H locs zv_22 hp_23 hH hS => ?_)
    dsimp only at hp_23
    obtain ⟨rfl, rfl, rfl, rfl, rfl, rfl, q_24, hvw, qtt⟩ := hp_23
    have ht74 : v_22 = tbs := tb_eq (many := (I mo 2).toInt) (by omega) (fun r h1 h2 => hvw r h1 (by omega)) qtt (by omega) hpl.2.1 (pl_6 hpl hmr)
    refine z_isub F dX7_told_77 ?_
    exact g_iret F hr hlk hH hS hz ⟨by omega, by omega⟩ ⟨rfl, rfl, rfl, rfl, hv, hT, nf, fun _ => by omega, Or.inr (Or.inl ⟨by omega, by omega⟩), fun _ _ => rfl⟩ dX7_told_78
  by_cases c_4_2 : wh = 2
  · refine lv_tableIn (tgt := 79) (off := 71) F.1 F.2.1 dX7_told_8 (by rw [ec_4]; omega) (by rw [ec_4]; omega) (by rw [ec_4, c_4_2]; rfl) (by decide) ?_
    refine lv_aload_n F.1 F.2.1 dX7_told_79 rfl (lv_at hl 1 rfl) ?_
    refine g_getI (ci := 7) (k := 9) F hH rfl (by decide) iX7 hm (by decide) rfl k260 dX7_told_80 ?_
    refine z_norm (fun v_25 zv_25 ev_25 => ?_)
    exact g_iret F hr hlk hH hS hz zv_25 ⟨rfl, rfl, rfl, rfl, hv, hT, nf, fun _ => by omega, Or.inr (Or.inr (Or.inl ⟨by omega, by rw [ev_25, iI_self]; exact i9⟩)), fun _ _ => rfl⟩ dX7_told_83
  by_cases c_4_3 : wh = 3
  · refine lv_tableIn (tgt := 84) (off := 76) F.1 F.2.1 dX7_told_8 (by rw [ec_4]; omega) (by rw [ec_4]; omega) (by rw [ec_4, c_4_3]; rfl) (by decide) ?_
    refine lv_aload_n F.1 F.2.1 dX7_told_84 rfl (lv_at hl 1 rfl) ?_
    refine g_getI (ci := 7) (k := 10) F hH rfl (by decide) iX7 hm (by decide) rfl k263 dX7_told_85 ?_
    refine z_norm (fun v_26 zv_26 ev_26 => ?_)
    exact g_iret F hr hlk hH hS hz zv_26 ⟨rfl, rfl, rfl, rfl, hv, hT, nf, fun _ => by omega, Or.inr (Or.inr (Or.inr (Or.inl ⟨by omega, by rw [ev_26, iI_self]; exact i10⟩))), fun _ _ => rfl⟩ dX7_told_88
  by_cases c_4_4 : wh = 4
  · refine lv_tableIn (tgt := 89) (off := 81) F.1 F.2.1 dX7_told_8 (by rw [ec_4]; omega) (by rw [ec_4]; omega) (by rw [ec_4, c_4_4]; rfl) (by decide) ?_
    refine lv_aload_n F.1 F.2.1 dX7_told_89 rfl (lv_at hl 1 rfl) ?_
    refine g_getI (ci := 7) (k := 8) F hH rfl (by decide) iX7 hm (by decide) rfl k257 dX7_told_90 ?_
    have b_27 := mJ hv hm
    unfold mNum1 at b_27
    exact g_iret F hr hlk hH hS hz (zr_t _) ⟨rfl, rfl, rfl, rfl, hv, hT, nf, fun _ => by omega, Or.inr (Or.inr (Or.inr (Or.inr (Or.inl ⟨by omega, by rw [← i8]⟩)))), fun _ _ => rfl⟩ dX7_told_93
  by_cases c_4_5 : wh = 5
  · refine lv_tableIn (tgt := 94) (off := 86) F.1 F.2.1 dX7_told_8 (by rw [ec_4]; omega) (by rw [ec_4]; omega) (by rw [ec_4, c_4_5]; rfl) (by decide) ?_
    refine lv_aload_n F.1 F.2.1 dX7_told_94 rfl (lv_at hl 1 rfl) ?_
    refine g_getI (ci := 7) (k := 14) F hH rfl (by decide) iX7 hm (by decide) rfl k266 dX7_told_95 ?_
    have b_28 := mJ hv hm
    unfold mNum1 at b_28
    exact g_iret F hr hlk hH hS hz (zr_t _) ⟨rfl, rfl, rfl, rfl, hv, hT, nf, fun _ => by omega, Or.inr (Or.inr (Or.inr (Or.inr (Or.inr (Or.inl ⟨by omega, by omega⟩))))), fun _ _ => rfl⟩ dX7_told_98
  by_cases c_4_6 : wh = 6
  · refine lv_tableIn (tgt := 99) (off := 91) F.1 F.2.1 dX7_told_8 (by rw [ec_4]; omega) (by rw [ec_4]; omega) (by rw [ec_4, c_4_6]; rfl) (by decide) ?_
    refine lv_aload_n F.1 F.2.1 dX7_told_99 rfl (lv_at hl 1 rfl) ?_
    have b_29 := mJ hv hm
    unfold mNum1 at b_29
    refine g_calli (g_runV (As := []) (rest := []) (ci := 7) F hl.1 hH hS hz (c_X7_tablesf l g gh T I_1 R J AI AJ AR mo hv hm hT) (cwV 0 F.2.2.2.2.1 (good_up gT_X7_tables) rfl rfl rfl hdX7_tables ⟨Nat.le_of_ble_eq_true rfl, Nat.le_of_ble_eq_true rfl⟩) hm (by decide) rfl rfl rfl (Nat.le_of_ble_eq_true rfl) dX7_told_100 ⟨Nat.zero_le _, Nat.zero_le _⟩) hS (fun v_36 I_30 R_31 J_32 AI_33 AJ_34 AR_35 H locs zv_36 hp_37 hH hS => ?_)
    dsimp only at hp_37
    obtain ⟨rfl, rfl, rfl, rfl, rfl, rfl, q_38, hvw, qtt⟩ := hp_37
    have ht100 : v_36 = tbs := tb_eq (many := (I mo 2).toInt) (by omega) (fun r h1 h2 => hvw r h1 (by omega)) qtt (by omega) hpl.2.1 (pl_6 hpl hmr)
    refine lv_istore_n (lv' := [(3, .int (iI v_36)), (2, .int (iI 0)), (0, .ref mo), (1, .int (iI wh))]) F.1 F.2.1 dX7_told_103 rfl hl (by decide) rfl (fun ls hl => ?_)
    have cut_104_38 : ∀ (NN : Nat) (n k : Int) (H : Heap) (locs : List Loc) (ls : Array Slot), zr n → zr k → (0 ≤ k ∧ k ≤ 16 ∧ 0 ≤ n ∧ n ≤ 120 * k) → (n = smL (fun r => (((rfM gh AI 0 r).1 : Nat) : Int)) tbs.toNat (k - tbs).toNat ∧ tbs ≤ k ∧ k ≤ (nr : Int)) → (16 - k) < ((NN : Nat) : Int) → gH g I_1 R J AI AJ AR H → va_S (gA g) s.heap H locs → lv_has ls 4 [(3, .int (iI k)), (2, .int (iI n)), (0, .ref mo), (1, .int (iI wh))] → W p l e rmX7_toldf s m ([.ref mo, .int (iI wh)] : List Value).toArray below meth c H locs 0 0 (MQ below (gQi g (fun (z : Int) (w : gS) => R = w.2.1 ∧ J = w.2.2.1 ∧ AJ = w.2.2.2.2.1 ∧ AR = w.2.2.2.2.2 ∧ (mInv g gh R (w.1) (w.2.2.2.1)) ∧ ((w.2.2.2.1) (gh 50 0) = T) ∧ (nF mo I (w.1)) ∧ (wh = 9 → z = (I mo 16).toInt) ∧ ((wh = 0 ∧ z = tbs) ∨ (wh = 1 ∧ z = (nr : Int) - tbs) ∨ (wh = 2 ∧ iI z = I mo 9) ∨ (wh = 3 ∧ iI z = I mo 10) ∨ (wh = 4 ∧ z = (I mo 8).toInt) ∨ (wh = 5 ∧ z = (I mo 14).toInt) ∨ (wh = 6 ∧ z = smL (fun r => (((rfM gh AI 0 r).1 : Nat) : Int)) tbs.toNat (nr - tbs.toNat)) ∨ (wh = 7 ∧ z = smL (fun r => ((bgN (mvF gh AI r) : Nat) : Int)) tbs.toNat (nr - tbs.toNat)) ∨ (wh = 8 ∧ z = smL (ctF gh AI cc) tbs.toNat (nr - tbs.toNat)) ∨ (wh = 9 ∧ z = (I mo 16).toInt) ∨ ((wh < 0 ∨ 9 < wh) ∧ z = -1)) ∧ (∀ b, b ≠ gh 81 0 → (w.2.2.2.1) b = AI b))) ([.ref mo, .int (iI wh)] : List Value).toArray s 0 0 (gA g)) (F0 m 104 ls []) := by
      intro NN104
      induction NN104 with
      | zero =>
        intro n k H locs ls zn zk hk hsm hm104 hH hS hl
        exact absurd hm104 (by omega)
      | succ NN104 ih104 =>
        intro n k H locs ls zn zk hk hsm hm104 hH hS hl
        have hsk := hsm.2
        have hsm := hsm.1
        refine lv_iload_n F.1 F.2.1 dX7_told_104 rfl (lv_at hl 0 rfl) ?_
        refine lv_aload_n F.1 F.2.1 dX7_told_105 rfl (lv_at hl 2 rfl) ?_
        refine g_getI (ci := 7) (k := 2) F hH rfl (by decide) iX7 hm (by decide) rfl k64 dX7_told_106 ?_
        refine z_icmp_ge (tgt := 127) F dX7_told_109 (by decide) zk (zr_t _) (fun c_40 => ?_) (fun c_40 => ?_)
        · refine lv_iload_n F.1 F.2.1 dX7_told_127 rfl (lv_at hl 1 rfl) ?_
          exact g_iret F hr hlk hH hS hz zn ⟨rfl, rfl, rfl, rfl, hv, hT, nf, fun _ => by omega, Or.inr (Or.inr (Or.inr (Or.inr (Or.inr (Or.inr (Or.inl ⟨by omega, by rw [show nr - tbs.toNat = (k - tbs).toNat by omega]; exact hsm⟩)))))), fun _ _ => rfl⟩ dX7_told_128
        · refine lv_iload_n F.1 F.2.1 dX7_told_112 rfl (lv_at hl 1 rfl) ?_
          refine lv_aload_n F.1 F.2.1 dX7_told_113 rfl (lv_at hl 2 rfl) ?_
          refine z_iconst F dX7_told_114 ?_
          refine lv_iload_n F.1 F.2.1 dX7_told_115 rfl (lv_at hl 0 rfl) ?_
          refine g_calli (g_runV (As := [.int (iI 0), .int (iI k)]) (rest := [.int (iI n)]) (ci := 7) F hl.1 hH hS hz (c_X7_sizeOf l g gh T I_1 R J AI AJ AR mo 0 k ⟨by decide, by decide⟩ zk hv hm hT (by omega) (by omega)) (cwV 2 F.2.2.2.2.1 (good_up gT_X7_sizeOf) rfl rfl rfl hdX7_sizeOf ⟨Nat.le_of_ble_eq_true rfl, Nat.le_of_ble_eq_true rfl⟩) hm (by decide) rfl rfl rfl (Nat.le_of_ble_eq_true rfl) dX7_told_116 ⟨Nat.zero_le _, Nat.zero_le _⟩) hS (fun v_47 I_41 R_42 J_43 AI_44 AJ_45 AR_46 H locs zv_47 hp_48 hH hS => ?_)
          dsimp only at hp_48
          obtain ⟨rfl, rfl, rfl, rfl, rfl, rfl, q_49, qsz⟩ := hp_48
          have hs116 : v_47 = (((rfM gh AI 0 k.toNat).1 : Nat) : Int) := by rw [rfM_1 (by omega), qsz]; unfold tI; have h8 := (mSz hv hm (z := 16 * 0 + k) (by omega) (by omega)).1; omega
          have hsm9 := smL_s (f := (fun r => (((rfM gh AI 0 r).1 : Nat) : Int))) (by omega) (by omega) hsm
          refine z_iadd F dX7_told_119 ?_
          refine lv_istore_n (lv' := [(2, .int (iI (n + v_47))), (3, .int (iI k)), (0, .ref mo), (1, .int (iI wh))]) F.1 F.2.1 dX7_told_120 rfl hl (by decide) rfl (fun ls hl => ?_)
          refine z_iinc (lv' := [(3, .int (iI (k + 1))), (2, .int (iI (n + v_47))), (0, .ref mo), (1, .int (iI wh))]) F dX7_told_121 hl (k := 1) rfl (by decide) rfl (fun ls hl => ?_)
          refine z_goto (tgt := 104) F dX7_told_124 (by decide) ?_
          exact ih104 (n + v_47) (k + 1) H locs ls ⟨by omega, by omega⟩ ⟨by omega, by omega⟩ (by omega) ⟨by rw [hs116]; exact hsm9, by omega, by omega⟩ (by omega) hH hS (lv_sub hl [0, 1, 2, 3] rfl)
    exact cut_104_38 (((16 - v_36) + 1 : Int).toNat) 0 v_36 H locs ls ⟨by decide, by decide⟩ zv_36 (by omega) ⟨by rw [show (v_36 - tbs).toNat = 0 by omega]; rfl, by omega, by omega⟩ (by omega) hH hS (lv_sub hl [0, 1, 2, 3] rfl)
  by_cases c_4_7 : wh = 7
  · refine lv_tableIn (tgt := 129) (off := 121) F.1 F.2.1 dX7_told_8 (by rw [ec_4]; omega) (by rw [ec_4]; omega) (by rw [ec_4, c_4_7]; rfl) (by decide) ?_
    refine lv_aload_n F.1 F.2.1 dX7_told_129 rfl (lv_at hl 1 rfl) ?_
    have b_50 := mJ hv hm
    unfold mNum1 at b_50
    refine g_calli (g_runV (As := []) (rest := []) (ci := 7) F hl.1 hH hS hz (c_X7_movedInViewsf l g gh T tbs nr cc cl I_1 R J AI AJ AR mo hv hm hT (by omega) hpl hbg hb9) (cwV 0 F.2.2.2.2.1 (good_up gT_X7_movedInViews) rfl rfl rfl hdX7_movedInViews ⟨Nat.le_of_ble_eq_true rfl, Nat.le_of_ble_eq_true rfl⟩) hm (by decide) rfl rfl rfl (Nat.le_of_ble_eq_true rfl) dX7_told_130 ⟨Nat.zero_le _, Nat.zero_le _⟩) hS (fun v_57 I_51 R_52 J_53 AI_54 AJ_55 AR_56 H locs zv_57 hp_58 hH hS => ?_)
    dsimp only at hp_58
    obtain ⟨rfl, rfl, rfl, rfl, rfl, hv, hT, fMq, qsm⟩ := hp_58
    exact g_iret F hr hlk hH hS hz zv_57 ⟨rfl, rfl, rfl, rfl, hv, hT, nf, fun _ => by omega, Or.inr (Or.inr (Or.inr (Or.inr (Or.inr (Or.inr (Or.inr (Or.inl ⟨by omega, qsm⟩))))))), fMq⟩ dX7_told_133
  by_cases c_4_8 : wh = 8
  · refine lv_tableIn (tgt := 134) (off := 126) F.1 F.2.1 dX7_told_8 (by rw [ec_4]; omega) (by rw [ec_4]; omega) (by rw [ec_4, c_4_8]; rfl) (by decide) ?_
    refine lv_aload_n F.1 F.2.1 dX7_told_134 rfl (lv_at hl 1 rfl) ?_
    have b_59 := mJ hv hm
    unfold mNum1 at b_59
    refine g_calli (g_runV (As := []) (rest := []) (ci := 7) F hl.1 hH hS hz (c_X7_tablesf l g gh T I_1 R J AI AJ AR mo hv hm hT) (cwV 0 F.2.2.2.2.1 (good_up gT_X7_tables) rfl rfl rfl hdX7_tables ⟨Nat.le_of_ble_eq_true rfl, Nat.le_of_ble_eq_true rfl⟩) hm (by decide) rfl rfl rfl (Nat.le_of_ble_eq_true rfl) dX7_told_135 ⟨Nat.zero_le _, Nat.zero_le _⟩) hS (fun v_66 I_60 R_61 J_62 AI_63 AJ_64 AR_65 H locs zv_66 hp_67 hH hS => ?_)
    dsimp only at hp_67
    obtain ⟨rfl, rfl, rfl, rfl, rfl, rfl, q_68, hvw, qtt⟩ := hp_67
    obtain ⟨tb, etb⟩ : ∃ q, q = v_66 := ⟨_, rfl⟩
    have ht135 : v_66 = tbs := tb_eq (many := (I mo 2).toInt) (by omega) (fun r h1 h2 => hvw r h1 (by omega)) qtt (by omega) hpl.2.1 (pl_6 hpl hmr)
    refine lv_istore_n (lv' := [(3, .int (iI v_66)), (2, .int (iI 0)), (0, .ref mo), (1, .int (iI wh))]) F.1 F.2.1 dX7_told_138 rfl hl (by decide) rfl (fun ls hl => ?_)
    have cut_139_69 : ∀ (NN : Nat) (n k : Int) (AI_69 : gI) (H : Heap) (locs : List Loc) (ls : Array Slot), zr n → zr k → (mInv g gh R I_1 AI_69) → (AI_69 (gh 50 0) = T) → (tb ≤ k ∧ 0 ≤ k ∧ k ≤ 16 ∧ 0 ≤ n ∧ n ≤ 480 * k) → (∀ b, b ≠ gh 81 0 → AI_69 b = AI b) → (n = smL (ctF gh AI cc) tbs.toNat (k - tbs).toNat ∧ tbs ≤ k ∧ k ≤ (nr : Int)) → (16 - k) < ((NN : Nat) : Int) → gH g I_1 R J AI_69 AJ AR H → va_S (gA g) s.heap H locs → lv_has ls 4 [(3, .int (iI k)), (2, .int (iI n)), (0, .ref mo), (1, .int (iI wh))] → W p l e rmX7_toldf s m ([.ref mo, .int (iI wh)] : List Value).toArray below meth c H locs 0 0 (MQ below (gQi g (fun (z : Int) (w : gS) => R = w.2.1 ∧ J = w.2.2.1 ∧ AJ = w.2.2.2.2.1 ∧ AR = w.2.2.2.2.2 ∧ (mInv g gh R (w.1) (w.2.2.2.1)) ∧ ((w.2.2.2.1) (gh 50 0) = T) ∧ (nF mo I (w.1)) ∧ (wh = 9 → z = (I mo 16).toInt) ∧ ((wh = 0 ∧ z = tbs) ∨ (wh = 1 ∧ z = (nr : Int) - tbs) ∨ (wh = 2 ∧ iI z = I mo 9) ∨ (wh = 3 ∧ iI z = I mo 10) ∨ (wh = 4 ∧ z = (I mo 8).toInt) ∨ (wh = 5 ∧ z = (I mo 14).toInt) ∨ (wh = 6 ∧ z = smL (fun r => (((rfM gh AI 0 r).1 : Nat) : Int)) tbs.toNat (nr - tbs.toNat)) ∨ (wh = 7 ∧ z = smL (fun r => ((bgN (mvF gh AI r) : Nat) : Int)) tbs.toNat (nr - tbs.toNat)) ∨ (wh = 8 ∧ z = smL (ctF gh AI cc) tbs.toNat (nr - tbs.toNat)) ∨ (wh = 9 ∧ z = (I mo 16).toInt) ∨ ((wh < 0 ∨ 9 < wh) ∧ z = -1)) ∧ (∀ b, b ≠ gh 81 0 → (w.2.2.2.1) b = AI b))) ([.ref mo, .int (iI wh)] : List Value).toArray s 0 0 (gA g)) (F0 m 139 ls []) := by
      intro NN139
      induction NN139 with
      | zero =>
        intro n k AI_69 H locs ls zn zk hv hT hk fM hsm hm139 hH hS hl
        exact absurd hm139 (by omega)
      | succ NN139 ih139 =>
        intro n k AI_69 H locs ls zn zk hv hT hk fM hsm hm139 hH hS hl
        have h56 : AI_69 (gh 56 0) = AI (gh 56 0) := fM _ (show gh 56 0 ≠ gh 81 0 from mNe hv hm (p := (6, 126720)) (q := (31, 1200)) (by decide) (by decide) (by decide))
        have h57 : AI_69 (gh 57 0) = AI (gh 57 0) := fM _ (show gh 57 0 ≠ gh 81 0 from mNe hv hm (p := (7, 176)) (q := (31, 1200)) (by decide) (by decide) (by decide))
        have hsk := hsm.2
        have hsm := hsm.1
        refine lv_iload_n F.1 F.2.1 dX7_told_139 rfl (lv_at hl 0 rfl) ?_
        refine lv_aload_n F.1 F.2.1 dX7_told_140 rfl (lv_at hl 2 rfl) ?_
        refine g_getI (ci := 7) (k := 2) F hH rfl (by decide) iX7 hm (by decide) rfl k64 dX7_told_141 ?_
        refine z_icmp_ge (tgt := 161) F dX7_told_144 (by decide) zk (zr_t _) (fun c_71 => ?_) (fun c_71 => ?_)
        · refine lv_iload_n F.1 F.2.1 dX7_told_161 rfl (lv_at hl 1 rfl) ?_
          exact g_iret F hr hlk hH hS hz zn ⟨rfl, rfl, rfl, rfl, hv, hT, nf, fun _ => by omega, Or.inr (Or.inr (Or.inr (Or.inr (Or.inr (Or.inr (Or.inr (Or.inr (Or.inl ⟨by omega, by rw [show nr - tbs.toNat = (k - tbs).toNat by omega]; exact hsm⟩)))))))), fM⟩ dX7_told_162
        · have hlv9 := hpl.2.2 k.toNat (by omega) (by omega)
          rw [show ((k.toNat : Nat) : Int) = k by omega] at hlv9
          refine lv_iload_n F.1 F.2.1 dX7_told_147 rfl (lv_at hl 1 rfl) ?_
          refine lv_aload_n F.1 F.2.1 dX7_told_148 rfl (lv_at hl 2 rfl) ?_
          refine lv_iload_n F.1 F.2.1 dX7_told_149 rfl (lv_at hl 0 rfl) ?_
          refine g_calli (g_runV (As := [.int (iI k)]) (rest := [.int (iI n)]) (ci := 7) F hl.1 hH hS hz (c_X7_cameTof l g gh T (cc k.toNat) nr cl I_1 R J AI_69 AJ AR mo k zk hv hm hT (by omega) (hvw k (by omega) (by omega)) (by omega) hlv9.1 hlv9.2.1 (by rw [rfM_g h56 h57]; exact hbg) (by rw [rfM_g h56 h57]; exact hb9)) (cwV 1 F.2.2.2.2.1 (good_up gT_X7_cameTo) rfl rfl rfl hdX7_cameTo ⟨Nat.le_of_ble_eq_true rfl, Nat.le_of_ble_eq_true rfl⟩) hm (by decide) rfl rfl rfl (Nat.le_of_ble_eq_true rfl) dX7_told_150 ⟨Nat.zero_le _, Nat.zero_le _⟩) hS (fun v_78 I_72 R_73 J_74 AI_75 AJ_76 AR_77 H locs zv_78 hp_79 hH hS => ?_)
          dsimp only at hp_79
          obtain ⟨rfl, rfl, rfl, rfl, rfl, hv, hT, q_80, fMq, qct⟩ := hp_79
          have hz150 : v_78 = ctF gh AI cc k.toNat := by rw [qct]; unfold ctF mvF; rw [rfM_g h56 h57, rfM_g h56 h57]
          have hsm9 := smL_s (f := (ctF gh AI cc)) (by omega) (by omega) hsm
          have fM : ∀ b, b ≠ gh 81 0 → AI_75 b = AI b := fun b h1 => (fMq b h1).trans (fM b h1)
          refine z_iadd F dX7_told_153 ?_
          refine lv_istore_n (lv' := [(2, .int (iI (n + v_78))), (3, .int (iI k)), (0, .ref mo), (1, .int (iI wh))]) F.1 F.2.1 dX7_told_154 rfl hl (by decide) rfl (fun ls hl => ?_)
          refine z_iinc (lv' := [(3, .int (iI (k + 1))), (2, .int (iI (n + v_78))), (0, .ref mo), (1, .int (iI wh))]) F dX7_told_155 hl (k := 1) rfl (by decide) rfl (fun ls hl => ?_)
          refine z_goto (tgt := 139) F dX7_told_158 (by decide) ?_
          exact ih139 (n + v_78) (k + 1) AI_75 H locs ls ⟨by omega, by omega⟩ ⟨by omega, by omega⟩ hv hT (by omega) fM ⟨by rw [hz150]; exact hsm9, by omega, by omega⟩ (by omega) hH hS (lv_sub hl [0, 1, 2, 3] rfl)
    exact cut_139_69 (((16 - v_66) + 1 : Int).toNat) 0 v_66 AI H locs ls ⟨by decide, by decide⟩ zv_66 hv hT (by omega) (fun _ _ => rfl) ⟨by rw [show (v_66 - tbs).toNat = 0 by omega]; rfl, by omega, by omega⟩ (by omega) hH hS (lv_sub hl [0, 1, 2, 3] rfl)
  have c_4_9 : wh = 9 := by omega
  refine lv_tableIn (tgt := 163) (off := 155) F.1 F.2.1 dX7_told_8 (by rw [ec_4]; omega) (by rw [ec_4]; omega) (by rw [ec_4, c_4_9]; rfl) (by decide) ?_
  refine lv_aload_n F.1 F.2.1 dX7_told_163 rfl (lv_at hl 1 rfl) ?_
  refine g_getI (ci := 7) (k := 16) F hH rfl (by decide) iX7 hm (by decide) rfl k71 dX7_told_164 ?_
  have b_81 := mJ hv hm
  unfold mNum1 at b_81
  exact g_iret F hr hlk hH hS hz (zr_t _) ⟨rfl, rfl, rfl, rfl, hv, hT, nf, fun _ => by omega, Or.inr (Or.inr (Or.inr (Or.inr (Or.inr (Or.inr (Or.inr (Or.inr (Or.inr (Or.inl ⟨by omega, by omega⟩))))))))), fun _ _ => rfl⟩ dX7_told_167
