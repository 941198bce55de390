def rmX7_atf : Room := { frames := 3, cells := 0, slots := 0, locals := 65 }
set_option maxHeartbeats 4000000 in
set_option maxRecDepth 100000 in
/-- at -/
theorem c_X7_atf (l : Launch) (g : gG) (gh : gGh) (T : Nat → Int32) (nr : Nat) (I : gI) (R : gR) (J : gJ) (AI : gI) (AJ : gJ) (AR : gR) (mo : Nat) (rr : Int) (ip : Int) (wh : Int) (zrr : zr rr) (zip : zr ip) (zwh : zr wh) (hv : mInv g gh R I AI) (hm : gO g mo 7) (hT : AI (gh 50 0) = T) (hmr : (I mo 2).toInt = (nr : Int)) : gMet l g yX7_at tsX7_at rmX7_atf [.ref mo, .int (iI rr), .int (iI ip), .int (iI wh)] (I, R, J, AI, AJ, AR) (gQi g (fun (z : Int) (w : gS) => R = w.2.1 ∧ J = w.2.2.1 ∧ AI = w.2.2.2.1 ∧ AJ = w.2.2.2.2.1 ∧ AR = w.2.2.2.2.2 ∧ (mInv g gh R (w.1) AI) ∧ (nF mo I (w.1)) ∧ ((((w.1) mo 17).toInt = 1 ∧ z = 0 ∧ ¬ (tdM T nr rr wh ∧ 0 ≤ ip ∧ ip < (((rfM gh AI 0 rr.toNat).1 : Nat) : Int))) ∨ (((w.1) mo 17).toInt = 0 ∧ (tdM T nr rr wh ∧ 0 ≤ ip ∧ ip < (((rfM gh AI 0 rr.toNat).1 : Nat) : Int)) ∧ z = ((rfM gh AI 0 rr.toNat).2 (6 * ip.toNat + wh.toNat)).toInt)))) := by
  refine gStart (cc := cX7_at) (maxL := 4) (ret := (some (.int))) (by decide) rfl (Nat.le_of_ble_eq_true rfl) ?_
  intro p e s m below meth c ls F hr hlk hH hz hS hl
  have hl : lv_has ls 4 [(0, .ref mo), (1, .int (iI rr)), (2, .int (iI ip)), (3, .int (iI wh))] := hl
  have hS : va_S (gA g) s.heap s.heap [] := hS
  obtain ⟨H, hHe⟩ : ∃ H : Heap, H = s.heap := ⟨_, rfl⟩
  obtain ⟨locs, hlo⟩ : ∃ k : List Loc, k = [] := ⟨_, rfl⟩
  have hH : gH g I R J AI AJ AR H := by rw [hHe]; exact hH
  have hS : va_S (gA g) s.heap H locs := by rw [hHe, hlo]; exact hS
  suffices hw : W p l e rmX7_atf s m ([.ref mo, .int (iI rr), .int (iI ip), .int (iI wh)] : List Value).toArray below meth c H locs 0 0 (MQ below (gQi g (fun (z : Int) (w : gS) => R = w.2.1 ∧ J = w.2.2.1 ∧ AI = w.2.2.2.1 ∧ AJ = w.2.2.2.2.1 ∧ AR = w.2.2.2.2.2 ∧ (mInv g gh R (w.1) AI) ∧ (nF mo I (w.1)) ∧ ((((w.1) mo 17).toInt = 1 ∧ z = 0 ∧ ¬ (tdM T nr rr wh ∧ 0 ≤ ip ∧ ip < (((rfM gh AI 0 rr.toNat).1 : Nat) : Int))) ∨ (((w.1) mo 17).toInt = 0 ∧ (tdM T nr rr wh ∧ 0 ≤ ip ∧ ip < (((rfM gh AI 0 rr.toNat).1 : Nat) : Int)) ∧ z = ((rfM gh AI 0 rr.toNat).2 (6 * ip.toNat + wh.toNat)).toInt)))) ([.ref mo, .int (iI rr), .int (iI ip), .int (iI wh)] : List Value).toArray s 0 0 (gA g)) (F0 m 0 ls []) by
    rw [hHe, hlo] at hw; exact hw
  clear hHe hlo
  have nf : nF mo I I := nF_r
  have hb0 := mJ hv hm
  unfold mNum1 at hb0
  have iX7 : ∀ w ∈ u_ws RX7 TX7 32, w ∈ tsX7_at := fun w h => List.mem_cons_of_mem _ (inTB7 w h)
  have k60 : Cond.fieldLink RX7 60 (TX7 17).1 (TX7 17).2.1 (TX7 17).2.2.1 ∈ tsX7_at := List.mem_cons_of_mem _ fl_60
  have k24 : Cond.fieldLink RX7 24 (TX7 6).1 (TX7 6).2.1 (TX7 6).2.2.1 ∈ tsX7_at := List.mem_cons_of_mem _ fl_24
  refine lv_aload_n F.1 F.2.1 dX7_at_0 rfl (lv_at hl 0 rfl) ?_
  refine lv_aload_n F.1 F.2.1 dX7_at_1 rfl (lv_at hl 0 rfl) ?_
  refine lv_iload_n F.1 F.2.1 dX7_at_2 rfl (lv_at hl 1 rfl) ?_
  refine lv_iload_n F.1 F.2.1 dX7_at_3 rfl (lv_at hl 3 rfl) ?_
  have b_1 := mJ hv hm
  unfold mNum1 at b_1
  refine g_calli (g_runV (As := [.int (iI rr), .int (iI wh)]) (rest := [.ref mo]) (ci := 7) F hl.1 hH hS hz (c_X7_isToldf l g gh T nr I R J AI AJ AR mo rr wh zrr zwh hv hm hT hmr) (cwV 2 F.2.2.2.2.1 (good_up gT_X7_isTold) rfl rfl rfl hdX7_isTold ⟨Nat.le_of_ble_eq_true rfl, Nat.le_of_ble_eq_true rfl⟩) hm (by decide) rfl rfl rfl (Nat.le_of_ble_eq_true rfl) dX7_at_4 ⟨Nat.zero_le _, Nat.zero_le _⟩) hS (fun v_8 I_2 R_3 J_4 AI_5 AJ_6 AR_7 H locs zv_8 hp_9 hH hS => ?_)
  dsimp only at hp_9
  obtain ⟨rfl, rfl, rfl, rfl, rfl, rfl, q_10, qtd⟩ := hp_9
  refine z_if_eq (tgt := 30) F dX7_at_7 (by decide) zv_8 (fun c_11 => ?_) (fun c_11 => ?_)
  · refine z_iconst F dX7_at_30 ?_
    refine g_putI (ci := 7) (k := 17) F hH hS rfl (by decide) iX7 hm (by decide) tyX7 tyX7_ok nmX7 rfl rfl rfl k60 dX7_at_31 (fun H locs hH hS => ?_)
    obtain ⟨I_12, eI_12⟩ : ∃ qQ, qQ = gup2 I mo 17 (iI (1)) := ⟨_, rfl⟩
    rw [← eI_12] at hH
    have kI_12 : ∀ b, b ≠ mo → I_12 b = I b := fun b hb => by rw [eI_12]; exact funext fun j => gup2_a _ _ hb
    have w_13 : (I_12 mo 17).toInt = 1 := by rw [eI_12, gup2_s]; exact iI_val ⟨by decide, by decide⟩
    have hv : mInv g gh R I_12 AI := by rw [eI_12]; exact mP17 hv hm
    have nf : nF mo I I_12 := nF_t nf (by rw [eI_12]; exact nF_p (by decide))
    have u_14_2 : (I_12 mo 2).toInt = (I mo 2).toInt := by rw [nf 2 (by decide) (by decide) (by decide) (by decide) (by decide)]
    have u_14_5 : (I_12 mo 5).toInt = (I mo 5).toInt := by rw [nf 5 (by decide) (by decide) (by decide) (by decide) (by decide)]
    have u_14_14 : (I_12 mo 14).toInt = (I mo 14).toInt := by rw [nf 14 (by decide) (by decide) (by decide) (by decide) (by decide)]
    have u_14_16 : (I_12 mo 16).toInt = (I mo 16).toInt := by rw [nf 16 (by decide) (by decide) (by decide) (by decide) (by decide)]
    have u_14_24 : (I_12 mo 24).toInt = (I mo 24).toInt := by rw [nf 24 (by decide) (by decide) (by decide) (by decide) (by decide)]
    refine lv_aload_n F.1 F.2.1 dX7_at_34 rfl (lv_at hl 0 rfl) ?_
    refine g_getI (ci := 7) (k := 17) F hH rfl (by decide) iX7 hm (by decide) rfl k60 dX7_at_35 ?_
    refine z_if_ne (tgt := 57) F dX7_at_38 (by decide) (zr_t _) (fun c_15 => ?_) (fun c_15 => ?_)
    · refine z_iconst F dX7_at_57 ?_
      exact g_iret F hr hlk hH hS hz ⟨by decide, by decide⟩ ⟨rfl, rfl, rfl, rfl, rfl, hv, nf, Or.inl ⟨by (try dsimp only); omega, rfl, (fun h9 => tIz_0 qtd (by omega) h9.1)⟩⟩ dX7_at_58
    · refine lv_aload_n F.1 F.2.1 dX7_at_41 rfl (lv_at hl 0 rfl) ?_
      obtain ⟨r_16a, r_16b⟩ : R mo 6 = some (gh 56 0) ∧ gAr g (gh 56 0) 9 126720 := mR hv hm (q := (6, 126720)) (by decide)
      refine g_getR (ci := 7) (k := 6) F hH rfl (by decide) iX7 hm (by decide) rfl (b := gh 56 0) r_16a k24 dX7_at_42 ?_
      refine z_iconst F dX7_at_45 ?_
      refine lv_iload_n F.1 F.2.1 dX7_at_46 rfl (lv_at hl 1 rfl) ?_
      refine lv_iload_n F.1 F.2.1 dX7_at_47 rfl (lv_at hl 2 rfl) ?_
      refine g_calli (g_runS (As := [.int (iI 0), .int (iI rr), .int (iI ip)]) (rest := [.ref (gh 56 0)]) F hl.1 hH hS hz (c_X7_spot l g  I_12 R J AI AJ AR 0 rr ip ⟨by decide, by decide⟩ zrr zip (by omega) (by omega) (by omega)) (va_cwS 3 F.2.2.2.2.1 (good_up gT_X7_spot) rfl rfl rfl hdX7_spot.2 ⟨Nat.le_of_ble_eq_true rfl, Nat.le_of_ble_eq_true rfl⟩) rfl rfl (Nat.le_of_ble_eq_true rfl) dX7_at_48 ⟨Nat.zero_le _, Nat.zero_le _⟩) hS (fun v_23 I_17 R_18 J_19 AI_20 AJ_21 AR_22 H locs zv_23 hp_24 hH hS => ?_)
      dsimp only at hp_24
      obtain ⟨rfl, rfl, rfl, rfl, rfl, rfl, q_25⟩ := hp_24
      refine lv_iload_n F.1 F.2.1 dX7_at_51 rfl (lv_at hl 3 rfl) ?_
      refine z_iadd F dX7_at_52 ?_
      have hx53 : 0 ≤ (v_23 + wh) ∧ (v_23 + wh) < ((126720 : Nat) : Int) ∧ (v_23 + wh) ≤ 2147483647 := ⟨by omega, by omega, by omega⟩
      refine g_iald F hH r_16b hx53.1 hx53.2.1 hx53.2.2 dX7_at_53 ?_
      refine z_name (fun v_26 ev_26 => ?_)
      have zv_26 : zr v_26 := by rw [ev_26]; exact zr_t _
      refine z_goto (tgt := 58) F dX7_at_54 (by decide) ?_
      exact g_iret F hr hlk hH hS hz zv_26 ⟨rfl, rfl, rfl, rfl, rfl, hv, nf, absurd trivial (by omega)⟩ dX7_at_58
  · refine lv_iload_n F.1 F.2.1 dX7_at_10 rfl (lv_at hl 2 rfl) ?_
    refine z_iconst F dX7_at_11 ?_
    refine lv_aload_n F.1 F.2.1 dX7_at_12 rfl (lv_at hl 0 rfl) ?_
    refine z_iconst F dX7_at_13 ?_
    refine lv_iload_n F.1 F.2.1 dX7_at_14 rfl (lv_at hl 1 rfl) ?_
    refine g_calli (g_runV (As := [.int (iI 0), .int (iI rr)]) (rest := [.int (iI 0), .int (iI ip), .ref mo]) (ci := 7) F hl.1 hH hS hz (c_X7_sizeOf l g gh T I R J AI AJ AR mo 0 rr ⟨by decide, by decide⟩ zrr hv hm hT (by omega) (by omega)) (cwV 2 F.2.2.2.2.1 (good_up gT_X7_sizeOf) rfl rfl rfl hdX7_sizeOf ⟨Nat.le_of_ble_eq_true rfl, Nat.le_of_ble_eq_true rfl⟩) hm (by decide) rfl rfl rfl (Nat.le_of_ble_eq_true rfl) dX7_at_15 ⟨Nat.zero_le _, Nat.zero_le _⟩) hS (fun v_33 I_27 R_28 J_29 AI_30 AJ_31 AR_32 H locs zv_33 hp_34 hH hS => ?_)
    dsimp only at hp_34
    obtain ⟨rfl, rfl, rfl, rfl, rfl, rfl, q_35, qsz⟩ := hp_34
    have hs15 : v_33 = (((rfM gh AI 0 rr.toNat).1 : Nat) : Int) := by rw [rfM_1 (by omega), qsz]; unfold tI; have h8 := (mSz hv hm (z := 16 * 0 + rr) (by omega) (by omega)).1; omega
    refine z_iconst F dX7_at_18 ?_
    refine z_isub F dX7_at_19 ?_
    refine g_calli (g_runS (As := [.int (iI ip), .int (iI 0), .int (iI (v_33 - 1))]) (rest := [.ref mo]) F hl.1 hH hS hz (c_X7_within l g  I R J AI AJ AR ip 0 (v_33 - 1) zip ⟨by decide, by decide⟩ ⟨by omega, by omega⟩) (va_cwS 3 F.2.2.2.2.1 (good_up gT_X7_within) rfl rfl rfl hdX7_within.2 ⟨Nat.le_of_ble_eq_true rfl, Nat.le_of_ble_eq_true rfl⟩) rfl rfl (Nat.le_of_ble_eq_true rfl) dX7_at_20 ⟨Nat.zero_le _, Nat.zero_le _⟩) hS (fun v_42 I_36 R_37 J_38 AI_39 AJ_40 AR_41 H locs zv_42 hp_43 hH hS => ?_)
    dsimp only at hp_43
    obtain ⟨rfl, rfl, rfl, rfl, rfl, rfl, q_44⟩ := hp_43
    refine z_if_eq (tgt := 30) F dX7_at_23 (by decide) zv_42 (fun c_45 => ?_) (fun c_45 => ?_)
    · refine z_iconst F dX7_at_30 ?_
      refine g_putI (ci := 7) (k := 17) F hH hS rfl (by decide) iX7 hm (by decide) tyX7 tyX7_ok nmX7 rfl rfl rfl k60 dX7_at_31 (fun H locs hH hS => ?_)
      obtain ⟨I_46, eI_46⟩ : ∃ qQ, qQ = gup2 I mo 17 (iI (1)) := ⟨_, rfl⟩
      rw [← eI_46] at hH
      have kI_46 : ∀ b, b ≠ mo → I_46 b = I b := fun b hb => by rw [eI_46]; exact funext fun j => gup2_a _ _ hb
      have w_47 : (I_46 mo 17).toInt = 1 := by rw [eI_46, gup2_s]; exact iI_val ⟨by decide, by decide⟩
      have hv : mInv g gh R I_46 AI := by rw [eI_46]; exact mP17 hv hm
      have nf : nF mo I I_46 := nF_t nf (by rw [eI_46]; exact nF_p (by decide))
      have u_48_2 : (I_46 mo 2).toInt = (I mo 2).toInt := by rw [nf 2 (by decide) (by decide) (by decide) (by decide) (by decide)]
      have u_48_5 : (I_46 mo 5).toInt = (I mo 5).toInt := by rw [nf 5 (by decide) (by decide) (by decide) (by decide) (by decide)]
      have u_48_14 : (I_46 mo 14).toInt = (I mo 14).toInt := by rw [nf 14 (by decide) (by decide) (by decide) (by decide) (by decide)]
      have u_48_16 : (I_46 mo 16).toInt = (I mo 16).toInt := by rw [nf 16 (by decide) (by decide) (by decide) (by decide) (by decide)]
      have u_48_24 : (I_46 mo 24).toInt = (I mo 24).toInt := by rw [nf 24 (by decide) (by decide) (by decide) (by decide) (by decide)]
      refine lv_aload_n F.1 F.2.1 dX7_at_34 rfl (lv_at hl 0 rfl) ?_
      refine g_getI (ci := 7) (k := 17) F hH rfl (by decide) iX7 hm (by decide) rfl k60 dX7_at_35 ?_
      refine z_if_ne (tgt := 57) F dX7_at_38 (by decide) (zr_t _) (fun c_49 => ?_) (fun c_49 => ?_)
      · refine z_iconst F dX7_at_57 ?_
        exact g_iret F hr hlk hH hS hz ⟨by decide, by decide⟩ ⟨rfl, rfl, rfl, rfl, rfl, hv, nf, Or.inl ⟨by (try dsimp only); omega, rfl, (fun h9 => by have h8 := h9.2; omega)⟩⟩ dX7_at_58
      · refine lv_aload_n F.1 F.2.1 dX7_at_41 rfl (lv_at hl 0 rfl) ?_
        obtain ⟨r_50a, r_50b⟩ : R mo 6 = some (gh 56 0) ∧ gAr g (gh 56 0) 9 126720 := mR hv hm (q := (6, 126720)) (by decide)
        refine g_getR (ci := 7) (k := 6) F hH rfl (by decide) iX7 hm (by decide) rfl (b := gh 56 0) r_50a k24 dX7_at_42 ?_
        refine z_iconst F dX7_at_45 ?_
        refine lv_iload_n F.1 F.2.1 dX7_at_46 rfl (lv_at hl 1 rfl) ?_
        refine lv_iload_n F.1 F.2.1 dX7_at_47 rfl (lv_at hl 2 rfl) ?_
        refine g_calli (g_runS (As := [.int (iI 0), .int (iI rr), .int (iI ip)]) (rest := [.ref (gh 56 0)]) F hl.1 hH hS hz (c_X7_spot l g  I_46 R J AI AJ AR 0 rr ip ⟨by decide, by decide⟩ zrr zip (by omega) (by omega) (by omega)) (va_cwS 3 F.2.2.2.2.1 (good_up gT_X7_spot) rfl rfl rfl hdX7_spot.2 ⟨Nat.le_of_ble_eq_true rfl, Nat.le_of_ble_eq_true rfl⟩) rfl rfl (Nat.le_of_ble_eq_true rfl) dX7_at_48 ⟨Nat.zero_le _, Nat.zero_le _⟩) hS (fun v_57 I_51 R_52 J_53 AI_54 AJ_55 AR_56 H locs zv_57 hp_58 hH hS => ?_)
        dsimp only at hp_58
        obtain ⟨rfl, rfl, rfl, rfl, rfl, rfl, q_59⟩ := hp_58
        refine lv_iload_n F.1 F.2.1 dX7_at_51 rfl (lv_at hl 3 rfl) ?_
        refine z_iadd F dX7_at_52 ?_
        have hx53 : 0 ≤ (v_57 + wh) ∧ (v_57 + wh) < ((126720 : Nat) : Int) ∧ (v_57 + wh) ≤ 2147483647 := ⟨by omega, by omega, by omega⟩
        refine g_iald F hH r_50b hx53.1 hx53.2.1 hx53.2.2 dX7_at_53 ?_
        refine z_name (fun v_60 ev_60 => ?_)
        have zv_60 : zr v_60 := by rw [ev_60]; exact zr_t _
        refine z_goto (tgt := 58) F dX7_at_54 (by decide) ?_
        exact g_iret F hr hlk hH hS hz zv_60 ⟨rfl, rfl, rfl, rfl, rfl, hv, nf, absurd trivial (by omega)⟩ dX7_at_58
    · refine z_iconst F dX7_at_26 ?_
      refine z_goto (tgt := 31) F dX7_at_27 (by decide) ?_
      refine g_putI (ci := 7) (k := 17) F hH hS rfl (by decide) iX7 hm (by decide) tyX7 tyX7_ok nmX7 rfl rfl rfl k60 dX7_at_31 (fun H locs hH hS => ?_)
      obtain ⟨I_61, eI_61⟩ : ∃ qQ, qQ = gup2 I mo 17 (iI (0)) := ⟨_, rfl⟩
      rw [← eI_61] at hH
      have kI_61 : ∀ b, b ≠ mo → I_61 b = I b := fun b hb => by rw [eI_61]; exact funext fun j => gup2_a _ _ hb
      have w_62 : (I_61 mo 17).toInt = 0 := by rw [eI_61, gup2_s]; exact iI_val ⟨by decide, by decide⟩
      have hv : mInv g gh R I_61 AI := by rw [eI_61]; exact mP17 hv hm
      have nf : nF mo I I_61 := nF_t nf (by rw [eI_61]; exact nF_p (by decide))
      have u_63_2 : (I_61 mo 2).toInt = (I mo 2).toInt := by rw [nf 2 (by decide) (by decide) (by decide) (by decide) (by decide)]
      have u_63_5 : (I_61 mo 5).toInt = (I mo 5).toInt := by rw [nf 5 (by decide) (by decide) (by decide) (by decide) (by decide)]
      have u_63_14 : (I_61 mo 14).toInt = (I mo 14).toInt := by rw [nf 14 (by decide) (by decide) (by decide) (by decide) (by decide)]
      have u_63_16 : (I_61 mo 16).toInt = (I mo 16).toInt := by rw [nf 16 (by decide) (by decide) (by decide) (by decide) (by decide)]
      have u_63_24 : (I_61 mo 24).toInt = (I mo 24).toInt := by rw [nf 24 (by decide) (by decide) (by decide) (by decide) (by decide)]
      refine lv_aload_n F.1 F.2.1 dX7_at_34 rfl (lv_at hl 0 rfl) ?_
      refine g_getI (ci := 7) (k := 17) F hH rfl (by decide) iX7 hm (by decide) rfl k60 dX7_at_35 ?_
      refine z_if_ne (tgt := 57) F dX7_at_38 (by decide) (zr_t _) (fun c_64 => ?_) (fun c_64 => ?_)
      · refine z_iconst F dX7_at_57 ?_
        exact g_iret F hr hlk hH hS hz ⟨by decide, by decide⟩ ⟨rfl, rfl, rfl, rfl, rfl, hv, nf, absurd trivial (by omega)⟩ dX7_at_58
      · refine lv_aload_n F.1 F.2.1 dX7_at_41 rfl (lv_at hl 0 rfl) ?_
        obtain ⟨r_65a, r_65b⟩ : R mo 6 = some (gh 56 0) ∧ gAr g (gh 56 0) 9 126720 := mR hv hm (q := (6, 126720)) (by decide)
        refine g_getR (ci := 7) (k := 6) F hH rfl (by decide) iX7 hm (by decide) rfl (b := gh 56 0) r_65a k24 dX7_at_42 ?_
        refine z_iconst F dX7_at_45 ?_
        refine lv_iload_n F.1 F.2.1 dX7_at_46 rfl (lv_at hl 1 rfl) ?_
        refine lv_iload_n F.1 F.2.1 dX7_at_47 rfl (lv_at hl 2 rfl) ?_
        refine g_calli (g_runS (As := [.int (iI 0), .int (iI rr), .int (iI ip)]) (rest := [.ref (gh 56 0)]) F hl.1 hH hS hz (c_X7_spot l g  I_61 R J AI AJ AR 0 rr ip ⟨by decide, by decide⟩ zrr zip (by omega) (by omega) (by omega)) (va_cwS 3 F.2.2.2.2.1 (good_up gT_X7_spot) rfl rfl rfl hdX7_spot.2 ⟨Nat.le_of_ble_eq_true rfl, Nat.le_of_ble_eq_true rfl⟩) rfl rfl (Nat.le_of_ble_eq_true rfl) dX7_at_48 ⟨Nat.zero_le _, Nat.zero_le _⟩) hS (fun v_72 I_66 R_67 J_68 AI_69 AJ_70 AR_71 H locs zv_72 hp_73 hH hS => ?_)
        dsimp only at hp_73
        obtain ⟨rfl, rfl, rfl, rfl, rfl, rfl, q_74⟩ := hp_73
        refine lv_iload_n F.1 F.2.1 dX7_at_51 rfl (lv_at hl 3 rfl) ?_
        refine z_iadd F dX7_at_52 ?_
        have hx53 : 0 ≤ (v_72 + wh) ∧ (v_72 + wh) < ((126720 : Nat) : Int) ∧ (v_72 + wh) ≤ 2147483647 := ⟨by omega, by omega, by omega⟩
        refine g_iald F hH r_65b hx53.1 hx53.2.1 hx53.2.2 dX7_at_53 ?_
        refine z_name (fun v_75 ev_75 => ?_)
        have zv_75 : zr v_75 := by rw [ev_75]; exact zr_t _
        have c53 : v_75 = ((rfM gh AI 0 rr.toNat).2 (6 * ip.toNat + wh.toNat)).toInt := by rw [rfM_2 (by omega) (by omega), ev_75]; congr 2; omega
        refine z_goto (tgt := 58) F dX7_at_54 (by decide) ?_
        exact g_iret F hr hlk hH hS hz zv_75 ⟨rfl, rfl, rfl, rfl, rfl, hv, nf, Or.inr ⟨by (try dsimp only); omega, ⟨tIz_1 qtd (by omega), by omega, by omega⟩, c53⟩⟩ dX7_at_58

def rmX7_totalf : Room := { frames := 2, cells := 0, slots := 0, locals := 43 }
set_option maxHeartbeats 4000000 in
set_option maxRecDepth 100000 in
/-- total -/
theorem c_X7_totalf (l : Launch) (g : gG) (gh : gGh) (T : Nat → Int32) (nr : Nat) (I : gI) (R : gR) (J : gJ) (AI : gI) (AJ : gJ) (AR : gR) (mo : Nat) (rr : Int) (zrr : zr rr) (hv : mInv g gh R I AI) (hm : gO g mo 7) (hT : AI (gh 50 0) = T) (hmr : (I mo 2).toInt = (nr : Int)) : gMet l g yX7_total tsX7_total rmX7_totalf [.ref mo, .int (iI rr)] (I, R, J, AI, AJ, AR) (gQi g (fun (z : Int) (w : gS) => R = w.2.1 ∧ J = w.2.2.1 ∧ AI = w.2.2.2.1 ∧ AJ = w.2.2.2.2.1 ∧ AR = w.2.2.2.2.2 ∧ (mInv g gh R (w.1) AI) ∧ (nF mo I (w.1)) ∧ (((rr < 0 ∨ (nr : Int) ≤ rr) ∧ ((w.1) mo 17).toInt = 1 ∧ z = 0) ∨ ((0 ≤ rr ∧ rr < (nr : Int)) ∧ ((w.1) mo 17).toInt = 0 ∧ iI z = smA (rfM gh AI 0 rr.toNat).2 (rfM gh AI 0 rr.toNat).1)))) := by
  refine gStart (cc := cX7_total) (maxL := 4) (ret := (some (.int))) (by decide) rfl (Nat.le_of_ble_eq_true rfl) ?_
  intro p e s m below meth c ls F hr hlk hH hz hS hl
  have hl : lv_has ls 4 [(0, .ref mo), (1, .int (iI rr))] := hl
  have hS : va_S (gA g) s.heap s.heap [] := hS
  obtain ⟨H, hHe⟩ : ∃ H : Heap, H = s.heap := ⟨_, rfl⟩
  obtain ⟨locs, hlo⟩ : ∃ k : List Loc, k = [] := ⟨_, rfl⟩
  have hH : gH g I R J AI AJ AR H := by rw [hHe]; exact hH
  have hS : va_S (gA g) s.heap H locs := by rw [hHe, hlo]; exact hS
  suffices hw : W p l e rmX7_totalf s m ([.ref mo, .int (iI rr)] : List Value).toArray below meth c H locs 0 0 (MQ below (gQi g (fun (z : Int) (w : gS) => R = w.2.1 ∧ J = w.2.2.1 ∧ AI = w.2.2.2.1 ∧ AJ = w.2.2.2.2.1 ∧ AR = w.2.2.2.2.2 ∧ (mInv g gh R (w.1) AI) ∧ (nF mo I (w.1)) ∧ (((rr < 0 ∨ (nr : Int) ≤ rr) ∧ ((w.1) mo 17).toInt = 1 ∧ z = 0) ∨ ((0 ≤ rr ∧ rr < (nr : Int)) ∧ ((w.1) mo 17).toInt = 0 ∧ iI z = smA (rfM gh AI 0 rr.toNat).2 (rfM gh AI 0 rr.toNat).1)))) ([.ref mo, .int (iI rr)] : List Value).toArray s 0 0 (gA g)) (F0 m 0 ls []) by
    rw [hHe, hlo] at hw; exact hw
  clear hHe hlo
  have nf : nF mo I I := nF_r
  have hb0 := mJ hv hm
  unfold mNum1 at hb0
  have iX7 : ∀ w ∈ u_ws RX7 TX7 32, w ∈ tsX7_total := fun w h => List.mem_cons_of_mem _ (inTB7 w h)
  have k60 : Cond.fieldLink RX7 60 (TX7 17).1 (TX7 17).2.1 (TX7 17).2.2.1 ∈ tsX7_total := List.mem_cons_of_mem _ fl_60
  have k24 : Cond.fieldLink RX7 24 (TX7 6).1 (TX7 6).2.1 (TX7 6).2.2.1 ∈ tsX7_total := List.mem_cons_of_mem _ fl_24
  refine lv_aload_n F.1 F.2.1 dX7_total_0 rfl (lv_at hl 0 rfl) ?_
  have cut_14_0 : ∀ (th : Int) (H : Heap) (locs : List Loc) (ls : Array Slot), zr th → ((th = 0 ∧ 0 ≤ rr ∧ rr ≤ 15) ∨ th = 1) → ((th = 0 ∧ 0 ≤ rr ∧ rr < (nr : Int)) ∨ (th = 1 ∧ (rr < 0 ∨ (nr : Int) ≤ rr))) → gH g I R J AI AJ AR H → va_S (gA g) s.heap H locs → lv_has ls 4 [(0, .ref mo), (1, .int (iI rr))] → W p l e rmX7_totalf s m ([.ref mo, .int (iI rr)] : List Value).toArray below meth c H locs 0 0 (MQ below (gQi g (fun (z : Int) (w : gS) => R = w.2.1 ∧ J = w.2.2.1 ∧ AI = w.2.2.2.1 ∧ AJ = w.2.2.2.2.1 ∧ AR = w.2.2.2.2.2 ∧ (mInv g gh R (w.1) AI) ∧ (nF mo I (w.1)) ∧ (((rr < 0 ∨ (nr : Int) ≤ rr) ∧ ((w.1) mo 17).toInt = 1 ∧ z = 0) ∨ ((0 ≤ rr ∧ rr < (nr : Int)) ∧ ((w.1) mo 17).toInt = 0 ∧ iI z = smA (rfM gh AI 0 rr.toNat).2 (rfM gh AI 0 rr.toNat).1)))) ([.ref mo, .int (iI rr)] : List Value).toArray s 0 0 (gA g)) (F0 m 14 ls [.int (iI th), .ref mo]) := by
    intro th H locs ls zth hth hin9 hH hS hl
    refine g_putI (ci := 7) (k := 17) F hH hS rfl (by decide) iX7 hm (by decide) tyX7 tyX7_ok nmX7 rfl rfl rfl k60 dX7_total_14 (fun H locs hH hS => ?_)
    obtain ⟨I_2, eI_2⟩ : ∃ qQ, qQ = gup2 I mo 17 (iI (th)) := ⟨_, rfl⟩
    rw [← eI_2] at hH
    have kI_2 : ∀ b, b ≠ mo → I_2 b = I b := fun b hb => by rw [eI_2]; exact funext fun j => gup2_a _ _ hb
    have w_3 : (I_2 mo 17).toInt = th := by rw [eI_2, gup2_s]; exact iI_val zth
    have hv : mInv g gh R I_2 AI := by rw [eI_2]; exact mP17 hv hm
    have nf : nF mo I I_2 := nF_t nf (by rw [eI_2]; exact nF_p (by decide))
    have u_4_2 : (I_2 mo 2).toInt = (I mo 2).toInt := by rw [nf 2 (by decide) (by decide) (by decide) (by decide) (by decide)]
    have u_4_5 : (I_2 mo 5).toInt = (I mo 5).toInt := by rw [nf 5 (by decide) (by decide) (by decide) (by decide) (by decide)]
    have u_4_14 : (I_2 mo 14).toInt = (I mo 14).toInt := by rw [nf 14 (by decide) (by decide) (by decide) (by decide) (by decide)]
    have u_4_16 : (I_2 mo 16).toInt = (I mo 16).toInt := by rw [nf 16 (by decide) (by decide) (by decide) (by decide) (by decide)]
    have u_4_24 : (I_2 mo 24).toInt = (I mo 24).toInt := by rw [nf 24 (by decide) (by decide) (by decide) (by decide) (by decide)]
    refine z_iconst F dX7_total_17 ?_
    refine lv_istore_n (lv' := [(2, .int (iI 0)), (0, .ref mo), (1, .int (iI rr))]) F.1 F.2.1 dX7_total_18 rfl hl (by decide) rfl (fun ls hl => ?_)
    refine z_iconst F dX7_total_19 ?_
    refine lv_istore_n (lv' := [(3, .int (iI 0)), (2, .int (iI 0)), (0, .ref mo), (1, .int (iI rr))]) F.1 F.2.1 dX7_total_20 rfl hl (by decide) rfl (fun ls hl => ?_)
    have cut_21_4 : ∀ (NN : Nat) (su i : Int) (H : Heap) (locs : List Loc) (ls : Array Slot), zr su → zr i → (0 ≤ i ∧ i ≤ 120) → (iI su = smA (rfM gh AI 0 rr.toNat).2 i.toNat) → ((th = 0 ∧ i ≤ (((rfM gh AI 0 rr.toNat).1 : Nat) : Int)) ∨ (i = 0 ∧ su = 0)) → (120 - i) < ((NN : Nat) : Int) → gH g I_2 R J AI AJ AR H → va_S (gA g) s.heap H locs → lv_has ls 4 [(3, .int (iI i)), (2, .int (iI su)), (0, .ref mo), (1, .int (iI rr))] → W p l e rmX7_totalf s m ([.ref mo, .int (iI rr)] : List Value).toArray below meth c H locs 0 0 (MQ below (gQi g (fun (z : Int) (w : gS) => R = w.2.1 ∧ J = w.2.2.1 ∧ AI = w.2.2.2.1 ∧ AJ = w.2.2.2.2.1 ∧ AR = w.2.2.2.2.2 ∧ (mInv g gh R (w.1) AI) ∧ (nF mo I (w.1)) ∧ (((rr < 0 ∨ (nr : Int) ≤ rr) ∧ ((w.1) mo 17).toInt = 1 ∧ z = 0) ∨ ((0 ≤ rr ∧ rr < (nr : Int)) ∧ ((w.1) mo 17).toInt = 0 ∧ iI z = smA (rfM gh AI 0 rr.toNat).2 (rfM gh AI 0 rr.toNat).1)))) ([.ref mo, .int (iI rr)] : List Value).toArray s 0 0 (gA g)) (F0 m 21 ls []) := by
      intro NN21
      induction NN21 with
      | zero =>
        intro su i H locs ls zsu zi hi hsm hz1 hm21 hH hS hl
        exact absurd hm21 (by omega)
      | succ NN21 ih21 =>
        intro su i H locs ls zsu zi hi hsm hz1 hm21 hH hS hl
        refine lv_aload_n F.1 F.2.1 dX7_total_21 rfl (lv_at hl 2 rfl) ?_
        refine g_getI (ci := 7) (k := 17) F hH rfl (by decide) iX7 hm (by decide) rfl k60 dX7_total_22 ?_
        refine z_if_ne (tgt := 60) F dX7_total_25 (by decide) (zr_t _) (fun c_6 => ?_) (fun c_6 => ?_)
        · refine lv_iload_n F.1 F.2.1 dX7_total_60 rfl (lv_at hl 1 rfl) ?_
          exact g_iret F hr hlk hH hS hz zsu ⟨rfl, rfl, rfl, rfl, rfl, hv, nf, Or.inl ⟨by omega, by (try dsimp only); omega, by omega⟩⟩ dX7_total_61
        · refine lv_iload_n F.1 F.2.1 dX7_total_28 rfl (lv_at hl 0 rfl) ?_
          refine lv_aload_n F.1 F.2.1 dX7_total_29 rfl (lv_at hl 2 rfl) ?_
          refine z_iconst F dX7_total_30 ?_
          refine lv_iload_n F.1 F.2.1 dX7_total_31 rfl (lv_at hl 3 rfl) ?_
          have b_7 := mJ hv hm
          unfold mNum1 at b_7
          refine g_calli (g_runV (As := [.int (iI 0), .int (iI rr)]) (rest := [.int (iI i)]) (ci := 7) F hl.1 hH hS hz (c_X7_sizeOf l g gh T I_2 R J AI AJ AR mo 0 rr ⟨by decide, by decide⟩ zrr hv hm hT (by omega) (by omega)) (cwV 2 F.2.2.2.2.1 (good_up gT_X7_sizeOf) rfl rfl rfl hdX7_sizeOf ⟨Nat.le_of_ble_eq_true rfl, Nat.le_of_ble_eq_true rfl⟩) hm (by decide) rfl rfl rfl (Nat.le_of_ble_eq_true rfl) dX7_total_32 ⟨Nat.zero_le _, Nat.zero_le _⟩) hS (fun v_14 I_8 R_9 J_10 AI_11 AJ_12 AR_13 H locs zv_14 hp_15 hH hS => ?_)
          dsimp only at hp_15
          obtain ⟨rfl, rfl, rfl, rfl, rfl, rfl, q_16, qsz⟩ := hp_15
          have hs32 : v_14 = (((rfM gh AI 0 rr.toNat).1 : Nat) : Int) := by rw [rfM_1 (by omega), qsz]; unfold tI; have h8 := (mSz hv hm (z := 16 * 0 + rr) (by omega) (by omega)).1; omega
          refine z_icmp_ge (tgt := 60) F dX7_total_35 (by decide) zi zv_14 (fun c_17 => ?_) (fun c_17 => ?_)
          · refine lv_iload_n F.1 F.2.1 dX7_total_60 rfl (lv_at hl 1 rfl) ?_
            exact g_iret F hr hlk hH hS hz zsu ⟨rfl, rfl, rfl, rfl, rfl, hv, nf, Or.inr ⟨by omega, by (try dsimp only); omega, by rw [← show i.toNat = (rfM gh AI 0 rr.toNat).1 by omega]; exact hsm⟩⟩ dX7_total_61
          · refine lv_iload_n F.1 F.2.1 dX7_total_38 rfl (lv_at hl 1 rfl) ?_
            refine lv_aload_n F.1 F.2.1 dX7_total_39 rfl (lv_at hl 2 rfl) ?_
            obtain ⟨r_18a, r_18b⟩ : R mo 6 = some (gh 56 0) ∧ gAr g (gh 56 0) 9 126720 := mR hv hm (q := (6, 126720)) (by decide)
            refine g_getR (ci := 7) (k := 6) F hH rfl (by decide) iX7 hm (by decide) rfl (b := gh 56 0) r_18a k24 dX7_total_40 ?_
            refine z_iconst F dX7_total_43 ?_
            refine lv_iload_n F.1 F.2.1 dX7_total_44 rfl (lv_at hl 3 rfl) ?_
            refine lv_iload_n F.1 F.2.1 dX7_total_45 rfl (lv_at hl 0 rfl) ?_
            refine g_calli (g_runS (As := [.int (iI 0), .int (iI rr), .int (iI i)]) (rest := [.ref (gh 56 0), .int (iI su)]) F hl.1 hH hS hz (c_X7_spot l g  I_2 R J AI AJ AR 0 rr i ⟨by decide, by decide⟩ zrr zi (by omega) (by omega) (by omega)) (va_cwS 3 F.2.2.2.2.1 (good_up gT_X7_spot) rfl rfl rfl hdX7_spot.2 ⟨Nat.le_of_ble_eq_true rfl, Nat.le_of_ble_eq_true rfl⟩) rfl rfl (Nat.le_of_ble_eq_true rfl) dX7_total_46 ⟨Nat.zero_le _, Nat.zero_le _⟩) hS (fun v_25 I_19 R_20 J_21 AI_22 AJ_23 AR_24 H locs zv_25 hp_26 hH hS => ?_)
            dsimp only at hp_26
            obtain ⟨rfl, rfl, rfl, rfl, rfl, rfl, q_27⟩ := hp_26
            refine z_iconst F dX7_total_49 ?_
            refine z_iadd F dX7_total_50 ?_
            have hx51 : 0 ≤ (v_25 + 4) ∧ (v_25 + 4) < ((126720 : Nat) : Int) ∧ (v_25 + 4) ≤ 2147483647 := ⟨by omega, by omega, by omega⟩
            refine g_iald F hH r_18b hx51.1 hx51.2.1 hx51.2.2 dX7_total_51 ?_
            refine z_name (fun v_28 ev_28 => ?_)
            have zv_28 : zr v_28 := by rw [ev_28]; exact zr_t _
            have c51 : iI v_28 = (rfM gh AI 0 rr.toNat).2 (6 * i.toNat + 4) := by rw [rfM_2 (by omega) (by omega), ev_28, iI_self]; congr 1; omega
            refine z_iadd F dX7_total_52 ?_
            refine z_norm (fun v_29 zv_29 ev_29 => ?_)
            have hsm9 : iI v_29 = smA (rfM gh AI 0 rr.toNat).2 (i + 1).toNat := by rw [show (i + 1).toNat = i.toNat + 1 by omega, smA, ← hsm, ← c51, iI_add, ev_29]
            refine lv_istore_n (lv' := [(2, .int (iI v_29)), (3, .int (iI i)), (0, .ref mo), (1, .int (iI rr))]) F.1 F.2.1 dX7_total_53 rfl hl (by decide) rfl (fun ls hl => ?_)
            refine z_iinc (lv' := [(3, .int (iI (i + 1))), (2, .int (iI v_29)), (0, .ref mo), (1, .int (iI rr))]) F dX7_total_54 hl (k := 1) rfl (by decide) rfl (fun ls hl => ?_)
            refine z_goto (tgt := 21) F dX7_total_57 (by decide) ?_
            exact ih21 v_29 (i + 1) H locs ls zv_29 ⟨by omega, by omega⟩ (by omega) hsm9 (by omega) (by omega) hH hS (lv_sub hl [0, 1, 2, 3] rfl)
    exact cut_21_4 (((120 - 0) + 1 : Int).toNat) 0 0 H locs ls ⟨by decide, by decide⟩ ⟨by decide, by decide⟩ (by omega) rfl (by omega) (by omega) hH hS (lv_sub hl [0, 1, 2, 3] rfl)
  refine lv_aload_n F.1 F.2.1 dX7_total_1 rfl (lv_at hl 0 rfl) ?_
  refine lv_iload_n F.1 F.2.1 dX7_total_2 rfl (lv_at hl 1 rfl) ?_
  have b_30 := mJ hv hm
  unfold mNum1 at b_30
  refine g_calli (g_runV (As := [.int (iI rr)]) (rest := [.ref mo]) (ci := 7) F hl.1 hH hS hz (c_X7_isRelationf l g gh T I R J AI AJ AR mo rr zrr hv hm hT) (cwV 1 F.2.2.2.2.1 (good_up gT_X7_isRelation) rfl rfl rfl hdX7_isRelation ⟨Nat.le_of_ble_eq_true rfl, Nat.le_of_ble_eq_true rfl⟩) hm (by decide) rfl rfl rfl (Nat.le_of_ble_eq_true rfl) dX7_total_3 ⟨Nat.zero_le _, Nat.zero_le _⟩) hS (fun v_37 I_31 R_32 J_33 AI_34 AJ_35 AR_36 H locs zv_37 hp_38 hH hS => ?_)
  dsimp only at hp_38
  obtain ⟨rfl, rfl, rfl, rfl, rfl, rfl, q_39, qis⟩ := hp_38
  refine z_if_eq (tgt := 13) F dX7_total_6 (by decide) zv_37 (fun c_40 => ?_) (fun c_40 => ?_)
  · refine z_iconst F dX7_total_13 ?_
    exact cut_14_0 1 H locs ls ⟨by decide, by decide⟩ (by omega) (by first | (have h9 := qis (by omega); omega) | omega) hH hS (lv_sub hl [0, 1] rfl)
  · refine z_iconst F dX7_total_9 ?_
    refine z_goto (tgt := 14) F dX7_total_10 (by decide) ?_
    exact cut_14_0 0 H locs ls ⟨by decide, by decide⟩ (by omega) (by first | (have h9 := qis (by omega); omega) | omega) hH hS (lv_sub hl [0, 1] rfl)

def rmX7_movedf : Room := { frames := 2, cells := 0, slots := 0, locals := 54 }
set_option maxHeartbeats 4000000 in
set_option maxRecDepth 100000 in
/-- moved -/
theorem c_X7_movedf (l : Launch) (g : gG) (gh : gGh) (T : Nat → Int32) (nr : Nat) (cl : Nat → Int) (I : gI) (R : gR) (J : gJ) (AI : gI) (AJ : gJ) (AR : gR) (mo : Nat) (rr : Int) (zrr : zr rr) (hv : mInv g gh R I AI) (hm : gO g mo 7) (hT : AI (gh 50 0) = T) (hmr : (I mo 2).toInt = (nr : Int)) (hbg : ∀ r : Nat, r < nr → bgOK (rfM gh AI 0) cl r) (hb9 : ∀ r : Nat, r < nr → bgOK (rfM gh AI 9) cl r) : gMet l g yX7_moved tsX7_moved rmX7_movedf [.ref mo, .int (iI rr)] (I, R, J, AI, AJ, AR) (gQi g (fun (z : Int) (w : gS) => R = w.2.1 ∧ J = w.2.2.1 ∧ AJ = w.2.2.2.2.1 ∧ AR = w.2.2.2.2.2 ∧ (mInv g gh R (w.1) (w.2.2.2.1)) ∧ ((w.2.2.2.1) (gh 50 0) = T) ∧ (nF mo I (w.1)) ∧ (((rr < 0 ∨ (nr : Int) ≤ rr) ∧ z = -1) ∨ ((0 ≤ rr ∧ rr < (nr : Int)) ∧ z = ((bgN (mvF gh AI rr.toNat) : Nat) : Int))) ∧ (∀ b, b ≠ gh 81 0 → (w.2.2.2.1) b = AI b))) := by
  refine gStart (cc := cX7_moved) (maxL := 2) (ret := (some (.int))) (by decide) rfl (Nat.le_of_ble_eq_true rfl) ?_
  intro p e s m below meth c ls F hr hlk hH hz hS hl
  have hl : lv_has ls 2 [(0, .ref mo), (1, .int (iI rr))] := hl
  have hS : va_S (gA g) s.heap s.heap [] := hS
  obtain ⟨H, hHe⟩ : ∃ H : Heap, H = s.heap := ⟨_, rfl⟩
  obtain ⟨locs, hlo⟩ : ∃ k : List Loc, k = [] := ⟨_, rfl⟩
  have hH : gH g I R J AI AJ AR H := by rw [hHe]; exact hH
  have hS : va_S (gA g) s.heap H locs := by rw [hHe, hlo]; exact hS
  suffices hw : W p l e rmX7_movedf s m ([.ref mo, .int (iI rr)] : List Value).toArray below meth c H locs 0 0 (MQ below (gQi g (fun (z : Int) (w : gS) => R = w.2.1 ∧ J = w.2.2.1 ∧ AJ = w.2.2.2.2.1 ∧ AR = w.2.2.2.2.2 ∧ (mInv g gh R (w.1) (w.2.2.2.1)) ∧ ((w.2.2.2.1) (gh 50 0) = T) ∧ (nF mo I (w.1)) ∧ (((rr < 0 ∨ (nr : Int) ≤ rr) ∧ z = -1) ∨ ((0 ≤ rr ∧ rr < (nr : Int)) ∧ z = ((bgN (mvF gh AI rr.toNat) : Nat) : Int))) ∧ (∀ b, b ≠ gh 81 0 → (w.2.2.2.1) b = AI b))) ([.ref mo, .int (iI rr)] : List Value).toArray s 0 0 (gA g)) (F0 m 0 ls []) by
    rw [hHe, hlo] at hw; exact hw
  clear hHe hlo
  have nf : nF mo I I := nF_r
  have h56 : AI (gh 56 0) = AI (gh 56 0) := rfl
  have h57 : AI (gh 57 0) = AI (gh 57 0) := rfl
  have hb0 := mJ hv hm
  unfold mNum1 at hb0
  have iX7 : ∀ w ∈ u_ws RX7 TX7 32, w ∈ tsX7_moved := fun w h => List.mem_cons_of_mem _ (inTB7 w h)
  have k60 : Cond.fieldLink RX7 60 (TX7 17).1 (TX7 17).2.1 (TX7 17).2.2.1 ∈ tsX7_moved := List.mem_cons_of_mem _ fl_60
  refine lv_aload_n F.1 F.2.1 dX7_moved_0 rfl (lv_at hl 0 rfl) ?_
  refine z_iconst F dX7_moved_1 ?_
  refine g_putI (ci := 7) (k := 17) F hH hS rfl (by decide) iX7 hm (by decide) tyX7 tyX7_ok nmX7 rfl rfl rfl k60 dX7_moved_2 (fun H locs hH hS => ?_)
  obtain ⟨I_1, eI_1⟩ : ∃ qQ, qQ = gup2 I mo 17 (iI (0)) := ⟨_, rfl⟩
  rw [← eI_1] at hH
  have kI_1 : ∀ b, b ≠ mo → I_1 b = I b := fun b hb => by rw [eI_1]; exact funext fun j => gup2_a _ _ hb
  have w_2 : (I_1 mo 17).toInt = 0 := by rw [eI_1, gup2_s]; exact iI_val ⟨by decide, by decide⟩
  have hv : mInv g gh R I_1 AI := by rw [eI_1]; exact mP17 hv hm
  have nf : nF mo I I_1 := nF_t nf (by rw [eI_1]; exact nF_p (by decide))
  have u_3_2 : (I_1 mo 2).toInt = (I mo 2).toInt := by rw [nf 2 (by decide) (by decide) (by decide) (by decide) (by decide)]
  have u_3_5 : (I_1 mo 5).toInt = (I mo 5).toInt := by rw [nf 5 (by decide) (by decide) (by decide) (by decide) (by decide)]
  have u_3_14 : (I_1 mo 14).toInt = (I mo 14).toInt := by rw [nf 14 (by decide) (by decide) (by decide) (by decide) (by decide)]
  have u_3_16 : (I_1 mo 16).toInt = (I mo 16).toInt := by rw [nf 16 (by decide) (by decide) (by decide) (by decide) (by decide)]
  have u_3_24 : (I_1 mo 24).toInt = (I mo 24).toInt := by rw [nf 24 (by decide) (by decide) (by decide) (by decide) (by decide)]
  refine lv_aload_n F.1 F.2.1 dX7_moved_5 rfl (lv_at hl 0 rfl) ?_
  refine lv_iload_n F.1 F.2.1 dX7_moved_6 rfl (lv_at hl 1 rfl) ?_
  have b_4 := mJ hv hm
  unfold mNum1 at b_4
  refine g_calli (g_runV (As := [.int (iI rr)]) (rest := []) (ci := 7) F hl.1 hH hS hz (c_X7_isRelationf l g gh T I_1 R J AI AJ AR mo rr zrr hv hm hT) (cwV 1 F.2.2.2.2.1 (good_up gT_X7_isRelation) rfl rfl rfl hdX7_isRelation ⟨Nat.le_of_ble_eq_true rfl, Nat.le_of_ble_eq_true rfl⟩) hm (by decide) rfl rfl rfl (Nat.le_of_ble_eq_true rfl) dX7_moved_7 ⟨Nat.zero_le _, Nat.zero_le _⟩) hS (fun v_11 I_5 R_6 J_7 AI_8 AJ_9 AR_10 H locs zv_11 hp_12 hH hS => ?_)
  dsimp only at hp_12
  obtain ⟨rfl, rfl, rfl, rfl, rfl, rfl, q_13, qis⟩ := hp_12
  refine z_if_eq (tgt := 21) F dX7_moved_10 (by decide) zv_11 (fun c_14 => ?_) (fun c_14 => ?_)
  · refine z_iconst F dX7_moved_21 ?_
    exact g_iret F hr hlk hH hS hz ⟨by decide, by decide⟩ ⟨rfl, rfl, rfl, rfl, hv, hT, nf, Or.inl ⟨by have h9 := qis (by omega); omega, rfl⟩, fun _ _ => rfl⟩ dX7_moved_22
  · refine lv_aload_n F.1 F.2.1 dX7_moved_13 rfl (lv_at hl 0 rfl) ?_
    refine lv_iload_n F.1 F.2.1 dX7_moved_14 rfl (lv_at hl 1 rfl) ?_
    have eF0 : rfM gh AI 0 = rfM gh AI 0 := rfM_g h56 h57
    have eF9 : rfM gh AI 9 = rfM gh AI 9 := rfM_g h56 h57
    have hra := rfM_s (gh := gh) (AI := AI) (sd := 0) (a := rr) (n := (rfM gh AI 0 (rr).toNat).1) (f := (rfM gh AI 0 (rr).toNat).2) (by rw [eF0]) (by omega) (mSz1 hv hm (z := 16 * 0 + rr) (by omega) (by omega)).1
    have hrb := rfM_s (gh := gh) (AI := AI) (sd := 9) (a := rr) (n := (rfM gh AI 9 (rr).toNat).1) (f := (rfM gh AI 9 (rr).toNat).2) (by rw [eF9]) (by omega) (mSz1 hv hm (z := 16 * 9 + rr) (by omega) (by omega)).1
    refine g_calli (g_runV (As := [.int (iI rr)]) (rest := []) (ci := 7) F hl.1 hH hS hz (c_X7_laysMovedf l g gh T ((rfM gh AI 0 (rr).toNat).1) ((rfM gh AI 9 (rr).toNat).1) ((rfM gh AI 0 (rr).toNat).2) ((rfM gh AI 9 (rr).toNat).2) I_1 R J AI AJ AR mo rr zrr hv hm hT (by omega) hra.1 hra.2 hrb.1 hrb.2 (hbg (rr).toNat (by omega)).1 (hb9 (rr).toNat (by omega)).1 ⟨(hbg (rr).toNat (by omega)).2.1, (hb9 (rr).toNat (by omega)).2.1⟩) (cwV 1 F.2.2.2.2.1 (good_up gT_X7_laysMoved) rfl rfl rfl hdX7_laysMoved ⟨Nat.le_of_ble_eq_true rfl, Nat.le_of_ble_eq_true rfl⟩) hm (by decide) rfl rfl rfl (Nat.le_of_ble_eq_true rfl) dX7_moved_15 ⟨Nat.zero_le _, Nat.zero_le _⟩) hS (fun v_21 I_15 R_16 J_17 AI_18 AJ_19 AR_20 H locs zv_21 hp_22 hH hS => ?_)
    dsimp only at hp_22
    obtain ⟨rfl, rfl, rfl, rfl, rfl, hv, hT, haq7, q_23, fMq, qmv⟩ := hp_22
    have hz15 : v_21 = ((bgN (mvF gh AI rr.toNat) : Nat) : Int) := by have h9 := bgN_e qmv; unfold mvF; rw [h9]; omega
    refine z_goto (tgt := 22) F dX7_moved_18 (by decide) ?_
    exact g_iret F hr hlk hH hS hz zv_21 ⟨rfl, rfl, rfl, rfl, hv, hT, nf, Or.inr ⟨by omega, hz15⟩, fMq⟩ dX7_moved_22

def rmX7_movedAtf : Room := { frames := 3, cells := 0, slots := 0, locals := 65 }
set_option maxHeartbeats 4000000 in
set_option maxRecDepth 100000 in
/-- movedAt -/
theorem c_X7_movedAtf (l : Launch) (g : gG) (gh : gGh) (T : Nat → Int32) (nr : Nat) (cl : Nat → Int) (I : gI) (R : gR) (J : gJ) (AI : gI) (AJ : gJ) (AR : gR) (mo : Nat) (rr : Int) (ip : Int) (wh : Int) (zrr : zr rr) (zip : zr ip) (zwh : zr wh) (hv : mInv g gh R I AI) (hm : gO g mo 7) (hT : AI (gh 50 0) = T) (hmr : (I mo 2).toInt = (nr : Int)) (hbg : ∀ r : Nat, r < nr → bgOK (rfM gh AI 0) cl r) (hb9 : ∀ r : Nat, r < nr → bgOK (rfM gh AI 9) cl r) : gMet l g yX7_movedAt tsX7_movedAt rmX7_movedAtf [.ref mo, .int (iI rr), .int (iI ip), .int (iI wh)] (I, R, J, AI, AJ, AR) (gQi g (fun (z : Int) (w : gS) => R = w.2.1 ∧ J = w.2.2.1 ∧ AJ = w.2.2.2.2.1 ∧ AR = w.2.2.2.2.2 ∧ (mInv g gh R (w.1) (w.2.2.2.1)) ∧ ((w.2.2.2.1) (gh 50 0) = T) ∧ (nF mo I (w.1)) ∧ ((((w.1) mo 17).toInt = 1 ∧ z = 0 ∧ ¬ (tdM T nr rr wh ∧ 0 ≤ ip ∧ ip < ((bgN (mvF gh AI rr.toNat) : Nat) : Int))) ∨ (((w.1) mo 17).toInt = 0 ∧ (tdM T nr rr wh ∧ 0 ≤ ip ∧ ip < ((bgN (mvF gh AI rr.toNat) : Nat) : Int)) ∧ ∃ f : Nat → Int32, isB f (bgN (mvF gh AI rr.toNat)) (mvF gh AI rr.toNat) zM ∧ z = (f (6 * ip.toNat + wh.toNat)).toInt)) ∧ (∀ b, b ≠ gh 81 0 → (w.2.2.2.1) b = AI b))) := by
  refine gStart (cc := cX7_movedAt) (maxL := 4) (ret := (some (.int))) (by decide) rfl (Nat.le_of_ble_eq_true rfl) ?_
  intro p e s m below meth c ls F hr hlk hH hz hS hl
  have hl : lv_has ls 4 [(0, .ref mo), (1, .int (iI rr)), (2, .int (iI ip)), (3, .int (iI wh))] := hl
  have hS : va_S (gA g) s.heap s.heap [] := hS
  obtain ⟨H, hHe⟩ : ∃ H : Heap, H = s.heap := ⟨_, rfl⟩
  obtain ⟨locs, hlo⟩ : ∃ k : List Loc, k = [] := ⟨_, rfl⟩
  have hH : gH g I R J AI AJ AR H := by rw [hHe]; exact hH
  have hS : va_S (gA g) s.heap H locs := by rw [hHe, hlo]; exact hS
  suffices hw : W p l e rmX7_movedAtf s m ([.ref mo, .int (iI rr), .int (iI ip), .int (iI wh)] : List Value).toArray below meth c H locs 0 0 (MQ below (gQi g (fun (z : Int) (w : gS) => R = w.2.1 ∧ J = w.2.2.1 ∧ AJ = w.2.2.2.2.1 ∧ AR = w.2.2.2.2.2 ∧ (mInv g gh R (w.1) (w.2.2.2.1)) ∧ ((w.2.2.2.1) (gh 50 0) = T) ∧ (nF mo I (w.1)) ∧ ((((w.1) mo 17).toInt = 1 ∧ z = 0 ∧ ¬ (tdM T nr rr wh ∧ 0 ≤ ip ∧ ip < ((bgN (mvF gh AI rr.toNat) : Nat) : Int))) ∨ (((w.1) mo 17).toInt = 0 ∧ (tdM T nr rr wh ∧ 0 ≤ ip ∧ ip < ((bgN (mvF gh AI rr.toNat) : Nat) : Int)) ∧ ∃ f : Nat → Int32, isB f (bgN (mvF gh AI rr.toNat)) (mvF gh AI rr.toNat) zM ∧ z = (f (6 * ip.toNat + wh.toNat)).toInt)) ∧ (∀ b, b ≠ gh 81 0 → (w.2.2.2.1) b = AI b))) ([.ref mo, .int (iI rr), .int (iI ip), .int (iI wh)] : List Value).toArray s 0 0 (gA g)) (F0 m 0 ls []) by
    rw [hHe, hlo] at hw; exact hw
  clear hHe hlo
  have nf : nF mo I I := nF_r
  have h56 : AI (gh 56 0) = AI (gh 56 0) := rfl
  have h57 : AI (gh 57 0) = AI (gh 57 0) := rfl
  have hb0 := mJ hv hm
  unfold mNum1 at hb0
  have iX7 : ∀ w ∈ u_ws RX7 TX7 32, w ∈ tsX7_movedAt := fun w h => List.mem_cons_of_mem _ (inTB7 w h)
  have k60 : Cond.fieldLink RX7 60 (TX7 17).1 (TX7 17).2.1 (TX7 17).2.2.1 ∈ tsX7_movedAt := List.mem_cons_of_mem _ fl_60
  have k57 : Cond.fieldLink RX7 57 (TX7 31).1 (TX7 31).2.1 (TX7 31).2.2.1 ∈ tsX7_movedAt := List.mem_cons_of_mem _ fl_57
  refine lv_aload_n F.1 F.2.1 dX7_movedAt_0 rfl (lv_at hl 0 rfl) ?_
  refine lv_aload_n F.1 F.2.1 dX7_movedAt_1 rfl (lv_at hl 0 rfl) ?_
  refine lv_iload_n F.1 F.2.1 dX7_movedAt_2 rfl (lv_at hl 1 rfl) ?_
  refine lv_iload_n F.1 F.2.1 dX7_movedAt_3 rfl (lv_at hl 3 rfl) ?_
  have b_1 := mJ hv hm
  unfold mNum1 at b_1
  refine g_calli (g_runV (As := [.int (iI rr), .int (iI wh)]) (rest := [.ref mo]) (ci := 7) F hl.1 hH hS hz (c_X7_isToldf l g gh T nr I R J AI AJ AR mo rr wh zrr zwh hv hm hT hmr) (cwV 2 F.2.2.2.2.1 (good_up gT_X7_isTold) rfl rfl rfl hdX7_isTold ⟨Nat.le_of_ble_eq_true rfl, Nat.le_of_ble_eq_true rfl⟩) hm (by decide) rfl rfl rfl (Nat.le_of_ble_eq_true rfl) dX7_movedAt_4 ⟨Nat.zero_le _, Nat.zero_le _⟩) hS (fun v_8 I_2 R_3 J_4 AI_5 AJ_6 AR_7 H locs zv_8 hp_9 hH hS => ?_)
  dsimp only at hp_9
  obtain ⟨rfl, rfl, rfl, rfl, rfl, rfl, q_10, qtd⟩ := hp_9
  refine z_if_eq (tgt := 29) F dX7_movedAt_7 (by decide) zv_8 (fun c_11 => ?_) (fun c_11 => ?_)
  · refine z_iconst F dX7_movedAt_29 ?_
    refine g_putI (ci := 7) (k := 17) F hH hS rfl (by decide) iX7 hm (by decide) tyX7 tyX7_ok nmX7 rfl rfl rfl k60 dX7_movedAt_30 (fun H locs hH hS => ?_)
    obtain ⟨I_12, eI_12⟩ : ∃ qQ, qQ = gup2 I mo 17 (iI (1)) := ⟨_, rfl⟩
    rw [← eI_12] at hH
    have kI_12 : ∀ b, b ≠ mo → I_12 b = I b := fun b hb => by rw [eI_12]; exact funext fun j => gup2_a _ _ hb
    have w_13 : (I_12 mo 17).toInt = 1 := by rw [eI_12, gup2_s]; exact iI_val ⟨by decide, by decide⟩
    have hv : mInv g gh R I_12 AI := by rw [eI_12]; exact mP17 hv hm
    have nf : nF mo I I_12 := nF_t nf (by rw [eI_12]; exact nF_p (by decide))
    have u_14_2 : (I_12 mo 2).toInt = (I mo 2).toInt := by rw [nf 2 (by decide) (by decide) (by decide) (by decide) (by decide)]
    have u_14_5 : (I_12 mo 5).toInt = (I mo 5).toInt := by rw [nf 5 (by decide) (by decide) (by decide) (by decide) (by decide)]
    have u_14_14 : (I_12 mo 14).toInt = (I mo 14).toInt := by rw [nf 14 (by decide) (by decide) (by decide) (by decide) (by decide)]
    have u_14_16 : (I_12 mo 16).toInt = (I mo 16).toInt := by rw [nf 16 (by decide) (by decide) (by decide) (by decide) (by decide)]
    have u_14_24 : (I_12 mo 24).toInt = (I mo 24).toInt := by rw [nf 24 (by decide) (by decide) (by decide) (by decide) (by decide)]
    refine lv_aload_n F.1 F.2.1 dX7_movedAt_33 rfl (lv_at hl 0 rfl) ?_
    refine g_getI (ci := 7) (k := 17) F hH rfl (by decide) iX7 hm (by decide) rfl k60 dX7_movedAt_34 ?_
    refine z_if_ne (tgt := 53) F dX7_movedAt_37 (by decide) (zr_t _) (fun c_15 => ?_) (fun c_15 => ?_)
    · refine z_iconst F dX7_movedAt_53 ?_
      exact g_iret F hr hlk hH hS hz ⟨by decide, by decide⟩ ⟨rfl, rfl, rfl, rfl, hv, hT, nf, Or.inl ⟨by (try dsimp only); omega, rfl, (fun h9 => tIz_0 qtd (by omega) h9.1)⟩, fun _ _ => rfl⟩ dX7_movedAt_54
    · refine lv_aload_n F.1 F.2.1 dX7_movedAt_40 rfl (lv_at hl 0 rfl) ?_
      obtain ⟨r_16a, r_16b⟩ : R mo 31 = some (gh 81 0) ∧ gAr g (gh 81 0) 9 1200 := mR hv hm (q := (31, 1200)) (by decide)
      refine g_getR (ci := 7) (k := 31) F hH rfl (by decide) iX7 hm (by decide) rfl (b := gh 81 0) r_16a k57 dX7_movedAt_41 ?_
      refine z_iconst F dX7_movedAt_44 ?_
      refine lv_iload_n F.1 F.2.1 dX7_movedAt_45 rfl (lv_at hl 2 rfl) ?_
      refine z_imul F dX7_movedAt_46 ?_
      refine lv_iload_n F.1 F.2.1 dX7_movedAt_47 rfl (lv_at hl 3 rfl) ?_
      refine z_iadd F dX7_movedAt_48 ?_
      have hx49 : 0 ≤ ((5 * ip) + wh) ∧ ((5 * ip) + wh) < ((1200 : Nat) : Int) ∧ ((5 * ip) + wh) ≤ 2147483647 := ⟨by omega, by omega, by omega⟩
      refine g_iald F hH r_16b hx49.1 hx49.2.1 hx49.2.2 dX7_movedAt_49 ?_
      refine z_name (fun v_17 ev_17 => ?_)
      have zv_17 : zr v_17 := by rw [ev_17]; exact zr_t _
      refine z_goto (tgt := 54) F dX7_movedAt_50 (by decide) ?_
      exact g_iret F hr hlk hH hS hz zv_17 ⟨rfl, rfl, rfl, rfl, hv, hT, nf, absurd trivial (by omega), fun _ _ => rfl⟩ dX7_movedAt_54
  · have htd1 := (tIz_1 qtd (by omega)).1
    refine lv_iload_n F.1 F.2.1 dX7_movedAt_10 rfl (lv_at hl 2 rfl) ?_
    refine z_iconst F dX7_movedAt_11 ?_
    refine lv_aload_n F.1 F.2.1 dX7_movedAt_12 rfl (lv_at hl 0 rfl) ?_
    refine lv_iload_n F.1 F.2.1 dX7_movedAt_13 rfl (lv_at hl 1 rfl) ?_
    have eF0 : rfM gh AI 0 = rfM gh AI 0 := rfM_g h56 h57
    have eF9 : rfM gh AI 9 = rfM gh AI 9 := rfM_g h56 h57
    have hra := rfM_s (gh := gh) (AI := AI) (sd := 0) (a := rr) (n := (rfM gh AI 0 (rr).toNat).1) (f := (rfM gh AI 0 (rr).toNat).2) (by rw [eF0]) (by omega) (mSz1 hv hm (z := 16 * 0 + rr) (by omega) (by omega)).1
    have hrb := rfM_s (gh := gh) (AI := AI) (sd := 9) (a := rr) (n := (rfM gh AI 9 (rr).toNat).1) (f := (rfM gh AI 9 (rr).toNat).2) (by rw [eF9]) (by omega) (mSz1 hv hm (z := 16 * 9 + rr) (by omega) (by omega)).1
    refine g_calli (g_runV (As := [.int (iI rr)]) (rest := [.int (iI 0), .int (iI ip), .ref mo]) (ci := 7) F hl.1 hH hS hz (c_X7_laysMovedf l g gh T ((rfM gh AI 0 (rr).toNat).1) ((rfM gh AI 9 (rr).toNat).1) ((rfM gh AI 0 (rr).toNat).2) ((rfM gh AI 9 (rr).toNat).2) I R J AI AJ AR mo rr zrr hv hm hT (by omega) hra.1 hra.2 hrb.1 hrb.2 (hbg (rr).toNat (by omega)).1 (hb9 (rr).toNat (by omega)).1 ⟨(hbg (rr).toNat (by omega)).2.1, (hb9 (rr).toNat (by omega)).2.1⟩) (cwV 1 F.2.2.2.2.1 (good_up gT_X7_laysMoved) rfl rfl rfl hdX7_laysMoved ⟨Nat.le_of_ble_eq_true rfl, Nat.le_of_ble_eq_true rfl⟩) hm (by decide) rfl rfl rfl (Nat.le_of_ble_eq_true rfl) dX7_movedAt_14 ⟨Nat.zero_le _, Nat.zero_le _⟩) hS (fun v_24 I_18 R_19 J_20 AI_21 AJ_22 AR_23 H locs zv_24 hp_25 hH hS => ?_)
    dsimp only at hp_25
    obtain ⟨rfl, rfl, rfl, rfl, rfl, hv, hT, haq7, q_26, fMq, qmv⟩ := hp_25
    have hz14 : v_24 = ((bgN (mvF gh AI rr.toNat) : Nat) : Int) := by have h9 := bgN_e qmv; unfold mvF; rw [h9]; omega
    have hB9 : isB (w65 (AI_21 (gh 81 0))) (bgN (mvF gh AI rr.toNat)) (mvF gh AI rr.toNat) zM := by have h9 := bgN_e qmv; unfold mvF; rw [h9]; exact qmv
    clear qmv
    refine z_iconst F dX7_movedAt_17 ?_
    refine z_isub F dX7_movedAt_18 ?_
    refine g_calli (g_runS (As := [.int (iI ip), .int (iI 0), .int (iI (v_24 - 1))]) (rest := [.ref mo]) F hl.1 hH hS hz (c_X7_within l g  I R J AI_21 AJ AR ip 0 (v_24 - 1) zip ⟨by decide, by decide⟩ ⟨by omega, by omega⟩) (va_cwS 3 F.2.2.2.2.1 (good_up gT_X7_within) rfl rfl rfl hdX7_within.2 ⟨Nat.le_of_ble_eq_true rfl, Nat.le_of_ble_eq_true rfl⟩) rfl rfl (Nat.le_of_ble_eq_true rfl) dX7_movedAt_19 ⟨Nat.zero_le _, Nat.zero_le _⟩) hS (fun v_33 I_27 R_28 J_29 AI_30 AJ_31 AR_32 H locs zv_33 hp_34 hH hS => ?_)
    dsimp only at hp_34
    obtain ⟨rfl, rfl, rfl, rfl, rfl, rfl, q_35⟩ := hp_34
    refine z_if_eq (tgt := 29) F dX7_movedAt_22 (by decide) zv_33 (fun c_36 => ?_) (fun c_36 => ?_)
    · refine z_iconst F dX7_movedAt_29 ?_
      refine g_putI (ci := 7) (k := 17) F hH hS rfl (by decide) iX7 hm (by decide) tyX7 tyX7_ok nmX7 rfl rfl rfl k60 dX7_movedAt_30 (fun H locs hH hS => ?_)
      obtain ⟨I_37, eI_37⟩ : ∃ qQ, qQ = gup2 I mo 17 (iI (1)) := ⟨_, rfl⟩
      rw [← eI_37] at hH
      have kI_37 : ∀ b, b ≠ mo → I_37 b = I b := fun b hb => by rw [eI_37]; exact funext fun j => gup2_a _ _ hb
      have w_38 : (I_37 mo 17).toInt = 1 := by rw [eI_37, gup2_s]; exact iI_val ⟨by decide, by decide⟩
      have hv : mInv g gh R I_37 AI_21 := by rw [eI_37]; exact mP17 hv hm
      have nf : nF mo I I_37 := nF_t nf (by rw [eI_37]; exact nF_p (by decide))
      have u_39_2 : (I_37 mo 2).toInt = (I mo 2).toInt := by rw [nf 2 (by decide) (by decide) (by decide) (by decide) (by decide)]
      have u_39_5 : (I_37 mo 5).toInt = (I mo 5).toInt := by rw [nf 5 (by decide) (by decide) (by decide) (by decide) (by decide)]
      have u_39_14 : (I_37 mo 14).toInt = (I mo 14).toInt := by rw [nf 14 (by decide) (by decide) (by decide) (by decide) (by decide)]
      have u_39_16 : (I_37 mo 16).toInt = (I mo 16).toInt := by rw [nf 16 (by decide) (by decide) (by decide) (by decide) (by decide)]
      have u_39_24 : (I_37 mo 24).toInt = (I mo 24).toInt := by rw [nf 24 (by decide) (by decide) (by decide) (by decide) (by decide)]
      refine lv_aload_n F.1 F.2.1 dX7_movedAt_33 rfl (lv_at hl 0 rfl) ?_
      refine g_getI (ci := 7) (k := 17) F hH rfl (by decide) iX7 hm (by decide) rfl k60 dX7_movedAt_34 ?_
      refine z_if_ne (tgt := 53) F dX7_movedAt_37 (by decide) (zr_t _) (fun c_40 => ?_) (fun c_40 => ?_)
      · refine z_iconst F dX7_movedAt_53 ?_
        exact g_iret F hr hlk hH hS hz ⟨by decide, by decide⟩ ⟨rfl, rfl, rfl, rfl, hv, hT, nf, Or.inl ⟨by (try dsimp only); omega, rfl, (fun h9 => by have h8 := h9.2; omega)⟩, fMq⟩ dX7_movedAt_54
      · refine lv_aload_n F.1 F.2.1 dX7_movedAt_40 rfl (lv_at hl 0 rfl) ?_
        obtain ⟨r_41a, r_41b⟩ : R mo 31 = some (gh 81 0) ∧ gAr g (gh 81 0) 9 1200 := mR hv hm (q := (31, 1200)) (by decide)
        refine g_getR (ci := 7) (k := 31) F hH rfl (by decide) iX7 hm (by decide) rfl (b := gh 81 0) r_41a k57 dX7_movedAt_41 ?_
        refine z_iconst F dX7_movedAt_44 ?_
        refine lv_iload_n F.1 F.2.1 dX7_movedAt_45 rfl (lv_at hl 2 rfl) ?_
        refine z_imul F dX7_movedAt_46 ?_
        refine lv_iload_n F.1 F.2.1 dX7_movedAt_47 rfl (lv_at hl 3 rfl) ?_
        refine z_iadd F dX7_movedAt_48 ?_
        have hx49 : 0 ≤ ((5 * ip) + wh) ∧ ((5 * ip) + wh) < ((1200 : Nat) : Int) ∧ ((5 * ip) + wh) ≤ 2147483647 := ⟨by omega, by omega, by omega⟩
        refine g_iald F hH r_41b hx49.1 hx49.2.1 hx49.2.2 dX7_movedAt_49 ?_
        refine z_name (fun v_42 ev_42 => ?_)
        have zv_42 : zr v_42 := by rw [ev_42]; exact zr_t _
        refine z_goto (tgt := 54) F dX7_movedAt_50 (by decide) ?_
        exact g_iret F hr hlk hH hS hz zv_42 ⟨rfl, rfl, rfl, rfl, hv, hT, nf, absurd trivial (by omega), fMq⟩ dX7_movedAt_54
    · refine z_iconst F dX7_movedAt_25 ?_
      refine z_goto (tgt := 30) F dX7_movedAt_26 (by decide) ?_
      refine g_putI (ci := 7) (k := 17) F hH hS rfl (by decide) iX7 hm (by decide) tyX7 tyX7_ok nmX7 rfl rfl rfl k60 dX7_movedAt_30 (fun H locs hH hS => ?_)
      obtain ⟨I_43, eI_43⟩ : ∃ qQ, qQ = gup2 I mo 17 (iI (0)) := ⟨_, rfl⟩
      rw [← eI_43] at hH
      have kI_43 : ∀ b, b ≠ mo → I_43 b = I b := fun b hb => by rw [eI_43]; exact funext fun j => gup2_a _ _ hb
      have w_44 : (I_43 mo 17).toInt = 0 := by rw [eI_43, gup2_s]; exact iI_val ⟨by decide, by decide⟩
      have hv : mInv g gh R I_43 AI_21 := by rw [eI_43]; exact mP17 hv hm
      have nf : nF mo I I_43 := nF_t nf (by rw [eI_43]; exact nF_p (by decide))
      have u_45_2 : (I_43 mo 2).toInt = (I mo 2).toInt := by rw [nf 2 (by decide) (by decide) (by decide) (by decide) (by decide)]
      have u_45_5 : (I_43 mo 5).toInt = (I mo 5).toInt := by rw [nf 5 (by decide) (by decide) (by decide) (by decide) (by decide)]
      have u_45_14 : (I_43 mo 14).toInt = (I mo 14).toInt := by rw [nf 14 (by decide) (by decide) (by decide) (by decide) (by decide)]
      have u_45_16 : (I_43 mo 16).toInt = (I mo 16).toInt := by rw [nf 16 (by decide) (by decide) (by decide) (by decide) (by decide)]
      have u_45_24 : (I_43 mo 24).toInt = (I mo 24).toInt := by rw [nf 24 (by decide) (by decide) (by decide) (by decide) (by decide)]
      refine lv_aload_n F.1 F.2.1 dX7_movedAt_33 rfl (lv_at hl 0 rfl) ?_
      refine g_getI (ci := 7) (k := 17) F hH rfl (by decide) iX7 hm (by decide) rfl k60 dX7_movedAt_34 ?_
      refine z_if_ne (tgt := 53) F dX7_movedAt_37 (by decide) (zr_t _) (fun c_46 => ?_) (fun c_46 => ?_)
      · refine z_iconst F dX7_movedAt_53 ?_
        exact g_iret F hr hlk hH hS hz ⟨by decide, by decide⟩ ⟨rfl, rfl, rfl, rfl, hv, hT, nf, absurd trivial (by omega), fMq⟩ dX7_movedAt_54
      · refine lv_aload_n F.1 F.2.1 dX7_movedAt_40 rfl (lv_at hl 0 rfl) ?_
        obtain ⟨r_47a, r_47b⟩ : R mo 31 = some (gh 81 0) ∧ gAr g (gh 81 0) 9 1200 := mR hv hm (q := (31, 1200)) (by decide)
        refine g_getR (ci := 7) (k := 31) F hH rfl (by decide) iX7 hm (by decide) rfl (b := gh 81 0) r_47a k57 dX7_movedAt_41 ?_
        refine z_iconst F dX7_movedAt_44 ?_
        refine lv_iload_n F.1 F.2.1 dX7_movedAt_45 rfl (lv_at hl 2 rfl) ?_
        refine z_imul F dX7_movedAt_46 ?_
        refine lv_iload_n F.1 F.2.1 dX7_movedAt_47 rfl (lv_at hl 3 rfl) ?_
        refine z_iadd F dX7_movedAt_48 ?_
        have hx49 : 0 ≤ ((5 * ip) + wh) ∧ ((5 * ip) + wh) < ((1200 : Nat) : Int) ∧ ((5 * ip) + wh) ≤ 2147483647 := ⟨by omega, by omega, by omega⟩
        refine g_iald F hH r_47b hx49.1 hx49.2.1 hx49.2.2 dX7_movedAt_49 ?_
        refine z_name (fun v_48 ev_48 => ?_)
        have zv_48 : zr v_48 := by rw [ev_48]; exact zr_t _
        have c49 : v_48 = (w65 (AI_21 (gh 81 0)) (6 * ip.toNat + wh.toNat)).toInt := by rw [w65_k (by omega), ev_48]; congr 2; omega
        refine z_goto (tgt := 54) F dX7_movedAt_50 (by decide) ?_
        exact g_iret F hr hlk hH hS hz zv_48 ⟨rfl, rfl, rfl, rfl, hv, hT, nf, Or.inr ⟨by (try dsimp only); omega, ⟨tIz_1 qtd (by omega), by omega, by omega⟩, _, hB9, c49⟩, fMq⟩ dX7_movedAt_54

def rmX7_camef : Room := { frames := 3, cells := 0, slots := 0, locals := 76 }
set_option maxHeartbeats 4000000 in
set_option maxRecDepth 100000 in
/-- came -/
theorem c_X7_camef (l : Launch) (g : gG) (gh : gGh) (T : Nat → Int32) (tbs : Int) (nr : Nat) (cc : Nat → LC) (cl : Nat → Int) (I : gI) (R : gR) (J : gJ) (AI : gI) (AJ : gJ) (AR : gR) (mo : Nat) (rr : Int) (zrr : zr rr) (hv : mInv g gh R I AI) (hm : gO g mo 7) (hT : AI (gh 50 0) = T) (hmr : (I mo 2).toInt = (nr : Int)) (hpl : plM9 T tbs nr cc cl) (hbg : ∀ r : Nat, r < nr → bgOK (rfM gh AI 0) cl r) (hb9 : ∀ r : Nat, r < nr → bgOK (rfM gh AI 9) cl r) : gMet l g yX7_came tsX7_came rmX7_camef [.ref mo, .int (iI rr)] (I, R, J, AI, AJ, AR) (gQi g (fun (z : Int) (w : gS) => R = w.2.1 ∧ J = w.2.2.1 ∧ AJ = w.2.2.2.2.1 ∧ AR = w.2.2.2.2.2 ∧ (mInv g gh R (w.1) (w.2.2.2.1)) ∧ ((w.2.2.2.1) (gh 50 0) = T) ∧ (nF mo I (w.1)) ∧ ((((rr < 0 ∨ (nr : Int) ≤ rr) ∨ tI T (40 * rr) = 0) ∧ z = -1) ∨ (((0 ≤ rr ∧ rr < (nr : Int)) ∧ tI T (40 * rr) ≠ 0) ∧ z = ((bgN (mvF gh AI ((cc rr.toNat).1 2).toNat) : Nat) : Int) + (if (cc rr.toNat).1 3 < 0 then 0 else ((bgN (mvF gh AI ((cc rr.toNat).1 3).toNat) : Nat) : Int)))) ∧ (∀ b, b ≠ gh 81 0 → (w.2.2.2.1) b = AI b))) := by
  refine gStart (cc := cX7_came) (maxL := 2) (ret := (some (.int))) (by decide) rfl (Nat.le_of_ble_eq_true rfl) ?_
  intro p e s m below meth c ls F hr hlk hH hz hS hl
  have hl : lv_has ls 2 [(0, .ref mo), (1, .int (iI rr))] := hl
  have hS : va_S (gA g) s.heap s.heap [] := hS
  obtain ⟨H, hHe⟩ : ∃ H : Heap, H = s.heap := ⟨_, rfl⟩
  obtain ⟨locs, hlo⟩ : ∃ k : List Loc, k = [] := ⟨_, rfl⟩
  have hH : gH g I R J AI AJ AR H := by rw [hHe]; exact hH
  have hS : va_S (gA g) s.heap H locs := by rw [hHe, hlo]; exact hS
  suffices hw : W p l e rmX7_camef s m ([.ref mo, .int (iI rr)] : List Value).toArray below meth c H locs 0 0 (MQ below (gQi g (fun (z : Int) (w : gS) => R = w.2.1 ∧ J = w.2.2.1 ∧ AJ = w.2.2.2.2.1 ∧ AR = w.2.2.2.2.2 ∧ (mInv g gh R (w.1) (w.2.2.2.1)) ∧ ((w.2.2.2.1) (gh 50 0) = T) ∧ (nF mo I (w.1)) ∧ ((((rr < 0 ∨ (nr : Int) ≤ rr) ∨ tI T (40 * rr) = 0) ∧ z = -1) ∨ (((0 ≤ rr ∧ rr < (nr : Int)) ∧ tI T (40 * rr) ≠ 0) ∧ z = ((bgN (mvF gh AI ((cc rr.toNat).1 2).toNat) : Nat) : Int) + (if (cc rr.toNat).1 3 < 0 then 0 else ((bgN (mvF gh AI ((cc rr.toNat).1 3).toNat) : Nat) : Int)))) ∧ (∀ b, b ≠ gh 81 0 → (w.2.2.2.1) b = AI b))) ([.ref mo, .int (iI rr)] : List Value).toArray s 0 0 (gA g)) (F0 m 0 ls []) by
    rw [hHe, hlo] at hw; exact hw
  clear hHe hlo
  have nf : nF mo I I := nF_r
  have h56 : AI (gh 56 0) = AI (gh 56 0) := rfl
  have h57 : AI (gh 57 0) = AI (gh 57 0) := rfl
  have hb0 := mJ hv hm
  unfold mNum1 at hb0
  have iX7 : ∀ w ∈ u_ws RX7 TX7 32, w ∈ tsX7_came := fun w h => List.mem_cons_of_mem _ (inTB7 w h)
  have k60 : Cond.fieldLink RX7 60 (TX7 17).1 (TX7 17).2.1 (TX7 17).2.2.1 ∈ tsX7_came := List.mem_cons_of_mem _ fl_60
  refine lv_aload_n F.1 F.2.1 dX7_came_0 rfl (lv_at hl 0 rfl) ?_
  refine z_iconst F dX7_came_1 ?_
  refine g_putI (ci := 7) (k := 17) F hH hS rfl (by decide) iX7 hm (by decide) tyX7 tyX7_ok nmX7 rfl rfl rfl k60 dX7_came_2 (fun H locs hH hS => ?_)
  obtain ⟨I_1, eI_1⟩ : ∃ qQ, qQ = gup2 I mo 17 (iI (0)) := ⟨_, rfl⟩
  rw [← eI_1] at hH
  have kI_1 : ∀ b, b ≠ mo → I_1 b = I b := fun b hb => by rw [eI_1]; exact funext fun j => gup2_a _ _ hb
  have w_2 : (I_1 mo 17).toInt = 0 := by rw [eI_1, gup2_s]; exact iI_val ⟨by decide, by decide⟩
  have hv : mInv g gh R I_1 AI := by rw [eI_1]; exact mP17 hv hm
  have nf : nF mo I I_1 := nF_t nf (by rw [eI_1]; exact nF_p (by decide))
  have u_3_2 : (I_1 mo 2).toInt = (I mo 2).toInt := by rw [nf 2 (by decide) (by decide) (by decide) (by decide) (by decide)]
  have u_3_5 : (I_1 mo 5).toInt = (I mo 5).toInt := by rw [nf 5 (by decide) (by decide) (by decide) (by decide) (by decide)]
  have u_3_14 : (I_1 mo 14).toInt = (I mo 14).toInt := by rw [nf 14 (by decide) (by decide) (by decide) (by decide) (by decide)]
  have u_3_16 : (I_1 mo 16).toInt = (I mo 16).toInt := by rw [nf 16 (by decide) (by decide) (by decide) (by decide) (by decide)]
  have u_3_24 : (I_1 mo 24).toInt = (I mo 24).toInt := by rw [nf 24 (by decide) (by decide) (by decide) (by decide) (by decide)]
  refine lv_aload_n F.1 F.2.1 dX7_came_5 rfl (lv_at hl 0 rfl) ?_
  refine lv_iload_n F.1 F.2.1 dX7_came_6 rfl (lv_at hl 1 rfl) ?_
  have b_4 := mJ hv hm
  unfold mNum1 at b_4
  refine g_calli (g_runV (As := [.int (iI rr)]) (rest := []) (ci := 7) F hl.1 hH hS hz (c_X7_isRelationf l g gh T I_1 R J AI AJ AR mo rr zrr hv hm hT) (cwV 1 F.2.2.2.2.1 (good_up gT_X7_isRelation) rfl rfl rfl hdX7_isRelation ⟨Nat.le_of_ble_eq_true rfl, Nat.le_of_ble_eq_true rfl⟩) hm (by decide) rfl rfl rfl (Nat.le_of_ble_eq_true rfl) dX7_came_7 ⟨Nat.zero_le _, Nat.zero_le _⟩) hS (fun v_11 I_5 R_6 J_7 AI_8 AJ_9 AR_10 H locs zv_11 hp_12 hH hS => ?_)
  dsimp only at hp_12
  obtain ⟨rfl, rfl, rfl, rfl, rfl, rfl, q_13, qis⟩ := hp_12
  refine z_if_eq (tgt := 29) F dX7_came_10 (by decide) zv_11 (fun c_14 => ?_) (fun c_14 => ?_)
  · refine z_iconst F dX7_came_29 ?_
    exact g_iret F hr hlk hH hS hz ⟨by decide, by decide⟩ ⟨rfl, rfl, rfl, rfl, hv, hT, nf, Or.inl ⟨Or.inl (by have h9 := qis (by omega); omega), rfl⟩, fun _ _ => rfl⟩ dX7_came_30
  · refine lv_aload_n F.1 F.2.1 dX7_came_13 rfl (lv_at hl 0 rfl) ?_
    refine lv_iload_n F.1 F.2.1 dX7_came_14 rfl (lv_at hl 1 rfl) ?_
    refine g_calli (g_runV (As := [.int (iI rr)]) (rest := []) (ci := 7) F hl.1 hH hS hz (c_X7_kindOf l g gh T I_1 R J AI AJ AR mo rr zrr hv hm hT (by omega)) (cwV 1 F.2.2.2.2.1 (good_up gT_X7_kindOf) rfl rfl rfl hdX7_kindOf ⟨Nat.le_of_ble_eq_true rfl, Nat.le_of_ble_eq_true rfl⟩) hm (by decide) rfl rfl rfl (Nat.le_of_ble_eq_true rfl) dX7_came_15 ⟨Nat.zero_le _, Nat.zero_le _⟩) hS (fun v_21 I_15 R_16 J_17 AI_18 AJ_19 AR_20 H locs zv_21 hp_22 hH hS => ?_)
    dsimp only at hp_22
    obtain ⟨rfl, rfl, rfl, rfl, rfl, rfl, qk0⟩ := hp_22
    refine z_if_eq (tgt := 29) F dX7_came_18 (by decide) zv_21 (fun c_23 => ?_) (fun c_23 => ?_)
    · refine z_iconst F dX7_came_29 ?_
      exact g_iret F hr hlk hH hS hz ⟨by decide, by decide⟩ ⟨rfl, rfl, rfl, rfl, hv, hT, nf, Or.inl ⟨Or.inr (by omega), rfl⟩, fun _ _ => rfl⟩ dX7_came_30
    · have hkv : tbs ≤ rr := Classical.byContradiction fun h9 => absurd (hpl.2.1 rr (by omega) (by omega)) (by omega)
      have hlv9 := hpl.2.2 rr.toNat (by omega) (by omega)
      rw [show ((rr.toNat : Nat) : Int) = rr by omega] at hlv9
      refine lv_aload_n F.1 F.2.1 dX7_came_21 rfl (lv_at hl 0 rfl) ?_
      refine lv_iload_n F.1 F.2.1 dX7_came_22 rfl (lv_at hl 1 rfl) ?_
      refine g_calli (g_runV (As := [.int (iI rr)]) (rest := []) (ci := 7) F hl.1 hH hS hz (c_X7_cameTof l g gh T (cc rr.toNat) nr cl I_1 R J AI AJ AR mo rr zrr hv hm hT (by omega) (by omega) (by omega) hlv9.1 hlv9.2.1 hbg hb9) (cwV 1 F.2.2.2.2.1 (good_up gT_X7_cameTo) rfl rfl rfl hdX7_cameTo ⟨Nat.le_of_ble_eq_true rfl, Nat.le_of_ble_eq_true rfl⟩) hm (by decide) rfl rfl rfl (Nat.le_of_ble_eq_true rfl) dX7_came_23 ⟨Nat.zero_le _, Nat.zero_le _⟩) hS (fun v_30 I_24 R_25 J_26 AI_27 AJ_28 AR_29 H locs zv_30 hp_31 hH hS => ?_)
      dsimp only at hp_31
      obtain ⟨rfl, rfl, rfl, rfl, rfl, hv, hT, q_32, fMq, qct⟩ := hp_31
      refine z_goto (tgt := 30) F dX7_came_26 (by decide) ?_
      exact g_iret F hr hlk hH hS hz zv_30 ⟨rfl, rfl, rfl, rfl, hv, hT, nf, Or.inr ⟨⟨by omega, by omega⟩, qct⟩, fMq⟩ dX7_came_30

def rmX7_roundsf : Room := { frames := 2, cells := 0, slots := 0, locals := 43 }
set_option maxHeartbeats 4000000 in
set_option maxRecDepth 100000 in
/-- rounds -/
theorem c_X7_roundsf (l : Launch) (g : gG) (gh : gGh) (T : Nat → Int32) (nr : Nat) (I : gI) (R : gR) (J : gJ) (AI : gI) (AJ : gJ) (AR : gR) (mo : Nat) (rr : Int) (zrr : zr rr) (hv : mInv g gh R I AI) (hm : gO g mo 7) (hT : AI (gh 50 0) = T) (hmr : (I mo 2).toInt = (nr : Int)) : gMet l g yX7_rounds tsX7_rounds rmX7_roundsf [.ref mo, .int (iI rr)] (I, R, J, AI, AJ, AR) (gQi g (fun (z : Int) (w : gS) => R = w.2.1 ∧ J = w.2.2.1 ∧ AI = w.2.2.2.1 ∧ AJ = w.2.2.2.2.1 ∧ AR = w.2.2.2.2.2 ∧ (mInv g gh R (w.1) AI) ∧ (nF mo I (w.1)) ∧ ((((rr < 0 ∨ (nr : Int) ≤ rr) ∨ tI T (40 * rr) ≠ 8) ∧ z = -1) ∨ (((0 ≤ rr ∧ rr < (nr : Int)) ∧ tI T (40 * rr) = 8) ∧ z = (AI (gh 79 0) rr.toNat).toInt)))) := by
  refine gStart (cc := cX7_rounds) (maxL := 2) (ret := (some (.int))) (by decide) rfl (Nat.le_of_ble_eq_true rfl) ?_
  intro p e s m below meth c ls F hr hlk hH hz hS hl
  have hl : lv_has ls 2 [(0, .ref mo), (1, .int (iI rr))] := hl
  have hS : va_S (gA g) s.heap s.heap [] := hS
  obtain ⟨H, hHe⟩ : ∃ H : Heap, H = s.heap := ⟨_, rfl⟩
  obtain ⟨locs, hlo⟩ : ∃ k : List Loc, k = [] := ⟨_, rfl⟩
  have hH : gH g I R J AI AJ AR H := by rw [hHe]; exact hH
  have hS : va_S (gA g) s.heap H locs := by rw [hHe, hlo]; exact hS
  suffices hw : W p l e rmX7_roundsf s m ([.ref mo, .int (iI rr)] : List Value).toArray below meth c H locs 0 0 (MQ below (gQi g (fun (z : Int) (w : gS) => R = w.2.1 ∧ J = w.2.2.1 ∧ AI = w.2.2.2.1 ∧ AJ = w.2.2.2.2.1 ∧ AR = w.2.2.2.2.2 ∧ (mInv g gh R (w.1) AI) ∧ (nF mo I (w.1)) ∧ ((((rr < 0 ∨ (nr : Int) ≤ rr) ∨ tI T (40 * rr) ≠ 8) ∧ z = -1) ∨ (((0 ≤ rr ∧ rr < (nr : Int)) ∧ tI T (40 * rr) = 8) ∧ z = (AI (gh 79 0) rr.toNat).toInt)))) ([.ref mo, .int (iI rr)] : List Value).toArray s 0 0 (gA g)) (F0 m 0 ls []) by
    rw [hHe, hlo] at hw; exact hw
  clear hHe hlo
  have nf : nF mo I I := nF_r
  have hb0 := mJ hv hm
  unfold mNum1 at hb0
  have iX7 : ∀ w ∈ u_ws RX7 TX7 32, w ∈ tsX7_rounds := fun w h => List.mem_cons_of_mem _ (inTB7 w h)
  have k60 : Cond.fieldLink RX7 60 (TX7 17).1 (TX7 17).2.1 (TX7 17).2.2.1 ∈ tsX7_rounds := List.mem_cons_of_mem _ fl_60
  have k51 : Cond.fieldLink RX7 51 (TX7 29).1 (TX7 29).2.1 (TX7 29).2.2.1 ∈ tsX7_rounds := List.mem_cons_of_mem _ fl_51
  refine lv_aload_n F.1 F.2.1 dX7_rounds_0 rfl (lv_at hl 0 rfl) ?_
  refine z_iconst F dX7_rounds_1 ?_
  refine g_putI (ci := 7) (k := 17) F hH hS rfl (by decide) iX7 hm (by decide) tyX7 tyX7_ok nmX7 rfl rfl rfl k60 dX7_rounds_2 (fun H locs hH hS => ?_)
  obtain ⟨I_1, eI_1⟩ : ∃ qQ, qQ = gup2 I mo 17 (iI (0)) := ⟨_, rfl⟩
  rw [← eI_1] at hH
  have kI_1 : ∀ b, b ≠ mo → I_1 b = I b := fun b hb => by rw [eI_1]; exact funext fun j => gup2_a _ _ hb
  have w_2 : (I_1 mo 17).toInt = 0 := by rw [eI_1, gup2_s]; exact iI_val ⟨by decide, by decide⟩
  have hv : mInv g gh R I_1 AI := by rw [eI_1]; exact mP17 hv hm
  have nf : nF mo I I_1 := nF_t nf (by rw [eI_1]; exact nF_p (by decide))
  have u_3_2 : (I_1 mo 2).toInt = (I mo 2).toInt := by rw [nf 2 (by decide) (by decide) (by decide) (by decide) (by decide)]
  have u_3_5 : (I_1 mo 5).toInt = (I mo 5).toInt := by rw [nf 5 (by decide) (by decide) (by decide) (by decide) (by decide)]
  have u_3_14 : (I_1 mo 14).toInt = (I mo 14).toInt := by rw [nf 14 (by decide) (by decide) (by decide) (by decide) (by decide)]
  have u_3_16 : (I_1 mo 16).toInt = (I mo 16).toInt := by rw [nf 16 (by decide) (by decide) (by decide) (by decide) (by decide)]
  have u_3_24 : (I_1 mo 24).toInt = (I mo 24).toInt := by rw [nf 24 (by decide) (by decide) (by decide) (by decide) (by decide)]
  refine lv_aload_n F.1 F.2.1 dX7_rounds_5 rfl (lv_at hl 0 rfl) ?_
  refine lv_iload_n F.1 F.2.1 dX7_rounds_6 rfl (lv_at hl 1 rfl) ?_
  have b_4 := mJ hv hm
  unfold mNum1 at b_4
  refine g_calli (g_runV (As := [.int (iI rr)]) (rest := []) (ci := 7) F hl.1 hH hS hz (c_X7_isRelationf l g gh T I_1 R J AI AJ AR mo rr zrr hv hm hT) (cwV 1 F.2.2.2.2.1 (good_up gT_X7_isRelation) rfl rfl rfl hdX7_isRelation ⟨Nat.le_of_ble_eq_true rfl, Nat.le_of_ble_eq_true rfl⟩) hm (by decide) rfl rfl rfl (Nat.le_of_ble_eq_true rfl) dX7_rounds_7 ⟨Nat.zero_le _, Nat.zero_le _⟩) hS (fun v_11 I_5 R_6 J_7 AI_8 AJ_9 AR_10 H locs zv_11 hp_12 hH hS => ?_)
  dsimp only at hp_12
  obtain ⟨rfl, rfl, rfl, rfl, rfl, rfl, q_13, qis⟩ := hp_12
  refine z_if_eq (tgt := 34) F dX7_rounds_10 (by decide) zv_11 (fun c_14 => ?_) (fun c_14 => ?_)
  · refine z_iconst F dX7_rounds_34 ?_
    exact g_iret F hr hlk hH hS hz ⟨by decide, by decide⟩ ⟨rfl, rfl, rfl, rfl, rfl, hv, nf, Or.inl ⟨Or.inl (by have h9 := qis (by omega); omega), rfl⟩⟩ dX7_rounds_35
  · refine lv_aload_n F.1 F.2.1 dX7_rounds_13 rfl (lv_at hl 0 rfl) ?_
    refine lv_iload_n F.1 F.2.1 dX7_rounds_14 rfl (lv_at hl 1 rfl) ?_
    refine g_calli (g_runV (As := [.int (iI rr)]) (rest := []) (ci := 7) F hl.1 hH hS hz (c_X7_kindOf l g gh T I_1 R J AI AJ AR mo rr zrr hv hm hT (by omega)) (cwV 1 F.2.2.2.2.1 (good_up gT_X7_kindOf) rfl rfl rfl hdX7_kindOf ⟨Nat.le_of_ble_eq_true rfl, Nat.le_of_ble_eq_true rfl⟩) hm (by decide) rfl rfl rfl (Nat.le_of_ble_eq_true rfl) dX7_rounds_15 ⟨Nat.zero_le _, Nat.zero_le _⟩) hS (fun v_21 I_15 R_16 J_17 AI_18 AJ_19 AR_20 H locs zv_21 hp_22 hH hS => ?_)
    dsimp only at hp_22
    obtain ⟨rfl, rfl, rfl, rfl, rfl, rfl, qk0⟩ := hp_22
    refine z_bipush F dX7_rounds_18 (by decide) ?_
    refine z_icmp_ne (tgt := 34) F dX7_rounds_20 (by decide) zv_21 ⟨by decide, by decide⟩ (fun c_23 => ?_) (fun c_23 => ?_)
    · refine z_iconst F dX7_rounds_34 ?_
      exact g_iret F hr hlk hH hS hz ⟨by decide, by decide⟩ ⟨rfl, rfl, rfl, rfl, rfl, hv, nf, Or.inl ⟨Or.inr (by omega), rfl⟩⟩ dX7_rounds_35
    · refine lv_aload_n F.1 F.2.1 dX7_rounds_23 rfl (lv_at hl 0 rfl) ?_
      obtain ⟨r_24a, r_24b⟩ : R mo 29 = some (gh 79 0) ∧ gAr g (gh 79 0) 9 176 := mR hv hm (q := (29, 176)) (by decide)
      refine g_getR (ci := 7) (k := 29) F hH rfl (by decide) iX7 hm (by decide) rfl (b := gh 79 0) r_24a k51 dX7_rounds_24 ?_
      refine z_iconst F dX7_rounds_27 ?_
      refine lv_iload_n F.1 F.2.1 dX7_rounds_28 rfl (lv_at hl 1 rfl) ?_
      refine z_iadd F dX7_rounds_29 ?_
      have hx30 : 0 ≤ (0 + rr) ∧ (0 + rr) < ((176 : Nat) : Int) ∧ (0 + rr) ≤ 2147483647 := ⟨by omega, by omega, by omega⟩
      refine g_iald F hH r_24b hx30.1 hx30.2.1 hx30.2.2 dX7_rounds_30 ?_
      refine z_name (fun v_25 ev_25 => ?_)
      have zv_25 : zr v_25 := by rw [ev_25]; exact zr_t _
      have c30 : v_25 = (AI (gh 79 0) rr.toNat).toInt := by rw [ev_25]; congr 2; omega
      refine z_goto (tgt := 35) F dX7_rounds_31 (by decide) ?_
      exact g_iret F hr hlk hH hS hz zv_25 ⟨rfl, rfl, rfl, rfl, rfl, hv, nf, Or.inr ⟨⟨by omega, by omega⟩, c30⟩⟩ dX7_rounds_35
