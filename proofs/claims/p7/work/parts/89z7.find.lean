def rmX7_sizef : Room := { frames := 2, cells := 0, slots := 0, locals := 43 }
set_option maxHeartbeats 4000000 in
set_option maxRecDepth 100000 in
/-- size -/
theorem c_X7_sizef (l : Launch) (g : gG) (gh : gGh) (T : Nat → Int32) (nr : Nat) (I : gI) (R : gR) (J : gJ) (AI : gI) (AJ : gJ) (AR : gR) (mo : Nat) (rr : Int) (zrr : zr rr) (hv : mInv g gh R I AI) (hm : gO g mo 7) (hT : AI (gh 50 0) = T) (hmr : (I mo 2).toInt = (nr : Int)) : gMet l g yX7_size tsX7_size rmX7_sizef [.ref mo, .int (iI rr)] (I, R, J, AI, AJ, AR) (gQi g (fun (z : Int) (w : gS) => R = w.2.1 ∧ J = w.2.2.1 ∧ AI = w.2.2.2.1 ∧ AJ = w.2.2.2.2.1 ∧ AR = w.2.2.2.2.2 ∧ (mInv g gh R (w.1) AI) ∧ (nF mo I (w.1)) ∧ (((rr < 0 ∨ (nr : Int) ≤ rr) ∧ z = -1) ∨ ((0 ≤ rr ∧ rr < (nr : Int)) ∧ z = (((rfM gh AI 0 rr.toNat).1 : Nat) : Int))))) := by
  refine gStart (cc := cX7_size) (maxL := 2) (ret := (some (.int))) (by decide) rfl (Nat.le_of_ble_eq_true rfl) ?_
  intro p e s m below meth c ls F hr hlk hH hz hS hl
  have hl : lv_has ls 2 [(0, .ref mo), (1, .int (iI rr))] := hl
  have hS : va_S (gA g) s.heap s.heap [] := hS
  obtain ⟨H, hHe⟩ : ∃ H : Heap, H = s.heap := ⟨_, rfl⟩
  obtain ⟨locs, hlo⟩ : ∃ k : List Loc, k = [] := ⟨_, rfl⟩
  have hH : gH g I R J AI AJ AR H := by rw [hHe]; exact hH
  have hS : va_S (gA g) s.heap H locs := by rw [hHe, hlo]; exact hS
  suffices hw : W p l e rmX7_sizef s m ([.ref mo, .int (iI rr)] : List Value).toArray below meth c H locs 0 0 (MQ below (gQi g (fun (z : Int) (w : gS) => R = w.2.1 ∧ J = w.2.2.1 ∧ AI = w.2.2.2.1 ∧ AJ = w.2.2.2.2.1 ∧ AR = w.2.2.2.2.2 ∧ (mInv g gh R (w.1) AI) ∧ (nF mo I (w.1)) ∧ (((rr < 0 ∨ (nr : Int) ≤ rr) ∧ z = -1) ∨ ((0 ≤ rr ∧ rr < (nr : Int)) ∧ z = (((rfM gh AI 0 rr.toNat).1 : Nat) : Int))))) ([.ref mo, .int (iI rr)] : List Value).toArray s 0 0 (gA g)) (F0 m 0 ls []) by
    rw [hHe, hlo] at hw; exact hw
  clear hHe hlo
  have nf : nF mo I I := nF_r
  have iX7 : ∀ w ∈ u_ws RX7 TX7 32, w ∈ tsX7_size := fun w h => List.mem_cons_of_mem _ (inTB7 w h)
  have k60 : Cond.fieldLink RX7 60 (TX7 17).1 (TX7 17).2.1 (TX7 17).2.2.1 ∈ tsX7_size := List.mem_cons_of_mem _ fl_60
  refine lv_aload_n F.1 F.2.1 dX7_size_0 rfl (lv_at hl 0 rfl) ?_
  refine z_iconst F dX7_size_1 ?_
  refine g_putI (ci := 7) (k := 17) F hH hS rfl (by decide) iX7 hm (by decide) tyX7 tyX7_ok nmX7 rfl rfl rfl k60 dX7_size_2 (fun H locs hH hS => ?_)
  obtain ⟨I_1, eI_1⟩ : ∃ qQ, qQ = gup2 I mo 17 (iI (0)) := ⟨_, rfl⟩
  rw [← eI_1] at hH
  have kI_1 : ∀ b, b ≠ mo → I_1 b = I b := fun b hb => by rw [eI_1]; exact funext fun j => gup2_a _ _ hb
  have w_2 : (I_1 mo 17).toInt = 0 := by rw [eI_1, gup2_s]; exact iI_val ⟨by decide, by decide⟩
  have hv : mInv g gh R I_1 AI := by rw [eI_1]; exact mP17 hv hm
  have nf : nF mo I I_1 := nF_t nf (by rw [eI_1]; exact nF_p (by decide))
  have u_3_2 : (I_1 mo 2).toInt = (I mo 2).toInt := by rw [nf 2 (by decide) (by decide) (by decide) (by decide) (by decide)]
  have u_3_5 : (I_1 mo 5).toInt = (I mo 5).toInt := by rw [nf 5 (by decide) (by decide) (by decide) (by decide) (by decide)]
  have u_3_14 : (I_1 mo 14).toInt = (I mo 14).toInt := by rw [nf 14 (by decide) (by decide) (by decide) (by decide) (by decide)]
  have u_3_16 : (I_1 mo 16).toInt = (I mo 16).toInt := by rw [nf 16 (by decide) (by decide) (by decide) (by decide) (by decide)]
  have u_3_24 : (I_1 mo 24).toInt = (I mo 24).toInt := by rw [nf 24 (by decide) (by decide) (by decide) (by decide) (by decide)]
  refine lv_aload_n F.1 F.2.1 dX7_size_5 rfl (lv_at hl 0 rfl) ?_
  refine lv_iload_n F.1 F.2.1 dX7_size_6 rfl (lv_at hl 1 rfl) ?_
  have b_4 := mJ hv hm
  unfold mNum1 at b_4
  refine g_calli (g_runV (As := [.int (iI rr)]) (rest := []) (ci := 7) F hl.1 hH hS hz (c_X7_isRelationf l g gh T I_1 R J AI AJ AR mo rr zrr hv hm hT) (cwV 1 F.2.2.2.2.1 (good_up gT_X7_isRelation) rfl rfl rfl hdX7_isRelation ⟨Nat.le_of_ble_eq_true rfl, Nat.le_of_ble_eq_true rfl⟩) hm (by decide) rfl rfl rfl (Nat.le_of_ble_eq_true rfl) dX7_size_7 ⟨Nat.zero_le _, Nat.zero_le _⟩) hS (fun v_11 I_5 R_6 J_7 AI_8 AJ_9 AR_10 H locs zv_11 hp_12 hH hS => ?_)
  dsimp only at hp_12
  obtain ⟨rfl, rfl, rfl, rfl, rfl, rfl, q_13, qis⟩ := hp_12
  refine z_if_eq (tgt := 22) F dX7_size_10 (by decide) zv_11 (fun c_14 => ?_) (fun c_14 => ?_)
  · refine z_iconst F dX7_size_22 ?_
    exact g_iret F hr hlk hH hS hz ⟨by decide, by decide⟩ ⟨rfl, rfl, rfl, rfl, rfl, hv, nf, Or.inl ⟨by have h9 := qis (by omega); omega, rfl⟩⟩ dX7_size_23
  · refine lv_aload_n F.1 F.2.1 dX7_size_13 rfl (lv_at hl 0 rfl) ?_
    refine z_iconst F dX7_size_14 ?_
    refine lv_iload_n F.1 F.2.1 dX7_size_15 rfl (lv_at hl 1 rfl) ?_
    refine g_calli (g_runV (As := [.int (iI 0), .int (iI rr)]) (rest := []) (ci := 7) F hl.1 hH hS hz (c_X7_sizeOf l g gh T I_1 R J AI AJ AR mo 0 rr ⟨by decide, by decide⟩ zrr hv hm hT (by omega) (by omega)) (cwV 2 F.2.2.2.2.1 (good_up gT_X7_sizeOf) rfl rfl rfl hdX7_sizeOf ⟨Nat.le_of_ble_eq_true rfl, Nat.le_of_ble_eq_true rfl⟩) hm (by decide) rfl rfl rfl (Nat.le_of_ble_eq_true rfl) dX7_size_16 ⟨Nat.zero_le _, Nat.zero_le _⟩) hS (fun v_21 I_15 R_16 J_17 AI_18 AJ_19 AR_20 H locs zv_21 hp_22 hH hS => ?_)
    dsimp only at hp_22
    obtain ⟨rfl, rfl, rfl, rfl, rfl, rfl, q_23, qsz⟩ := hp_22
    refine z_goto (tgt := 23) F dX7_size_19 (by decide) ?_
    exact g_iret F hr hlk hH hS hz zv_21 ⟨rfl, rfl, rfl, rfl, rfl, hv, nf, Or.inr ⟨⟨by omega, by omega⟩, by rw [rfM_1 (by omega), qsz]; unfold tI; have h8 := (mSz hv hm (z := 16 * 0 + rr) (by omega) (by omega)).1; omega⟩⟩ dX7_size_23

def rmX7_isToldf : Room := { frames := 2, cells := 0, slots := 0, locals := 43 }
set_option maxHeartbeats 4000000 in
set_option maxRecDepth 100000 in
/-- told -/
theorem c_X7_isToldf (l : Launch) (g : gG) (gh : gGh) (T : Nat → Int32) (nr : Nat) (I : gI) (R : gR) (J : gJ) (AI : gI) (AJ : gJ) (AR : gR) (mo : Nat) (rr : Int) (wh : Int) (zrr : zr rr) (zwh : zr wh) (hv : mInv g gh R I AI) (hm : gO g mo 7) (hT : AI (gh 50 0) = T) (hmr : (I mo 2).toInt = (nr : Int)) : gMet l g yX7_isTold tsX7_isTold rmX7_isToldf [.ref mo, .int (iI rr), .int (iI wh)] (I, R, J, AI, AJ, AR) (gQi g (fun (z : Int) (w : gS) => I = w.1 ∧ R = w.2.1 ∧ J = w.2.2.1 ∧ AI = w.2.2.2.1 ∧ AJ = w.2.2.2.2.1 ∧ AR = w.2.2.2.2.2 ∧ ((z = 0 ∨ z = 1) ∧ (z = 1 → 0 ≤ rr ∧ rr ≤ 15 ∧ 0 ≤ wh ∧ wh ≤ 4)) ∧ (tIz z (tdM T nr rr wh)))) := by
  refine gStart (cc := cX7_isTold) (maxL := 3) (ret := (some (.boolean))) (by decide) rfl (Nat.le_of_ble_eq_true rfl) ?_
  intro p e s m below meth c ls F hr hlk hH hz hS hl
  have hl : lv_has ls 3 [(0, .ref mo), (1, .int (iI rr)), (2, .int (iI wh))] := hl
  have hS : va_S (gA g) s.heap s.heap [] := hS
  obtain ⟨H, hHe⟩ : ∃ H : Heap, H = s.heap := ⟨_, rfl⟩
  obtain ⟨locs, hlo⟩ : ∃ k : List Loc, k = [] := ⟨_, rfl⟩
  have hH : gH g I R J AI AJ AR H := by rw [hHe]; exact hH
  have hS : va_S (gA g) s.heap H locs := by rw [hHe, hlo]; exact hS
  suffices hw : W p l e rmX7_isToldf s m ([.ref mo, .int (iI rr), .int (iI wh)] : List Value).toArray below meth c H locs 0 0 (MQ below (gQi g (fun (z : Int) (w : gS) => I = w.1 ∧ R = w.2.1 ∧ J = w.2.2.1 ∧ AI = w.2.2.2.1 ∧ AJ = w.2.2.2.2.1 ∧ AR = w.2.2.2.2.2 ∧ ((z = 0 ∨ z = 1) ∧ (z = 1 → 0 ≤ rr ∧ rr ≤ 15 ∧ 0 ≤ wh ∧ wh ≤ 4)) ∧ (tIz z (tdM T nr rr wh)))) ([.ref mo, .int (iI rr), .int (iI wh)] : List Value).toArray s 0 0 (gA g)) (F0 m 0 ls []) by
    rw [hHe, hlo] at hw; exact hw
  clear hHe hlo
  refine lv_aload_n F.1 F.2.1 dX7_isTold_0 rfl (lv_at hl 0 rfl) ?_
  refine lv_iload_n F.1 F.2.1 dX7_isTold_1 rfl (lv_at hl 1 rfl) ?_
  have b_1 := mJ hv hm
  unfold mNum1 at b_1
  refine g_calli (g_runV (As := [.int (iI rr)]) (rest := []) (ci := 7) F hl.1 hH hS hz (c_X7_isRelationf l g gh T I R J AI AJ AR mo rr zrr hv hm hT) (cwV 1 F.2.2.2.2.1 (good_up gT_X7_isRelation) rfl rfl rfl hdX7_isRelation ⟨Nat.le_of_ble_eq_true rfl, Nat.le_of_ble_eq_true rfl⟩) hm (by decide) rfl rfl rfl (Nat.le_of_ble_eq_true rfl) dX7_isTold_2 ⟨Nat.zero_le _, Nat.zero_le _⟩) hS (fun v_8 I_2 R_3 J_4 AI_5 AJ_6 AR_7 H locs zv_8 hp_9 hH hS => ?_)
  dsimp only at hp_9
  obtain ⟨rfl, rfl, rfl, rfl, rfl, rfl, q_10, qis⟩ := hp_9
  refine z_if_eq (tgt := 32) F dX7_isTold_5 (by decide) zv_8 (fun c_11 => ?_) (fun c_11 => ?_)
  · refine z_iconst F dX7_isTold_32 ?_
    exact g_zret F hr hlk hH hS hz (by omega) ⟨rfl, rfl, rfl, rfl, rfl, rfl, ⟨by omega, fun _ => by omega⟩, tIz_f (fun h9 => by have h8 := h9.1; have h7 := qis (by omega); omega)⟩ dX7_isTold_33
  · refine lv_iload_n F.1 F.2.1 dX7_isTold_8 rfl (lv_at hl 2 rfl) ?_
    refine z_iconst F dX7_isTold_9 ?_
    refine z_icmp_eq (tgt := 28) F dX7_isTold_10 (by decide) zwh ⟨by decide, by decide⟩ (fun c_12 => ?_) (fun c_12 => ?_)
    · refine z_iconst F dX7_isTold_28 ?_
      refine z_goto (tgt := 33) F dX7_isTold_29 (by decide) ?_
      exact g_zret F hr hlk hH hS hz (by omega) ⟨rfl, rfl, rfl, rfl, rfl, rfl, ⟨by omega, fun _ => by omega⟩, tIz_t ⟨⟨by omega, by omega⟩, by first | exact Or.inl (by omega) | (refine Or.inr ?_; rw [← qc17]; omega)⟩⟩ dX7_isTold_33
    · have x := mRow hv hm hT (z := rr) (by omega) (by omega)
      have xa := x.1
      refine lv_iload_n F.1 F.2.1 dX7_isTold_13 rfl (lv_at hl 2 rfl) ?_
      refine z_iconst F dX7_isTold_14 ?_
      refine lv_aload_n F.1 F.2.1 dX7_isTold_15 rfl (lv_at hl 0 rfl) ?_
      refine lv_iload_n F.1 F.2.1 dX7_isTold_16 rfl (lv_at hl 1 rfl) ?_
      refine g_calli (g_runV (As := [.int (iI rr)]) (rest := [.int (iI 0), .int (iI wh)]) (ci := 7) F hl.1 hH hS hz (c_X7_columnsOf l g gh T I R J AI AJ AR mo rr zrr hv hm hT (by omega)) (cwV 1 F.2.2.2.2.1 (good_up gT_X7_columnsOf) rfl rfl rfl hdX7_columnsOf ⟨Nat.le_of_ble_eq_true rfl, Nat.le_of_ble_eq_true rfl⟩) hm (by decide) rfl rfl rfl (Nat.le_of_ble_eq_true rfl) dX7_isTold_17 ⟨Nat.zero_le _, Nat.zero_le _⟩) hS (fun v_19 I_13 R_14 J_15 AI_16 AJ_17 AR_18 H locs zv_19 hp_20 hH hS => ?_)
      dsimp only at hp_20
      obtain ⟨rfl, rfl, rfl, rfl, rfl, rfl, qc17⟩ := hp_20
      refine z_iconst F dX7_isTold_20 ?_
      refine z_isub F dX7_isTold_21 ?_
      refine g_calli (g_runS (As := [.int (iI wh), .int (iI 0), .int (iI (v_19 - 1))]) (rest := []) F hl.1 hH hS hz (c_X7_within l g  I R J AI AJ AR wh 0 (v_19 - 1) zwh ⟨by decide, by decide⟩ ⟨by omega, by omega⟩) (va_cwS 3 F.2.2.2.2.1 (good_up gT_X7_within) rfl rfl rfl hdX7_within.2 ⟨Nat.le_of_ble_eq_true rfl, Nat.le_of_ble_eq_true rfl⟩) rfl rfl (Nat.le_of_ble_eq_true rfl) dX7_isTold_22 ⟨Nat.zero_le _, Nat.zero_le _⟩) hS (fun v_27 I_21 R_22 J_23 AI_24 AJ_25 AR_26 H locs zv_27 hp_28 hH hS => ?_)
      dsimp only at hp_28
      obtain ⟨rfl, rfl, rfl, rfl, rfl, rfl, qwi⟩ := hp_28
      refine z_if_eq (tgt := 32) F dX7_isTold_25 (by decide) zv_27 (fun c_29 => ?_) (fun c_29 => ?_)
      · refine z_iconst F dX7_isTold_32 ?_
        exact g_zret F hr hlk hH hS hz (by omega) ⟨rfl, rfl, rfl, rfl, rfl, rfl, ⟨by omega, fun _ => by omega⟩, tIz_f (fun h9 => by have h8 := h9.2; rw [← qc17] at h8; omega)⟩ dX7_isTold_33
      · refine z_iconst F dX7_isTold_28 ?_
        refine z_goto (tgt := 33) F dX7_isTold_29 (by decide) ?_
        exact g_zret F hr hlk hH hS hz (by omega) ⟨rfl, rfl, rfl, rfl, rfl, rfl, ⟨by omega, fun _ => by omega⟩, tIz_t ⟨⟨by omega, by omega⟩, by first | exact Or.inl (by omega) | (refine Or.inr ?_; rw [← qc17]; omega)⟩⟩ dX7_isTold_33

def rmX7_findf : Room := { frames := 1, cells := 0, slots := 0, locals := 24 }
set_option maxHeartbeats 4000000 in
set_option maxRecDepth 100000 in
/-- find -/
theorem c_X7_findf (l : Launch) (g : gG) (gh : gGh) (T : Nat → Int32) (na : Nat) (bxa : Nat → Int32) (I : gI) (R : gR) (J : gJ) (AI : gI) (AJ : gJ) (AR : gR) (mo : Nat) (sd : Int) (rr : Int) (a1 : Int) (b1 : Int) (c1 : Int) (d1 : Int) (zsd : zr sd) (zrr : zr rr) (za1 : zr a1) (zb1 : zr b1) (zc1 : zr c1) (zd1 : zr d1) (hv : mInv g gh R I AI) (hm : gO g mo 7) (hT : AI (gh 50 0) = T) (hs : 0 ≤ sd ∧ sd ≤ 10) (hr0 : 0 ≤ rr ∧ rr ≤ 15) (hna : tI (AI (gh 57 0)) (16 * sd + rr) = (na : Int)) (hXa : ∀ q : Nat, q < 720 → AI (gh 56 0) ((11520 * sd + 720 * rr).toNat + q) = bxa q) (h120 : na ≤ 120) : gMet l g yX7_find tsX7_find rmX7_findf [.ref mo, .int (iI sd), .int (iI rr), .int (iI a1), .int (iI b1), .int (iI c1), .int (iI d1)] (I, R, J, AI, AJ, AR) (gQi g (fun (z : Int) (w : gS) => I = w.1 ∧ R = w.2.1 ∧ J = w.2.2.1 ∧ AJ = w.2.2.2.2.1 ∧ AR = w.2.2.2.2.2 ∧ (mInv g gh R I (w.2.2.2.1)) ∧ ((w.2.2.2.1) (gh 50 0) = T) ∧ (-1 ≤ z ∧ z ≤ 119) ∧ (∀ b, b ≠ gh 77 0 → (w.2.2.2.1) b = AI b) ∧ (fdM bxa na (kyT (tI T (40 * rr + 1)) a1 b1 c1 d1) z))) := by
  refine gStart (cc := cX7_find) (maxL := 9) (ret := (some (.int))) (by decide) rfl (Nat.le_of_ble_eq_true rfl) ?_
  intro p e s m below meth c ls F hr hlk hH hz hS hl
  have hl : lv_has ls 9 [(0, .ref mo), (1, .int (iI sd)), (2, .int (iI rr)), (3, .int (iI a1)), (4, .int (iI b1)), (5, .int (iI c1)), (6, .int (iI d1))] := hl
  have hS : va_S (gA g) s.heap s.heap [] := hS
  obtain ⟨H, hHe⟩ : ∃ H : Heap, H = s.heap := ⟨_, rfl⟩
  obtain ⟨locs, hlo⟩ : ∃ k : List Loc, k = [] := ⟨_, rfl⟩
  have hH : gH g I R J AI AJ AR H := by rw [hHe]; exact hH
  have hS : va_S (gA g) s.heap H locs := by rw [hHe, hlo]; exact hS
  suffices hw : W p l e rmX7_findf s m ([.ref mo, .int (iI sd), .int (iI rr), .int (iI a1), .int (iI b1), .int (iI c1), .int (iI d1)] : List Value).toArray below meth c H locs 0 0 (MQ below (gQi g (fun (z : Int) (w : gS) => I = w.1 ∧ R = w.2.1 ∧ J = w.2.2.1 ∧ AJ = w.2.2.2.2.1 ∧ AR = w.2.2.2.2.2 ∧ (mInv g gh R I (w.2.2.2.1)) ∧ ((w.2.2.2.1) (gh 50 0) = T) ∧ (-1 ≤ z ∧ z ≤ 119) ∧ (∀ b, b ≠ gh 77 0 → (w.2.2.2.1) b = AI b) ∧ (fdM bxa na (kyT (tI T (40 * rr + 1)) a1 b1 c1 d1) z))) ([.ref mo, .int (iI sd), .int (iI rr), .int (iI a1), .int (iI b1), .int (iI c1), .int (iI d1)] : List Value).toArray s 0 0 (gA g)) (F0 m 0 ls []) by
    rw [hHe, hlo] at hw; exact hw
  clear hHe hlo
  have iX7 : ∀ w ∈ u_ws RX7 TX7 32, w ∈ tsX7_find := fun w h => List.mem_cons_of_mem _ (inTB7 w h)
  have k45 : Cond.fieldLink RX7 45 (TX7 27).1 (TX7 27).2.1 (TX7 27).2.2.1 ∈ tsX7_find := List.mem_cons_of_mem _ fl_45
  have k24 : Cond.fieldLink RX7 24 (TX7 6).1 (TX7 6).2.1 (TX7 6).2.2.1 ∈ tsX7_find := List.mem_cons_of_mem _ fl_24
  refine lv_aload_n F.1 F.2.1 dX7_find_0 rfl (lv_at hl 0 rfl) ?_
  refine lv_iload_n F.1 F.2.1 dX7_find_1 rfl (lv_at hl 2 rfl) ?_
  have b_1 := mJ hv hm
  unfold mNum1 at b_1
  refine g_calli (g_runV (As := [.int (iI rr)]) (rest := []) (ci := 7) F hl.1 hH hS hz (c_X7_columnsOf l g gh T I R J AI AJ AR mo rr zrr hv hm hT (by omega)) (cwV 1 F.2.2.2.2.1 (good_up gT_X7_columnsOf) rfl rfl rfl hdX7_columnsOf ⟨Nat.le_of_ble_eq_true rfl, Nat.le_of_ble_eq_true rfl⟩) hm (by decide) rfl rfl rfl (Nat.le_of_ble_eq_true rfl) dX7_find_2 ⟨Nat.zero_le _, Nat.zero_le _⟩) hS (fun v_8 I_2 R_3 J_4 AI_5 AJ_6 AR_7 H locs zv_8 hp_9 hH hS => ?_)
  dsimp only at hp_9
  obtain ⟨rfl, rfl, rfl, rfl, rfl, rfl, qco⟩ := hp_9
  refine lv_istore (lv' := [(7, .int (iI v_8)), (0, .ref mo), (1, .int (iI sd)), (2, .int (iI rr)), (3, .int (iI a1)), (4, .int (iI b1)), (5, .int (iI c1)), (6, .int (iI d1))]) F.1 F.2.1 dX7_find_5 hl (by decide) rfl (fun ls hl => ?_)
  refine lv_aload_n F.1 F.2.1 dX7_find_7 rfl (lv_at hl 1 rfl) ?_
  obtain ⟨r_10a, r_10b⟩ : R mo 27 = some (gh 77 0) ∧ gAr g (gh 77 0) 9 4 := mR hv hm (q := (27, 4)) (by decide)
  refine g_getR (ci := 7) (k := 27) F hH rfl (by decide) iX7 hm (by decide) rfl (b := gh 77 0) r_10a k45 dX7_find_8 ?_
  refine z_iconst F dX7_find_11 ?_
  refine lv_iload_n F.1 F.2.1 dX7_find_12 rfl (lv_at hl 4 rfl) ?_
  have hx13 : 0 ≤ (0 : Int) ∧ (0 : Int) < ((4 : Nat) : Int) ∧ (0 : Int) ≤ 2147483647 := ⟨by omega, by omega, by omega⟩
  refine g_iast F hH hS r_10b hx13.1 hx13.2.1 hx13.2.2 dX7_find_13 (fun H locs hH hS => ?_)
  obtain ⟨AI_11, eAI_11⟩ : ∃ qQ, qQ = gup2 AI (gh 77 0) ((0 : Int)).toNat (iI (a1)) := ⟨_, rfl⟩
  rw [← eAI_11] at hH
  have kAI_11 : ∀ b, b ≠ (gh 77 0) → AI_11 b = AI b := fun b hb => by rw [eAI_11]; exact funext fun j => gup2_a _ _ hb
  have hvO := hv
  have t_12 : AI_11 (gh 50 0) = AI (gh 50 0) := mK hv hm (p := (0, 640)) (q := (27, 4)) (by decide) (by decide) (by decide) kAI_11
  have hv : mInv g gh R I AI_11 := mInv_a hv hm (q := (27, 4)) (by decide) (by decide) kAI_11
  have hT : AI_11 (gh 50 0) = T := t_12.trans hT
  have key0 : AI_11 (gh 77 0) 0 = iI a1 := by rw [eAI_11, gup2_e _ _ (by decide)]
  have fW : ∀ b, b ≠ gh 77 0 → AI_11 b = AI b := fun b hb => kAI_11 b hb
  refine lv_aload_n F.1 F.2.1 dX7_find_14 rfl (lv_at hl 1 rfl) ?_
  refine g_getR (ci := 7) (k := 27) F hH rfl (by decide) iX7 hm (by decide) rfl (b := gh 77 0) r_10a k45 dX7_find_15 ?_
  refine z_iconst F dX7_find_18 ?_
  have cut_31_12 : ∀ (t1 : Int) (H : Heap) (locs : List Loc) (ls : Array Slot), zr t1 → (t1 = if 1 < (tI T (40 * rr + 1)) then b1 else 0) → gH g I R J AI_11 AJ AR H → va_S (gA g) s.heap H locs → lv_has ls 9 [(7, .int (iI v_8)), (0, .ref mo), (1, .int (iI sd)), (2, .int (iI rr)), (3, .int (iI a1)), (4, .int (iI b1)), (5, .int (iI c1)), (6, .int (iI d1))] → W p l e rmX7_findf s m ([.ref mo, .int (iI sd), .int (iI rr), .int (iI a1), .int (iI b1), .int (iI c1), .int (iI d1)] : List Value).toArray below meth c H locs 0 0 (MQ below (gQi g (fun (z : Int) (w : gS) => I = w.1 ∧ R = w.2.1 ∧ J = w.2.2.1 ∧ AJ = w.2.2.2.2.1 ∧ AR = w.2.2.2.2.2 ∧ (mInv g gh R I (w.2.2.2.1)) ∧ ((w.2.2.2.1) (gh 50 0) = T) ∧ (-1 ≤ z ∧ z ≤ 119) ∧ (∀ b, b ≠ gh 77 0 → (w.2.2.2.1) b = AI b) ∧ (fdM bxa na (kyT (tI T (40 * rr + 1)) a1 b1 c1 d1) z))) ([.ref mo, .int (iI sd), .int (iI rr), .int (iI a1), .int (iI b1), .int (iI c1), .int (iI d1)] : List Value).toArray s 0 0 (gA g)) (F0 m 31 ls [.int (iI t1), .int (iI 1), .ref (gh 77 0)]) := by
    intro t1 H locs ls zt1 ht1 hH hS hl
    have hx31 : 0 ≤ (1 : Int) ∧ (1 : Int) < ((4 : Nat) : Int) ∧ (1 : Int) ≤ 2147483647 := ⟨by omega, by omega, by omega⟩
    refine g_iast F hH hS r_10b hx31.1 hx31.2.1 hx31.2.2 dX7_find_31 (fun H locs hH hS => ?_)
    obtain ⟨AI_14, eAI_14⟩ : ∃ qQ, qQ = gup2 AI_11 (gh 77 0) ((1 : Int)).toNat (iI (t1)) := ⟨_, rfl⟩
    rw [← eAI_14] at hH
    have kAI_14 : ∀ b, b ≠ (gh 77 0) → AI_14 b = AI_11 b := fun b hb => by rw [eAI_14]; exact funext fun j => gup2_a _ _ hb
    have hvO := hv
    have t_15 : AI_14 (gh 50 0) = AI_11 (gh 50 0) := mK hv hm (p := (0, 640)) (q := (27, 4)) (by decide) (by decide) (by decide) kAI_14
    have hv : mInv g gh R I AI_14 := mInv_a hv hm (q := (27, 4)) (by decide) (by decide) kAI_14
    have hT : AI_14 (gh 50 0) = T := t_15.trans hT
    have key0 : AI_14 (gh 77 0) 0 = iI a1 := by rw [eAI_14, gup2_k _ _ (by decide)]; exact key0
    have key1 : AI_14 (gh 77 0) 1 = iI t1 := by rw [eAI_14, gup2_e _ _ (by decide)]
    have fW : ∀ b, b ≠ gh 77 0 → AI_14 b = AI b := fun b hb => (kAI_14 b hb).trans (fW b hb)
    refine lv_aload_n F.1 F.2.1 dX7_find_32 rfl (lv_at hl 1 rfl) ?_
    refine g_getR (ci := 7) (k := 27) F hH rfl (by decide) iX7 hm (by decide) rfl (b := gh 77 0) r_10a k45 dX7_find_33 ?_
    refine z_iconst F dX7_find_36 ?_
    have cut_49_15 : ∀ (t2 : Int) (H : Heap) (locs : List Loc) (ls : Array Slot), zr t2 → (t2 = if 2 < (tI T (40 * rr + 1)) then c1 else 0) → gH g I R J AI_14 AJ AR H → va_S (gA g) s.heap H locs → lv_has ls 9 [(7, .int (iI v_8)), (0, .ref mo), (1, .int (iI sd)), (2, .int (iI rr)), (3, .int (iI a1)), (4, .int (iI b1)), (5, .int (iI c1)), (6, .int (iI d1))] → W p l e rmX7_findf s m ([.ref mo, .int (iI sd), .int (iI rr), .int (iI a1), .int (iI b1), .int (iI c1), .int (iI d1)] : List Value).toArray below meth c H locs 0 0 (MQ below (gQi g (fun (z : Int) (w : gS) => I = w.1 ∧ R = w.2.1 ∧ J = w.2.2.1 ∧ AJ = w.2.2.2.2.1 ∧ AR = w.2.2.2.2.2 ∧ (mInv g gh R I (w.2.2.2.1)) ∧ ((w.2.2.2.1) (gh 50 0) = T) ∧ (-1 ≤ z ∧ z ≤ 119) ∧ (∀ b, b ≠ gh 77 0 → (w.2.2.2.1) b = AI b) ∧ (fdM bxa na (kyT (tI T (40 * rr + 1)) a1 b1 c1 d1) z))) ([.ref mo, .int (iI sd), .int (iI rr), .int (iI a1), .int (iI b1), .int (iI c1), .int (iI d1)] : List Value).toArray s 0 0 (gA g)) (F0 m 49 ls [.int (iI t2), .int (iI 2), .ref (gh 77 0)]) := by
      intro t2 H locs ls zt2 ht2 hH hS hl
      have hx49 : 0 ≤ (2 : Int) ∧ (2 : Int) < ((4 : Nat) : Int) ∧ (2 : Int) ≤ 2147483647 := ⟨by omega, by omega, by omega⟩
      refine g_iast F hH hS r_10b hx49.1 hx49.2.1 hx49.2.2 dX7_find_49 (fun H locs hH hS => ?_)
      obtain ⟨AI_17, eAI_17⟩ : ∃ qQ, qQ = gup2 AI_14 (gh 77 0) ((2 : Int)).toNat (iI (t2)) := ⟨_, rfl⟩
      rw [← eAI_17] at hH
      have kAI_17 : ∀ b, b ≠ (gh 77 0) → AI_17 b = AI_14 b := fun b hb => by rw [eAI_17]; exact funext fun j => gup2_a _ _ hb
      have hvO := hv
      have t_18 : AI_17 (gh 50 0) = AI_14 (gh 50 0) := mK hv hm (p := (0, 640)) (q := (27, 4)) (by decide) (by decide) (by decide) kAI_17
      have hv : mInv g gh R I AI_17 := mInv_a hv hm (q := (27, 4)) (by decide) (by decide) kAI_17
      have hT : AI_17 (gh 50 0) = T := t_18.trans hT
      have key0 : AI_17 (gh 77 0) 0 = iI a1 := by rw [eAI_17, gup2_k _ _ (by decide)]; exact key0
      have key1 : AI_17 (gh 77 0) 1 = iI t1 := by rw [eAI_17, gup2_k _ _ (by decide)]; exact key1
      have key2 : AI_17 (gh 77 0) 2 = iI t2 := by rw [eAI_17, gup2_e _ _ (by decide)]
      have fW : ∀ b, b ≠ gh 77 0 → AI_17 b = AI b := fun b hb => (kAI_17 b hb).trans (fW b hb)
      refine lv_aload_n F.1 F.2.1 dX7_find_50 rfl (lv_at hl 1 rfl) ?_
      refine g_getR (ci := 7) (k := 27) F hH rfl (by decide) iX7 hm (by decide) rfl (b := gh 77 0) r_10a k45 dX7_find_51 ?_
      refine z_iconst F dX7_find_54 ?_
      have cut_67_18 : ∀ (t3 : Int) (H : Heap) (locs : List Loc) (ls : Array Slot), zr t3 → (t3 = if 3 < (tI T (40 * rr + 1)) then d1 else 0) → gH g I R J AI_17 AJ AR H → va_S (gA g) s.heap H locs → lv_has ls 9 [(7, .int (iI v_8)), (0, .ref mo), (1, .int (iI sd)), (2, .int (iI rr)), (3, .int (iI a1)), (4, .int (iI b1)), (5, .int (iI c1)), (6, .int (iI d1))] → W p l e rmX7_findf s m ([.ref mo, .int (iI sd), .int (iI rr), .int (iI a1), .int (iI b1), .int (iI c1), .int (iI d1)] : List Value).toArray below meth c H locs 0 0 (MQ below (gQi g (fun (z : Int) (w : gS) => I = w.1 ∧ R = w.2.1 ∧ J = w.2.2.1 ∧ AJ = w.2.2.2.2.1 ∧ AR = w.2.2.2.2.2 ∧ (mInv g gh R I (w.2.2.2.1)) ∧ ((w.2.2.2.1) (gh 50 0) = T) ∧ (-1 ≤ z ∧ z ≤ 119) ∧ (∀ b, b ≠ gh 77 0 → (w.2.2.2.1) b = AI b) ∧ (fdM bxa na (kyT (tI T (40 * rr + 1)) a1 b1 c1 d1) z))) ([.ref mo, .int (iI sd), .int (iI rr), .int (iI a1), .int (iI b1), .int (iI c1), .int (iI d1)] : List Value).toArray s 0 0 (gA g)) (F0 m 67 ls [.int (iI t3), .int (iI 3), .ref (gh 77 0)]) := by
        intro t3 H locs ls zt3 ht3 hH hS hl
        have hx67 : 0 ≤ (3 : Int) ∧ (3 : Int) < ((4 : Nat) : Int) ∧ (3 : Int) ≤ 2147483647 := ⟨by omega, by omega, by omega⟩
        refine g_iast F hH hS r_10b hx67.1 hx67.2.1 hx67.2.2 dX7_find_67 (fun H locs hH hS => ?_)
        obtain ⟨AI_20, eAI_20⟩ : ∃ qQ, qQ = gup2 AI_17 (gh 77 0) ((3 : Int)).toNat (iI (t3)) := ⟨_, rfl⟩
        rw [← eAI_20] at hH
        have kAI_20 : ∀ b, b ≠ (gh 77 0) → AI_20 b = AI_17 b := fun b hb => by rw [eAI_20]; exact funext fun j => gup2_a _ _ hb
        have hvO := hv
        have t_21 : AI_20 (gh 50 0) = AI_17 (gh 50 0) := mK hv hm (p := (0, 640)) (q := (27, 4)) (by decide) (by decide) (by decide) kAI_20
        have hv : mInv g gh R I AI_20 := mInv_a hv hm (q := (27, 4)) (by decide) (by decide) kAI_20
        have hT : AI_20 (gh 50 0) = T := t_21.trans hT
        have key0 : AI_20 (gh 77 0) 0 = iI a1 := by rw [eAI_20, gup2_k _ _ (by decide)]; exact key0
        have key1 : AI_20 (gh 77 0) 1 = iI t1 := by rw [eAI_20, gup2_k _ _ (by decide)]; exact key1
        have key2 : AI_20 (gh 77 0) 2 = iI t2 := by rw [eAI_20, gup2_k _ _ (by decide)]; exact key2
        have key3 : AI_20 (gh 77 0) 3 = iI t3 := by rw [eAI_20, gup2_e _ _ (by decide)]
        have fW : ∀ b, b ≠ gh 77 0 → AI_20 b = AI b := fun b hb => (kAI_20 b hb).trans (fW b hb)
        have hky : ∀ j, j < 4 → AI_20 (gh 77 0) j = tg (kyT (tI T (40 * rr + 1)) a1 b1 c1 d1) j := kyT_of key0 key1 key2 key3 rfl ht1 ht2 ht3
        have h56 : AI_20 (gh 56 0) = AI (gh 56 0) := fW _ (show gh 56 0 ≠ gh 77 0 from mNe hv hm (p := (6, 126720)) (q := (27, 4)) (by decide) (by decide) (by decide))
        have h57 : AI_20 (gh 57 0) = AI (gh 57 0) := fW _ (show gh 57 0 ≠ gh 77 0 from mNe hv hm (p := (7, 176)) (q := (27, 4)) (by decide) (by decide) (by decide))
        refine z_iconst F dX7_find_68 ?_
        refine lv_istore (lv' := [(8, .int (iI 0)), (7, .int (iI v_8)), (0, .ref mo), (1, .int (iI sd)), (2, .int (iI rr)), (3, .int (iI a1)), (4, .int (iI b1)), (5, .int (iI c1)), (6, .int (iI d1))]) F.1 F.2.1 dX7_find_69 hl (by decide) rfl (fun ls hl => ?_)
        have cut_71_21 : ∀ (NN : Nat) (i : Int) (H : Heap) (locs : List Loc) (ls : Array Slot), zr i → (0 ≤ i ∧ i ≤ 120) → (∀ q : Nat, (q : Int) < i → tup bxa q ≠ (kyT (tI T (40 * rr + 1)) a1 b1 c1 d1)) → (i ≤ (na : Int)) → (120 - i) < ((NN : Nat) : Int) → gH g I R J AI_20 AJ AR H → va_S (gA g) s.heap H locs → lv_has ls 9 [(8, .int (iI i)), (7, .int (iI v_8)), (0, .ref mo), (1, .int (iI sd)), (2, .int (iI rr)), (3, .int (iI a1)), (4, .int (iI b1)), (5, .int (iI c1)), (6, .int (iI d1))] → W p l e rmX7_findf s m ([.ref mo, .int (iI sd), .int (iI rr), .int (iI a1), .int (iI b1), .int (iI c1), .int (iI d1)] : List Value).toArray below meth c H locs 0 0 (MQ below (gQi g (fun (z : Int) (w : gS) => I = w.1 ∧ R = w.2.1 ∧ J = w.2.2.1 ∧ AJ = w.2.2.2.2.1 ∧ AR = w.2.2.2.2.2 ∧ (mInv g gh R I (w.2.2.2.1)) ∧ ((w.2.2.2.1) (gh 50 0) = T) ∧ (-1 ≤ z ∧ z ≤ 119) ∧ (∀ b, b ≠ gh 77 0 → (w.2.2.2.1) b = AI b) ∧ (fdM bxa na (kyT (tI T (40 * rr + 1)) a1 b1 c1 d1) z))) ([.ref mo, .int (iI sd), .int (iI rr), .int (iI a1), .int (iI b1), .int (iI c1), .int (iI d1)] : List Value).toArray s 0 0 (gA g)) (F0 m 71 ls []) := by
          intro NN71
          induction NN71 with
          | zero =>
            intro i H locs ls zi hi hno hin hm71 hH hS hl
            exact absurd hm71 (by omega)
          | succ NN71 ih71 =>
            intro i H locs ls zi hi hno hin hm71 hH hS hl
            refine lv_iload F.1 F.2.1 dX7_find_71 (lv_at hl 0 rfl) ?_
            refine lv_aload_n F.1 F.2.1 dX7_find_73 rfl (lv_at hl 2 rfl) ?_
            refine lv_iload_n F.1 F.2.1 dX7_find_74 rfl (lv_at hl 3 rfl) ?_
            refine lv_iload_n F.1 F.2.1 dX7_find_75 rfl (lv_at hl 4 rfl) ?_
            refine g_calli (g_runV (As := [.int (iI sd), .int (iI rr)]) (rest := [.int (iI i)]) (ci := 7) F hl.1 hH hS hz (c_X7_sizeOf l g gh T I R J AI_20 AJ AR mo sd rr zsd zrr hv hm hT (by omega) (by omega)) (cwV 2 F.2.2.2.2.1 (good_up gT_X7_sizeOf) rfl rfl rfl hdX7_sizeOf ⟨Nat.le_of_ble_eq_true rfl, Nat.le_of_ble_eq_true rfl⟩) hm (by decide) rfl rfl rfl (Nat.le_of_ble_eq_true rfl) dX7_find_76 ⟨Nat.zero_le _, Nat.zero_le _⟩) hS (fun v_29 I_23 R_24 J_25 AI_26 AJ_27 AR_28 H locs zv_29 hp_30 hH hS => ?_)
            dsimp only at hp_30
            obtain ⟨rfl, rfl, rfl, rfl, rfl, rfl, q_31, qsz⟩ := hp_30
            have hs76 : v_29 = (na : Int) := by rw [qsz, h57]; exact hna
            refine z_icmp_ge (tgt := 113) F dX7_find_79 (by decide) zi zv_29 (fun c_32 => ?_) (fun c_32 => ?_)
            · refine z_iconst F dX7_find_113 ?_
              exact g_iret F hr hlk hH hS hz ⟨by decide, by decide⟩ ⟨rfl, rfl, rfl, rfl, rfl, hv, hT, by first | omega | rfl | (dsimp only; omega), fW, Or.inr ⟨rfl, fun q hq => hno q (by omega)⟩⟩ dX7_find_114
            · refine lv_aload_n F.1 F.2.1 dX7_find_82 rfl (lv_at hl 2 rfl) ?_
              obtain ⟨r_33a, r_33b⟩ : R mo 6 = some (gh 56 0) ∧ gAr g (gh 56 0) 9 126720 := mR hv hm (q := (6, 126720)) (by decide)
              refine g_getR (ci := 7) (k := 6) F hH rfl (by decide) iX7 hm (by decide) rfl (b := gh 56 0) r_33a k24 dX7_find_83 ?_
              refine lv_iload_n F.1 F.2.1 dX7_find_86 rfl (lv_at hl 3 rfl) ?_
              refine lv_iload_n F.1 F.2.1 dX7_find_87 rfl (lv_at hl 4 rfl) ?_
              refine lv_iload F.1 F.2.1 dX7_find_88 (lv_at hl 0 rfl) ?_
              refine g_calli (g_runS (As := [.int (iI sd), .int (iI rr), .int (iI i)]) (rest := [.ref (gh 56 0)]) F hl.1 hH hS hz (c_X7_spot l g  I R J AI_20 AJ AR sd rr i zsd zrr zi (by omega) (by omega) (by omega)) (va_cwS 3 F.2.2.2.2.1 (good_up gT_X7_spot) rfl rfl rfl hdX7_spot.2 ⟨Nat.le_of_ble_eq_true rfl, Nat.le_of_ble_eq_true rfl⟩) rfl rfl (Nat.le_of_ble_eq_true rfl) dX7_find_90 ⟨Nat.zero_le _, Nat.zero_le _⟩) hS (fun v_40 I_34 R_35 J_36 AI_37 AJ_38 AR_39 H locs zv_40 hp_41 hH hS => ?_)
              dsimp only at hp_41
              obtain ⟨rfl, rfl, rfl, rfl, rfl, rfl, q_42⟩ := hp_41
              refine lv_aload_n F.1 F.2.1 dX7_find_93 rfl (lv_at hl 2 rfl) ?_
              refine g_getR (ci := 7) (k := 27) F hH rfl (by decide) iX7 hm (by decide) rfl (b := gh 77 0) r_10a k45 dX7_find_94 ?_
              refine z_iconst F dX7_find_97 ?_
              refine g_calli (g_runS (As := [.ref (gh 56 0), .int (iI v_40), .ref (gh 77 0), .int (iI 0)]) (rest := []) F hl.1 hH hS hz (c_X7_comparef l g 126720 4 I R J AI_20 AJ AR (gh 56 0) v_40 (gh 77 0) 0 zv_40 ⟨by decide, by decide⟩ r_33b r_10b (by omega) (by omega) (by omega) (by omega)) (va_cwS 4 F.2.2.2.2.1 (good_up gT_X7_compare) rfl rfl rfl hdX7_compare.2 ⟨Nat.le_of_ble_eq_true rfl, Nat.le_of_ble_eq_true rfl⟩) rfl rfl (Nat.le_of_ble_eq_true rfl) dX7_find_98 ⟨Nat.zero_le _, Nat.zero_le _⟩) hS (fun v_49 I_43 R_44 J_45 AI_46 AJ_47 AR_48 H locs zv_49 hp_50 hH hS => ?_)
              dsimp only at hp_50
              obtain ⟨rfl, rfl, rfl, rfl, rfl, rfl, q_51, qc⟩ := hp_50
              have qk : v_49 = tc (tup bxa i.toNat) (kyT (tI T (40 * rr + 1)) a1 b1 c1 d1) := by rw [qc]; exact kc_c (rk_tu (fun k hk => by rw [h56, tg_up k hk, ← hXa _ (by omega)]; congr 1; omega)) (key_tu hky)
              refine z_if_ne (tgt := 107) F dX7_find_101 (by decide) zv_49 (fun c_52 => ?_) (fun c_52 => ?_)
              · refine z_iinc (lv' := [(8, .int (iI (i + 1))), (7, .int (iI v_8)), (0, .ref mo), (1, .int (iI sd)), (2, .int (iI rr)), (3, .int (iI a1)), (4, .int (iI b1)), (5, .int (iI c1)), (6, .int (iI d1))]) F dX7_find_107 hl (k := 0) rfl (by decide) rfl (fun ls hl => ?_)
                refine z_goto (tgt := 71) F dX7_find_110 (by decide) ?_
                exact ih71 (i + 1) H locs ls ⟨by omega, by omega⟩ (by omega) (fun q hq => by by_cases e9 : (q : Int) = i; (· rw [show q = i.toNat by omega]; intro h9; rw [tc_0.mpr h9] at qk; omega); (· exact hno q (by omega))) (by omega) (by omega) hH hS (lv_sub hl [0, 1, 2, 3, 4, 5, 6, 7, 8] rfl)
              · refine lv_iload F.1 F.2.1 dX7_find_104 (lv_at hl 0 rfl) ?_
                exact g_iret F hr hlk hH hS hz zi ⟨rfl, rfl, rfl, rfl, rfl, hv, hT, by first | omega | rfl | (dsimp only; omega), fW, Or.inl ⟨by omega, by omega, tc_0.mp (by rw [← qk]; omega)⟩⟩ dX7_find_106
        exact cut_71_21 (((120 - 0) + 1 : Int).toNat) 0 H locs ls ⟨by decide, by decide⟩ (by omega) (fun q hq => absurd hq (by omega)) (by omega) (by omega) hH hS (lv_sub hl [0, 1, 2, 3, 4, 5, 6, 7, 8] rfl)
      refine lv_iload F.1 F.2.1 dX7_find_55 (lv_at hl 0 rfl) ?_
      refine z_iconst F dX7_find_57 ?_
      refine z_icmp_le (tgt := 66) F dX7_find_58 (by decide) zv_8 ⟨by decide, by decide⟩ (fun c_53 => ?_) (fun c_53 => ?_)
      · refine z_iconst F dX7_find_66 ?_
        exact cut_67_18 0 H locs ls ⟨by decide, by decide⟩ (by first | exact (if_neg (by omega)).symm | exact (if_pos (by omega)).symm) hH hS (lv_sub hl [0, 1, 2, 3, 4, 5, 6, 7] rfl)
      · refine lv_iload F.1 F.2.1 dX7_find_61 (lv_at hl 7 rfl) ?_
        refine z_goto (tgt := 67) F dX7_find_63 (by decide) ?_
        exact cut_67_18 d1 H locs ls zd1 (by first | exact (if_neg (by omega)).symm | exact (if_pos (by omega)).symm) hH hS (lv_sub hl [0, 1, 2, 3, 4, 5, 6, 7] rfl)
    refine lv_iload F.1 F.2.1 dX7_find_37 (lv_at hl 0 rfl) ?_
    refine z_iconst F dX7_find_39 ?_
    refine z_icmp_le (tgt := 48) F dX7_find_40 (by decide) zv_8 ⟨by decide, by decide⟩ (fun c_54 => ?_) (fun c_54 => ?_)
    · refine z_iconst F dX7_find_48 ?_
      exact cut_49_15 0 H locs ls ⟨by decide, by decide⟩ (by first | exact (if_neg (by omega)).symm | exact (if_pos (by omega)).symm) hH hS (lv_sub hl [0, 1, 2, 3, 4, 5, 6, 7] rfl)
    · refine lv_iload F.1 F.2.1 dX7_find_43 (lv_at hl 6 rfl) ?_
      refine z_goto (tgt := 49) F dX7_find_45 (by decide) ?_
      exact cut_49_15 c1 H locs ls zc1 (by first | exact (if_neg (by omega)).symm | exact (if_pos (by omega)).symm) hH hS (lv_sub hl [0, 1, 2, 3, 4, 5, 6, 7] rfl)
  refine lv_iload F.1 F.2.1 dX7_find_19 (lv_at hl 0 rfl) ?_
  refine z_iconst F dX7_find_21 ?_
  refine z_icmp_le (tgt := 30) F dX7_find_22 (by decide) zv_8 ⟨by decide, by decide⟩ (fun c_55 => ?_) (fun c_55 => ?_)
  · refine z_iconst F dX7_find_30 ?_
    exact cut_31_12 0 H locs ls ⟨by decide, by decide⟩ (by first | exact (if_neg (by omega)).symm | exact (if_pos (by omega)).symm) hH hS (lv_sub hl [0, 1, 2, 3, 4, 5, 6, 7] rfl)
  · refine lv_iload F.1 F.2.1 dX7_find_25 (lv_at hl 5 rfl) ?_
    refine z_goto (tgt := 31) F dX7_find_27 (by decide) ?_
    exact cut_31_12 b1 H locs ls zb1 (by first | exact (if_neg (by omega)).symm | exact (if_pos (by omega)).symm) hH hS (lv_sub hl [0, 1, 2, 3, 4, 5, 6, 7] rfl)

def rmX7_countf : Room := { frames := 2, cells := 0, slots := 0, locals := 52 }
set_option maxHeartbeats 4000000 in
set_option maxRecDepth 100000 in
/-- count -/
theorem c_X7_countf (l : Launch) (g : gG) (gh : gGh) (T : Nat → Int32) (nr : Nat) (cl : Nat → Int) (I : gI) (R : gR) (J : gJ) (AI : gI) (AJ : gJ) (AR : gR) (mo : Nat) (rr : Int) (a1 : Int) (b1 : Int) (c1 : Int) (d1 : Int) (zrr : zr rr) (za1 : zr a1) (zb1 : zr b1) (zc1 : zr c1) (zd1 : zr d1) (hv : mInv g gh R I AI) (hm : gO g mo 7) (hT : AI (gh 50 0) = T) (hmr : (I mo 2).toInt = (nr : Int)) (hbg : ∀ r : Nat, r < nr → bgOK (rfM gh AI 0) cl r) : gMet l g yX7_count tsX7_count rmX7_countf [.ref mo, .int (iI rr), .int (iI a1), .int (iI b1), .int (iI c1), .int (iI d1)] (I, R, J, AI, AJ, AR) (gQi g (fun (z : Int) (w : gS) => R = w.2.1 ∧ J = w.2.2.1 ∧ AJ = w.2.2.2.2.1 ∧ AR = w.2.2.2.2.2 ∧ (mInv g gh R (w.1) (w.2.2.2.1)) ∧ ((w.2.2.2.1) (gh 50 0) = T) ∧ (nF mo I (w.1)) ∧ (((rr < 0 ∨ (nr : Int) ≤ rr) ∧ ((w.1) mo 17).toInt = 1 ∧ z = 0) ∨ ((0 ≤ rr ∧ rr < (nr : Int)) ∧ ((w.1) mo 17).toInt = 0 ∧ z = (bS (rfM gh AI 0 rr.toNat).2 (rfM gh AI 0 rr.toNat).1 (kyT (tI T (40 * rr + 1)) a1 b1 c1 d1)).toInt)))) := by
  refine gStart (cc := cX7_count) (maxL := 7) (ret := (some (.int))) (by decide) rfl (Nat.le_of_ble_eq_true rfl) ?_
  intro p e s m below meth c ls F hr hlk hH hz hS hl
  have hl : lv_has ls 7 [(0, .ref mo), (1, .int (iI rr)), (2, .int (iI a1)), (3, .int (iI b1)), (4, .int (iI c1)), (5, .int (iI d1))] := hl
  have hS : va_S (gA g) s.heap s.heap [] := hS
  obtain ⟨H, hHe⟩ : ∃ H : Heap, H = s.heap := ⟨_, rfl⟩
  obtain ⟨locs, hlo⟩ : ∃ k : List Loc, k = [] := ⟨_, rfl⟩
  have hH : gH g I R J AI AJ AR H := by rw [hHe]; exact hH
  have hS : va_S (gA g) s.heap H locs := by rw [hHe, hlo]; exact hS
  suffices hw : W p l e rmX7_countf s m ([.ref mo, .int (iI rr), .int (iI a1), .int (iI b1), .int (iI c1), .int (iI d1)] : List Value).toArray below meth c H locs 0 0 (MQ below (gQi g (fun (z : Int) (w : gS) => R = w.2.1 ∧ J = w.2.2.1 ∧ AJ = w.2.2.2.2.1 ∧ AR = w.2.2.2.2.2 ∧ (mInv g gh R (w.1) (w.2.2.2.1)) ∧ ((w.2.2.2.1) (gh 50 0) = T) ∧ (nF mo I (w.1)) ∧ (((rr < 0 ∨ (nr : Int) ≤ rr) ∧ ((w.1) mo 17).toInt = 1 ∧ z = 0) ∨ ((0 ≤ rr ∧ rr < (nr : Int)) ∧ ((w.1) mo 17).toInt = 0 ∧ z = (bS (rfM gh AI 0 rr.toNat).2 (rfM gh AI 0 rr.toNat).1 (kyT (tI T (40 * rr + 1)) a1 b1 c1 d1)).toInt)))) ([.ref mo, .int (iI rr), .int (iI a1), .int (iI b1), .int (iI c1), .int (iI d1)] : List Value).toArray s 0 0 (gA g)) (F0 m 0 ls []) by
    rw [hHe, hlo] at hw; exact hw
  clear hHe hlo
  have nf : nF mo I I := nF_r
  have iX7 : ∀ w ∈ u_ws RX7 TX7 32, w ∈ tsX7_count := fun w h => List.mem_cons_of_mem _ (inTB7 w h)
  have k60 : Cond.fieldLink RX7 60 (TX7 17).1 (TX7 17).2.1 (TX7 17).2.2.1 ∈ tsX7_count := List.mem_cons_of_mem _ fl_60
  have k24 : Cond.fieldLink RX7 24 (TX7 6).1 (TX7 6).2.1 (TX7 6).2.2.1 ∈ tsX7_count := List.mem_cons_of_mem _ fl_24
  refine lv_aload_n F.1 F.2.1 dX7_count_0 rfl (lv_at hl 0 rfl) ?_
  have cut_14_0 : ∀ (th : Int) (H : Heap) (locs : List Loc) (ls : Array Slot), zr th → ((th = 0 ∧ 0 ≤ rr ∧ rr ≤ 15) ∨ th = 1) → ((th = 0 ∧ rr < (nr : Int)) ∨ (th = 1 ∧ (rr < 0 ∨ (nr : Int) ≤ rr))) → gH g I R J AI AJ AR H → va_S (gA g) s.heap H locs → lv_has ls 7 [(0, .ref mo), (1, .int (iI rr)), (2, .int (iI a1)), (3, .int (iI b1)), (4, .int (iI c1)), (5, .int (iI d1))] → W p l e rmX7_countf s m ([.ref mo, .int (iI rr), .int (iI a1), .int (iI b1), .int (iI c1), .int (iI d1)] : List Value).toArray below meth c H locs 0 0 (MQ below (gQi g (fun (z : Int) (w : gS) => R = w.2.1 ∧ J = w.2.2.1 ∧ AJ = w.2.2.2.2.1 ∧ AR = w.2.2.2.2.2 ∧ (mInv g gh R (w.1) (w.2.2.2.1)) ∧ ((w.2.2.2.1) (gh 50 0) = T) ∧ (nF mo I (w.1)) ∧ (((rr < 0 ∨ (nr : Int) ≤ rr) ∧ ((w.1) mo 17).toInt = 1 ∧ z = 0) ∨ ((0 ≤ rr ∧ rr < (nr : Int)) ∧ ((w.1) mo 17).toInt = 0 ∧ z = (bS (rfM gh AI 0 rr.toNat).2 (rfM gh AI 0 rr.toNat).1 (kyT (tI T (40 * rr + 1)) a1 b1 c1 d1)).toInt)))) ([.ref mo, .int (iI rr), .int (iI a1), .int (iI b1), .int (iI c1), .int (iI d1)] : List Value).toArray s 0 0 (gA g)) (F0 m 14 ls [.int (iI th), .ref mo]) := by
    intro th H locs ls zth hth hin9 hH hS hl
    refine g_putI (ci := 7) (k := 17) F hH hS rfl (by decide) iX7 hm (by decide) tyX7 tyX7_ok nmX7 rfl rfl rfl k60 dX7_count_14 (fun H locs hH hS => ?_)
    obtain ⟨I_2, eI_2⟩ : ∃ qQ, qQ = gup2 I mo 17 (iI (th)) := ⟨_, rfl⟩
    rw [← eI_2] at hH
    have kI_2 : ∀ b, b ≠ mo → I_2 b = I b := fun b hb => by rw [eI_2]; exact funext fun j => gup2_a _ _ hb
    have w_3 : (I_2 mo 17).toInt = th := by rw [eI_2, gup2_s]; exact iI_val zth
    have hv : mInv g gh R I_2 AI := by rw [eI_2]; exact mP17 hv hm
    have nf : nF mo I I_2 := nF_t nf (by rw [eI_2]; exact nF_p (by decide))
    have u_4_2 : (I_2 mo 2).toInt = (I mo 2).toInt := by rw [nf 2 (by decide) (by decide) (by decide) (by decide) (by decide)]
    have u_4_5 : (I_2 mo 5).toInt = (I mo 5).toInt := by rw [nf 5 (by decide) (by decide) (by decide) (by decide) (by decide)]
    have u_4_14 : (I_2 mo 14).toInt = (I mo 14).toInt := by rw [nf 14 (by decide) (by decide) (by decide) (by decide) (by decide)]
    have u_4_16 : (I_2 mo 16).toInt = (I mo 16).toInt := by rw [nf 16 (by decide) (by decide) (by decide) (by decide) (by decide)]
    have u_4_24 : (I_2 mo 24).toInt = (I mo 24).toInt := by rw [nf 24 (by decide) (by decide) (by decide) (by decide) (by decide)]
    refine lv_aload_n F.1 F.2.1 dX7_count_17 rfl (lv_at hl 0 rfl) ?_
    refine g_getI (ci := 7) (k := 17) F hH rfl (by decide) iX7 hm (by decide) rfl k60 dX7_count_18 ?_
    refine z_iconst F dX7_count_21 ?_
    refine z_icmp_ne (tgt := 27) F dX7_count_22 (by decide) (zr_t _) ⟨by decide, by decide⟩ (fun c_5 => ?_) (fun c_5 => ?_)
    · have hr9 := rfM_s (gh := gh) (AI := AI) (sd := 0) (a := rr) (n := (rfM gh AI 0 rr.toNat).1) (f := (rfM gh AI 0 rr.toNat).2) rfl (by omega) (mSz1 hv hm (z := 16 * 0 + rr) (by omega) (by omega)).1
      refine lv_aload_n F.1 F.2.1 dX7_count_27 rfl (lv_at hl 0 rfl) ?_
      refine z_iconst F dX7_count_28 ?_
      refine lv_iload_n F.1 F.2.1 dX7_count_29 rfl (lv_at hl 1 rfl) ?_
      refine lv_iload_n F.1 F.2.1 dX7_count_30 rfl (lv_at hl 2 rfl) ?_
      refine lv_iload_n F.1 F.2.1 dX7_count_31 rfl (lv_at hl 3 rfl) ?_
      refine lv_iload F.1 F.2.1 dX7_count_32 (lv_at hl 4 rfl) ?_
      refine lv_iload F.1 F.2.1 dX7_count_34 (lv_at hl 5 rfl) ?_
      have b_6 := mJ hv hm
      unfold mNum1 at b_6
      refine g_calli (g_runV (As := [.int (iI 0), .int (iI rr), .int (iI a1), .int (iI b1), .int (iI c1), .int (iI d1)]) (rest := []) (ci := 7) F hl.1 hH hS hz (c_X7_findf l g gh T ((rfM gh AI 0 rr.toNat).1) ((rfM gh AI 0 rr.toNat).2) I_2 R J AI AJ AR mo 0 rr a1 b1 c1 d1 ⟨by decide, by decide⟩ zrr za1 zb1 zc1 zd1 hv hm hT (by omega) (by omega) hr9.1 hr9.2 (hbg rr.toNat (by omega)).2.1) (cwV 6 F.2.2.2.2.1 (good_up gT_X7_find) rfl rfl rfl hdX7_find ⟨Nat.le_of_ble_eq_true rfl, Nat.le_of_ble_eq_true rfl⟩) hm (by decide) rfl rfl rfl (Nat.le_of_ble_eq_true rfl) dX7_count_36 ⟨Nat.zero_le _, Nat.zero_le _⟩) hS (fun v_13 I_7 R_8 J_9 AI_10 AJ_11 AR_12 H locs zv_13 hp_14 hH hS => ?_)
      dsimp only at hp_14
      obtain ⟨rfl, rfl, rfl, rfl, rfl, hv, hT, q_15, fWq, qfd⟩ := hp_14
      have hfr := fdM_r qfd
      refine lv_istore (lv' := [(6, .int (iI v_13)), (0, .ref mo), (1, .int (iI rr)), (2, .int (iI a1)), (3, .int (iI b1)), (4, .int (iI c1)), (5, .int (iI d1))]) F.1 F.2.1 dX7_count_39 hl (by decide) rfl (fun ls hl => ?_)
      refine lv_iload F.1 F.2.1 dX7_count_41 (lv_at hl 0 rfl) ?_
      refine z_if_ge (tgt := 50) F dX7_count_43 (by decide) zv_13 (fun c_16 => ?_) (fun c_16 => ?_)
      · refine lv_aload_n F.1 F.2.1 dX7_count_50 rfl (lv_at hl 1 rfl) ?_
        obtain ⟨r_17a, r_17b⟩ : R mo 6 = some (gh 56 0) ∧ gAr g (gh 56 0) 9 126720 := mR hv hm (q := (6, 126720)) (by decide)
        refine g_getR (ci := 7) (k := 6) F hH rfl (by decide) iX7 hm (by decide) rfl (b := gh 56 0) r_17a k24 dX7_count_51 ?_
        refine z_iconst F dX7_count_54 ?_
        refine lv_iload_n F.1 F.2.1 dX7_count_55 rfl (lv_at hl 2 rfl) ?_
        refine lv_iload F.1 F.2.1 dX7_count_56 (lv_at hl 0 rfl) ?_
        refine g_calli (g_runS (As := [.int (iI 0), .int (iI rr), .int (iI v_13)]) (rest := [.ref (gh 56 0)]) F hl.1 hH hS hz (c_X7_spot l g  I_2 R J AI_10 AJ AR 0 rr v_13 ⟨by decide, by decide⟩ zrr zv_13 (by omega) (by omega) (by omega)) (va_cwS 3 F.2.2.2.2.1 (good_up gT_X7_spot) rfl rfl rfl hdX7_spot.2 ⟨Nat.le_of_ble_eq_true rfl, Nat.le_of_ble_eq_true rfl⟩) rfl rfl (Nat.le_of_ble_eq_true rfl) dX7_count_58 ⟨Nat.zero_le _, Nat.zero_le _⟩) hS (fun v_24 I_18 R_19 J_20 AI_21 AJ_22 AR_23 H locs zv_24 hp_25 hH hS => ?_)
        dsimp only at hp_25
        obtain ⟨rfl, rfl, rfl, rfl, rfl, rfl, q_26⟩ := hp_25
        refine z_iconst F dX7_count_61 ?_
        refine z_iadd F dX7_count_62 ?_
        have hx63 : 0 ≤ (v_24 + 4) ∧ (v_24 + 4) < ((126720 : Nat) : Int) ∧ (v_24 + 4) ≤ 2147483647 := ⟨by omega, by omega, by omega⟩
        refine g_iald F hH r_17b hx63.1 hx63.2.1 hx63.2.2 dX7_count_63 ?_
        refine z_name (fun v_27 ev_27 => ?_)
        have zv_27 : zr v_27 := by rw [ev_27]; exact zr_t _
        have c63 : v_27 = ((rfM gh AI 0 rr.toNat).2 (6 * v_13.toNat + 4)).toInt := by rw [ev_27, fWq _ (show gh 56 0 ≠ gh 77 0 from mNe hv hm (p := (6, 126720)) (q := (27, 4)) (by decide) (by decide) (by decide)), ← hr9.2 _ (by omega)]; congr 2; omega
        exact g_iret F hr hlk hH hS hz zv_27 ⟨rfl, rfl, rfl, rfl, hv, hT, nf, Or.inr ⟨by omega, by (try dsimp only); omega, by rw [fdM_c (hbg rr.toNat (by omega)).1 qfd (by omega)]; exact c63⟩⟩ dX7_count_64
      · refine z_iconst F dX7_count_46 ?_
        refine z_goto (tgt := 64) F dX7_count_47 (by decide) ?_
        exact g_iret F hr hlk hH hS hz ⟨by decide, by decide⟩ ⟨rfl, rfl, rfl, rfl, hv, hT, nf, Or.inr ⟨by omega, by (try dsimp only); omega, by rw [fdM_0 qfd (by omega)]; rfl⟩⟩ dX7_count_64
    · refine z_iconst F dX7_count_25 ?_
      exact g_iret F hr hlk hH hS hz ⟨by decide, by decide⟩ ⟨rfl, rfl, rfl, rfl, hv, hT, nf, Or.inl ⟨by omega, by (try dsimp only); omega, rfl⟩⟩ dX7_count_26
  refine lv_aload_n F.1 F.2.1 dX7_count_1 rfl (lv_at hl 0 rfl) ?_
  refine lv_iload_n F.1 F.2.1 dX7_count_2 rfl (lv_at hl 1 rfl) ?_
  have b_28 := mJ hv hm
  unfold mNum1 at b_28
  refine g_calli (g_runV (As := [.int (iI rr)]) (rest := [.ref mo]) (ci := 7) F hl.1 hH hS hz (c_X7_isRelationf l g gh T I R J AI AJ AR mo rr zrr hv hm hT) (cwV 1 F.2.2.2.2.1 (good_up gT_X7_isRelation) rfl rfl rfl hdX7_isRelation ⟨Nat.le_of_ble_eq_true rfl, Nat.le_of_ble_eq_true rfl⟩) hm (by decide) rfl rfl rfl (Nat.le_of_ble_eq_true rfl) dX7_count_3 ⟨Nat.zero_le _, Nat.zero_le _⟩) hS (fun v_35 I_29 R_30 J_31 AI_32 AJ_33 AR_34 H locs zv_35 hp_36 hH hS => ?_)
  dsimp only at hp_36
  obtain ⟨rfl, rfl, rfl, rfl, rfl, rfl, q_37, qis⟩ := hp_36
  refine z_if_eq (tgt := 13) F dX7_count_6 (by decide) zv_35 (fun c_38 => ?_) (fun c_38 => ?_)
  · refine z_iconst F dX7_count_13 ?_
    exact cut_14_0 1 H locs ls ⟨by decide, by decide⟩ (by omega) (by first | (have h9 := qis (by omega); omega) | omega) hH hS (lv_sub hl [0, 1, 2, 3, 4, 5] rfl)
  · refine z_iconst F dX7_count_9 ?_
    refine z_goto (tgt := 14) F dX7_count_10 (by decide) ?_
    exact cut_14_0 0 H locs ls ⟨by decide, by decide⟩ (by omega) (by first | (have h9 := qis (by omega); omega) | omega) hH hS (lv_sub hl [0, 1, 2, 3, 4, 5] rfl)

def rmX7_roundf : Room := { frames := 2, cells := 0, slots := 0, locals := 52 }
set_option maxHeartbeats 4000000 in
set_option maxRecDepth 100000 in
/-- round -/
theorem c_X7_roundf (l : Launch) (g : gG) (gh : gGh) (T : Nat → Int32) (nr : Nat) (cl : Nat → Int) (I : gI) (R : gR) (J : gJ) (AI : gI) (AJ : gJ) (AR : gR) (mo : Nat) (rr : Int) (a1 : Int) (b1 : Int) (c1 : Int) (d1 : Int) (zrr : zr rr) (za1 : zr a1) (zb1 : zr b1) (zc1 : zr c1) (zd1 : zr d1) (hv : mInv g gh R I AI) (hm : gO g mo 7) (hT : AI (gh 50 0) = T) (hmr : (I mo 2).toInt = (nr : Int)) (hbg : ∀ r : Nat, r < nr → bgOK (rfM gh AI 0) cl r) : gMet l g yX7_round tsX7_round rmX7_roundf [.ref mo, .int (iI rr), .int (iI a1), .int (iI b1), .int (iI c1), .int (iI d1)] (I, R, J, AI, AJ, AR) (gQi g (fun (z : Int) (w : gS) => R = w.2.1 ∧ J = w.2.2.1 ∧ AJ = w.2.2.2.2.1 ∧ AR = w.2.2.2.2.2 ∧ (mInv g gh R (w.1) (w.2.2.2.1)) ∧ ((w.2.2.2.1) (gh 50 0) = T) ∧ (nF mo I (w.1)) ∧ ((((rr < 0 ∨ (nr : Int) ≤ rr) ∨ tI T (40 * rr) ≠ 8) ∧ z = -1) ∨ (((0 ≤ rr ∧ rr < (nr : Int)) ∧ tI T (40 * rr) = 8) ∧ mkR (rfM gh AI 0 rr.toNat).2 (rfM gh AI 0 rr.toNat).1 (kyT (tI T (40 * rr + 1)) a1 b1 c1 d1) z)))) := by
  refine gStart (cc := cX7_round) (maxL := 7) (ret := (some (.int))) (by decide) rfl (Nat.le_of_ble_eq_true rfl) ?_
  intro p e s m below meth c ls F hr hlk hH hz hS hl
  have hl : lv_has ls 7 [(0, .ref mo), (1, .int (iI rr)), (2, .int (iI a1)), (3, .int (iI b1)), (4, .int (iI c1)), (5, .int (iI d1))] := hl
  have hS : va_S (gA g) s.heap s.heap [] := hS
  obtain ⟨H, hHe⟩ : ∃ H : Heap, H = s.heap := ⟨_, rfl⟩
  obtain ⟨locs, hlo⟩ : ∃ k : List Loc, k = [] := ⟨_, rfl⟩
  have hH : gH g I R J AI AJ AR H := by rw [hHe]; exact hH
  have hS : va_S (gA g) s.heap H locs := by rw [hHe, hlo]; exact hS
  suffices hw : W p l e rmX7_roundf s m ([.ref mo, .int (iI rr), .int (iI a1), .int (iI b1), .int (iI c1), .int (iI d1)] : List Value).toArray below meth c H locs 0 0 (MQ below (gQi g (fun (z : Int) (w : gS) => R = w.2.1 ∧ J = w.2.2.1 ∧ AJ = w.2.2.2.2.1 ∧ AR = w.2.2.2.2.2 ∧ (mInv g gh R (w.1) (w.2.2.2.1)) ∧ ((w.2.2.2.1) (gh 50 0) = T) ∧ (nF mo I (w.1)) ∧ ((((rr < 0 ∨ (nr : Int) ≤ rr) ∨ tI T (40 * rr) ≠ 8) ∧ z = -1) ∨ (((0 ≤ rr ∧ rr < (nr : Int)) ∧ tI T (40 * rr) = 8) ∧ mkR (rfM gh AI 0 rr.toNat).2 (rfM gh AI 0 rr.toNat).1 (kyT (tI T (40 * rr + 1)) a1 b1 c1 d1) z)))) ([.ref mo, .int (iI rr), .int (iI a1), .int (iI b1), .int (iI c1), .int (iI d1)] : List Value).toArray s 0 0 (gA g)) (F0 m 0 ls []) by
    rw [hHe, hlo] at hw; exact hw
  clear hHe hlo
  have nf : nF mo I I := nF_r
  have iX7 : ∀ w ∈ u_ws RX7 TX7 32, w ∈ tsX7_round := fun w h => List.mem_cons_of_mem _ (inTB7 w h)
  have k60 : Cond.fieldLink RX7 60 (TX7 17).1 (TX7 17).2.1 (TX7 17).2.2.1 ∈ tsX7_round := List.mem_cons_of_mem _ fl_60
  have k24 : Cond.fieldLink RX7 24 (TX7 6).1 (TX7 6).2.1 (TX7 6).2.2.1 ∈ tsX7_round := List.mem_cons_of_mem _ fl_24
  refine lv_aload_n F.1 F.2.1 dX7_round_0 rfl (lv_at hl 0 rfl) ?_
  refine z_iconst F dX7_round_1 ?_
  refine g_putI (ci := 7) (k := 17) F hH hS rfl (by decide) iX7 hm (by decide) tyX7 tyX7_ok nmX7 rfl rfl rfl k60 dX7_round_2 (fun H locs hH hS => ?_)
  obtain ⟨I_1, eI_1⟩ : ∃ qQ, qQ = gup2 I mo 17 (iI (0)) := ⟨_, rfl⟩
  rw [← eI_1] at hH
  have kI_1 : ∀ b, b ≠ mo → I_1 b = I b := fun b hb => by rw [eI_1]; exact funext fun j => gup2_a _ _ hb
  have w_2 : (I_1 mo 17).toInt = 0 := by rw [eI_1, gup2_s]; exact iI_val ⟨by decide, by decide⟩
  have hv : mInv g gh R I_1 AI := by rw [eI_1]; exact mP17 hv hm
  have nf : nF mo I I_1 := nF_t nf (by rw [eI_1]; exact nF_p (by decide))
  have u_3_2 : (I_1 mo 2).toInt = (I mo 2).toInt := by rw [nf 2 (by decide) (by decide) (by decide) (by decide) (by decide)]
  have u_3_5 : (I_1 mo 5).toInt = (I mo 5).toInt := by rw [nf 5 (by decide) (by decide) (by decide) (by decide) (by decide)]
  have u_3_14 : (I_1 mo 14).toInt = (I mo 14).toInt := by rw [nf 14 (by decide) (by decide) (by decide) (by decide) (by decide)]
  have u_3_16 : (I_1 mo 16).toInt = (I mo 16).toInt := by rw [nf 16 (by decide) (by decide) (by decide) (by decide) (by decide)]
  have u_3_24 : (I_1 mo 24).toInt = (I mo 24).toInt := by rw [nf 24 (by decide) (by decide) (by decide) (by decide) (by decide)]
  refine lv_aload_n F.1 F.2.1 dX7_round_5 rfl (lv_at hl 0 rfl) ?_
  refine lv_iload_n F.1 F.2.1 dX7_round_6 rfl (lv_at hl 1 rfl) ?_
  have b_4 := mJ hv hm
  unfold mNum1 at b_4
  refine g_calli (g_runV (As := [.int (iI rr)]) (rest := []) (ci := 7) F hl.1 hH hS hz (c_X7_isRelationf l g gh T I_1 R J AI AJ AR mo rr zrr hv hm hT) (cwV 1 F.2.2.2.2.1 (good_up gT_X7_isRelation) rfl rfl rfl hdX7_isRelation ⟨Nat.le_of_ble_eq_true rfl, Nat.le_of_ble_eq_true rfl⟩) hm (by decide) rfl rfl rfl (Nat.le_of_ble_eq_true rfl) dX7_round_7 ⟨Nat.zero_le _, Nat.zero_le _⟩) hS (fun v_11 I_5 R_6 J_7 AI_8 AJ_9 AR_10 H locs zv_11 hp_12 hH hS => ?_)
  dsimp only at hp_12
  obtain ⟨rfl, rfl, rfl, rfl, rfl, rfl, q_13, qis⟩ := hp_12
  refine z_if_eq (tgt := 23) F dX7_round_10 (by decide) zv_11 (fun c_14 => ?_) (fun c_14 => ?_)
  · refine z_iconst F dX7_round_23 ?_
    exact g_iret F hr hlk hH hS hz ⟨by decide, by decide⟩ ⟨rfl, rfl, rfl, rfl, hv, hT, nf, Or.inl ⟨Or.inl (by have h9 := qis (by omega); omega), rfl⟩⟩ dX7_round_24
  · refine lv_aload_n F.1 F.2.1 dX7_round_13 rfl (lv_at hl 0 rfl) ?_
    refine lv_iload_n F.1 F.2.1 dX7_round_14 rfl (lv_at hl 1 rfl) ?_
    refine g_calli (g_runV (As := [.int (iI rr)]) (rest := []) (ci := 7) F hl.1 hH hS hz (c_X7_kindOf l g gh T I_1 R J AI AJ AR mo rr zrr hv hm hT (by omega)) (cwV 1 F.2.2.2.2.1 (good_up gT_X7_kindOf) rfl rfl rfl hdX7_kindOf ⟨Nat.le_of_ble_eq_true rfl, Nat.le_of_ble_eq_true rfl⟩) hm (by decide) rfl rfl rfl (Nat.le_of_ble_eq_true rfl) dX7_round_15 ⟨Nat.zero_le _, Nat.zero_le _⟩) hS (fun v_21 I_15 R_16 J_17 AI_18 AJ_19 AR_20 H locs zv_21 hp_22 hH hS => ?_)
    dsimp only at hp_22
    obtain ⟨rfl, rfl, rfl, rfl, rfl, rfl, qk0⟩ := hp_22
    refine z_bipush F dX7_round_18 (by decide) ?_
    refine z_icmp_eq (tgt := 25) F dX7_round_20 (by decide) zv_21 ⟨by decide, by decide⟩ (fun c_23 => ?_) (fun c_23 => ?_)
    · have hr9 := rfM_s (gh := gh) (AI := AI) (sd := 0) (a := rr) (n := (rfM gh AI 0 rr.toNat).1) (f := (rfM gh AI 0 rr.toNat).2) rfl (by omega) (mSz1 hv hm (z := 16 * 0 + rr) (by omega) (by omega)).1
      refine lv_aload_n F.1 F.2.1 dX7_round_25 rfl (lv_at hl 0 rfl) ?_
      refine z_iconst F dX7_round_26 ?_
      refine lv_iload_n F.1 F.2.1 dX7_round_27 rfl (lv_at hl 1 rfl) ?_
      refine lv_iload_n F.1 F.2.1 dX7_round_28 rfl (lv_at hl 2 rfl) ?_
      refine lv_iload_n F.1 F.2.1 dX7_round_29 rfl (lv_at hl 3 rfl) ?_
      refine lv_iload F.1 F.2.1 dX7_round_30 (lv_at hl 4 rfl) ?_
      refine lv_iload F.1 F.2.1 dX7_round_32 (lv_at hl 5 rfl) ?_
      refine g_calli (g_runV (As := [.int (iI 0), .int (iI rr), .int (iI a1), .int (iI b1), .int (iI c1), .int (iI d1)]) (rest := []) (ci := 7) F hl.1 hH hS hz (c_X7_findf l g gh T ((rfM gh AI 0 rr.toNat).1) ((rfM gh AI 0 rr.toNat).2) I_1 R J AI AJ AR mo 0 rr a1 b1 c1 d1 ⟨by decide, by decide⟩ zrr za1 zb1 zc1 zd1 hv hm hT (by omega) (by omega) hr9.1 hr9.2 (hbg rr.toNat (by omega)).2.1) (cwV 6 F.2.2.2.2.1 (good_up gT_X7_find) rfl rfl rfl hdX7_find ⟨Nat.le_of_ble_eq_true rfl, Nat.le_of_ble_eq_true rfl⟩) hm (by decide) rfl rfl rfl (Nat.le_of_ble_eq_true rfl) dX7_round_34 ⟨Nat.zero_le _, Nat.zero_le _⟩) hS (fun v_30 I_24 R_25 J_26 AI_27 AJ_28 AR_29 H locs zv_30 hp_31 hH hS => ?_)
      dsimp only at hp_31
      obtain ⟨rfl, rfl, rfl, rfl, rfl, hv, hT, q_32, fWq, qfd⟩ := hp_31
      have hfr := fdM_r qfd
      refine lv_istore (lv' := [(6, .int (iI v_30)), (0, .ref mo), (1, .int (iI rr)), (2, .int (iI a1)), (3, .int (iI b1)), (4, .int (iI c1)), (5, .int (iI d1))]) F.1 F.2.1 dX7_round_37 hl (by decide) rfl (fun ls hl => ?_)
      refine lv_iload F.1 F.2.1 dX7_round_39 (lv_at hl 0 rfl) ?_
      refine z_if_ge (tgt := 48) F dX7_round_41 (by decide) zv_30 (fun c_33 => ?_) (fun c_33 => ?_)
      · refine lv_aload_n F.1 F.2.1 dX7_round_48 rfl (lv_at hl 1 rfl) ?_
        obtain ⟨r_34a, r_34b⟩ : R mo 6 = some (gh 56 0) ∧ gAr g (gh 56 0) 9 126720 := mR hv hm (q := (6, 126720)) (by decide)
        refine g_getR (ci := 7) (k := 6) F hH rfl (by decide) iX7 hm (by decide) rfl (b := gh 56 0) r_34a k24 dX7_round_49 ?_
        refine z_iconst F dX7_round_52 ?_
        refine lv_iload_n F.1 F.2.1 dX7_round_53 rfl (lv_at hl 2 rfl) ?_
        refine lv_iload F.1 F.2.1 dX7_round_54 (lv_at hl 0 rfl) ?_
        refine g_calli (g_runS (As := [.int (iI 0), .int (iI rr), .int (iI v_30)]) (rest := [.ref (gh 56 0)]) F hl.1 hH hS hz (c_X7_spot l g  I_1 R J AI_27 AJ AR 0 rr v_30 ⟨by decide, by decide⟩ zrr zv_30 (by omega) (by omega) (by omega)) (va_cwS 3 F.2.2.2.2.1 (good_up gT_X7_spot) rfl rfl rfl hdX7_spot.2 ⟨Nat.le_of_ble_eq_true rfl, Nat.le_of_ble_eq_true rfl⟩) rfl rfl (Nat.le_of_ble_eq_true rfl) dX7_round_56 ⟨Nat.zero_le _, Nat.zero_le _⟩) hS (fun v_41 I_35 R_36 J_37 AI_38 AJ_39 AR_40 H locs zv_41 hp_42 hH hS => ?_)
        dsimp only at hp_42
        obtain ⟨rfl, rfl, rfl, rfl, rfl, rfl, q_43⟩ := hp_42
        refine z_iconst F dX7_round_59 ?_
        refine z_iadd F dX7_round_60 ?_
        have hx61 : 0 ≤ (v_41 + 5) ∧ (v_41 + 5) < ((126720 : Nat) : Int) ∧ (v_41 + 5) ≤ 2147483647 := ⟨by omega, by omega, by omega⟩
        refine g_iald F hH r_34b hx61.1 hx61.2.1 hx61.2.2 dX7_round_61 ?_
        refine z_name (fun v_44 ev_44 => ?_)
        have zv_44 : zr v_44 := by rw [ev_44]; exact zr_t _
        have c61 : v_44 = ((rfM gh AI 0 rr.toNat).2 (6 * v_30.toNat + 5)).toInt := by rw [ev_44, fWq _ (show gh 56 0 ≠ gh 77 0 from mNe hv hm (p := (6, 126720)) (q := (27, 4)) (by decide) (by decide) (by decide)), ← hr9.2 _ (by omega)]; congr 2; omega
        exact g_iret F hr hlk hH hS hz zv_44 ⟨rfl, rfl, rfl, rfl, hv, hT, nf, Or.inr ⟨⟨by omega, by rw [← qk0]; omega⟩, Or.inl ⟨_, by omega, fdM_y qfd (by omega), c61⟩⟩⟩ dX7_round_62
      · refine z_iconst F dX7_round_44 ?_
        refine z_goto (tgt := 62) F dX7_round_45 (by decide) ?_
        exact g_iret F hr hlk hH hS hz ⟨by decide, by decide⟩ ⟨rfl, rfl, rfl, rfl, hv, hT, nf, Or.inr ⟨⟨by omega, by rw [← qk0]; omega⟩, Or.inr ⟨fdM_n qfd (by omega), rfl⟩⟩⟩ dX7_round_62
    · refine z_iconst F dX7_round_23 ?_
      exact g_iret F hr hlk hH hS hz ⟨by decide, by decide⟩ ⟨rfl, rfl, rfl, rfl, hv, hT, nf, Or.inl ⟨Or.inr (by rw [← qk0]; omega), rfl⟩⟩ dX7_round_24
