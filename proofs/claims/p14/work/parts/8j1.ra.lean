def rmX7_endg : Room := { frames := 1, cells := 0, slots := 0, locals := 22 }
set_option maxHeartbeats 4000000 in
set_option maxRecDepth 100000 in
/-- cuts the tape -/
theorem c_X7_endg (l : Launch) (g : gG) (gh : gGh) (T : Nat → Int32) (I : gI) (R : gR) (J : gJ) (AI : gI) (AJ : gJ) (AR : gR) (mo : Nat) (n : Int) (zn : zr n) (hv : mInv g gh R I AI) (hm : gO g mo 7) (hT : AI (gh 50 0) = T) : gMet l g yX7_end tsX7_end rmX7_endg [.ref mo, .int (iI n)] (I, R, J, AI, AJ, AR) (gQi g (fun (z : Int) (w : gS) => R = w.2.1 ∧ J = w.2.2.1 ∧ AI = w.2.2.2.1 ∧ AJ = w.2.2.2.2.1 ∧ AR = w.2.2.2.2.2 ∧ (mInv g gh R (w.1) AI) ∧ (((w.1) mo 2).toInt = (I mo 2).toInt ∧ ((w.1) mo 14).toInt = (I mo 14).toInt) ∧ (((n < 0 ∨ (I mo 16).toInt < n) ∧ z = -1 ∧ ((w.1) mo 16).toInt = (I mo 16).toInt) ∨ (0 ≤ n ∧ n ≤ (I mo 16).toInt ∧ z = n ∧ ((w.1) mo 16).toInt = n)) ∧ ((w.1) mo 8 = I mo 8 ∧ (w.1) mo 9 = I mo 9 ∧ (w.1) mo 10 = I mo 10))) := by
  refine gStart (cc := cX7_end) (maxL := 2) (ret := (some (.int))) (by decide) rfl (Nat.le_of_ble_eq_true rfl) ?_
  intro p e s m below meth c ls F hr hlk hH hz hS hl
  have hl : lv_has ls 2 [(0, .ref mo), (1, .int (iI n))] := hl
  have hS : va_S (gA g) s.heap s.heap [] := hS
  obtain ⟨H, hHe⟩ : ∃ H : Heap, H = s.heap := ⟨_, rfl⟩
  obtain ⟨locs, hlo⟩ : ∃ k : List Loc, k = [] := ⟨_, rfl⟩
  have hH : gH g I R J AI AJ AR H := by rw [hHe]; exact hH
  have hS : va_S (gA g) s.heap H locs := by rw [hHe, hlo]; exact hS
  suffices hw : W p l e rmX7_endg s m ([.ref mo, .int (iI n)] : List Value).toArray below meth c H locs 0 0 (MQ below (gQi g (fun (z : Int) (w : gS) => R = w.2.1 ∧ J = w.2.2.1 ∧ AI = w.2.2.2.1 ∧ AJ = w.2.2.2.2.1 ∧ AR = w.2.2.2.2.2 ∧ (mInv g gh R (w.1) AI) ∧ (((w.1) mo 2).toInt = (I mo 2).toInt ∧ ((w.1) mo 14).toInt = (I mo 14).toInt) ∧ (((n < 0 ∨ (I mo 16).toInt < n) ∧ z = -1 ∧ ((w.1) mo 16).toInt = (I mo 16).toInt) ∨ (0 ≤ n ∧ n ≤ (I mo 16).toInt ∧ z = n ∧ ((w.1) mo 16).toInt = n)) ∧ ((w.1) mo 8 = I mo 8 ∧ (w.1) mo 9 = I mo 9 ∧ (w.1) mo 10 = I mo 10))) ([.ref mo, .int (iI n)] : List Value).toArray s 0 0 (gA g)) (F0 m 0 ls []) by
    rw [hHe, hlo] at hw; exact hw
  clear hHe hlo
  have i8 : I mo 8 = I mo 8 := rfl
  have i9 : I mo 9 = I mo 9 := rfl
  have i10 : I mo 10 = I mo 10 := rfl
  have iX7 : ∀ w ∈ u_ws RX7 TX7 32, w ∈ tsX7_end := fun w h => List.mem_cons_of_mem _ (inTB7 w h)
  have k60 : Cond.fieldLink RX7 60 (TX7 17).1 (TX7 17).2.1 (TX7 17).2.2.1 ∈ tsX7_end := List.mem_cons_of_mem _ fl_60
  have k71 : Cond.fieldLink RX7 71 (TX7 16).1 (TX7 16).2.1 (TX7 16).2.2.1 ∈ tsX7_end := List.mem_cons_of_mem _ fl_71
  refine lv_aload_n F.1 F.2.1 dX7_end_0 rfl (lv_at hl 0 rfl) ?_
  refine z_iconst F dX7_end_1 ?_
  refine g_putI (ci := 7) (k := 17) F hH hS rfl (by decide) iX7 hm (by decide) tyX7 tyX7_ok nmX7 rfl rfl rfl k60 dX7_end_2 (fun H locs hH hS => ?_)
  obtain ⟨I_1, eI_1⟩ : ∃ qQ, qQ = gup2 I mo 17 (iI (0)) := ⟨_, rfl⟩
  rw [← eI_1] at hH
  have kI_1 : ∀ b, b ≠ mo → I_1 b = I b := fun b hb => by rw [eI_1]; exact funext fun j => gup2_a _ _ hb
  have w_2 : (I_1 mo 17).toInt = 0 := by rw [eI_1, gup2_s]; exact iI_val ⟨by decide, by decide⟩
  have hv : mInv g gh R I_1 AI := by rw [eI_1]; exact mP17 hv hm
  have w_2_k2 : (I_1 mo 2).toInt = (I mo 2).toInt := by rw [eI_1, gup2_k _ _ (by decide)]
  have w_2_k14 : (I_1 mo 14).toInt = (I mo 14).toInt := by rw [eI_1, gup2_k _ _ (by decide)]
  have w_2_k16 : (I_1 mo 16).toInt = (I mo 16).toInt := by rw [eI_1, gup2_k _ _ (by decide)]
  have i8 : I_1 mo 8 = I mo 8 := (show I_1 mo 8 = I mo 8 by rw [eI_1, gup2_k _ _ (by decide)]).trans i8
  have i9 : I_1 mo 9 = I mo 9 := (show I_1 mo 9 = I mo 9 by rw [eI_1, gup2_k _ _ (by decide)]).trans i9
  have i10 : I_1 mo 10 = I mo 10 := (show I_1 mo 10 = I mo 10 by rw [eI_1, gup2_k _ _ (by decide)]).trans i10
  refine lv_iload_n F.1 F.2.1 dX7_end_5 rfl (lv_at hl 1 rfl) ?_
  refine z_iconst F dX7_end_6 ?_
  refine lv_aload_n F.1 F.2.1 dX7_end_7 rfl (lv_at hl 0 rfl) ?_
  refine g_getI (ci := 7) (k := 16) F hH rfl (by decide) iX7 hm (by decide) rfl k71 dX7_end_8 ?_
  have b_3 := mJ hv hm
  unfold mNum1 at b_3
  refine g_calli (g_runS (As := [.int (iI n), .int (iI 0), .int (iI ((I_1 mo 16).toInt))]) (rest := []) F hl.1 hH hS hz (c_X7_within l g  I_1 R J AI AJ AR n 0 ((I_1 mo 16).toInt) zn ⟨by decide, by decide⟩ (zr_t _)) (va_cwS 3 F.2.2.2.2.1 (good_up gT_X7_within) rfl rfl rfl hdX7_within.2 ⟨Nat.le_of_ble_eq_true rfl, Nat.le_of_ble_eq_true rfl⟩) rfl rfl (Nat.le_of_ble_eq_true rfl) dX7_end_11 ⟨Nat.zero_le _, Nat.zero_le _⟩) hS (fun v_10 I_4 R_5 J_6 AI_7 AJ_8 AR_9 H locs zv_10 hp_11 hH hS => ?_)
  dsimp only at hp_11
  obtain ⟨rfl, rfl, rfl, rfl, rfl, rfl, q_12⟩ := hp_11
  refine z_if_ne (tgt := 19) F dX7_end_14 (by decide) zv_10 (fun c_13 => ?_) (fun c_13 => ?_)
  · refine lv_aload_n F.1 F.2.1 dX7_end_19 rfl (lv_at hl 0 rfl) ?_
    refine lv_iload_n F.1 F.2.1 dX7_end_20 rfl (lv_at hl 1 rfl) ?_
    refine g_putI (ci := 7) (k := 16) F hH hS rfl (by decide) iX7 hm (by decide) tyX7 tyX7_ok nmX7 rfl rfl rfl k71 dX7_end_21 (fun H locs hH hS => ?_)
    obtain ⟨I_14, eI_14⟩ : ∃ qQ, qQ = gup2 I_1 mo 16 (iI (n)) := ⟨_, rfl⟩
    rw [← eI_14] at hH
    have kI_14 : ∀ b, b ≠ mo → I_14 b = I_1 b := fun b hb => by rw [eI_14]; exact funext fun j => gup2_a _ _ hb
    have w_15 : (I_14 mo 16).toInt = n := by rw [eI_14, gup2_s]; exact iI_val zn
    have hv : mInv g gh R I_14 AI := by rw [eI_14]; exact mP16 hv hm (by omega) (by omega)
    have w_15_k2 : (I_14 mo 2).toInt = (I_1 mo 2).toInt := by rw [eI_14, gup2_k _ _ (by decide)]
    have w_15_k14 : (I_14 mo 14).toInt = (I_1 mo 14).toInt := by rw [eI_14, gup2_k _ _ (by decide)]
    have i8 : I_14 mo 8 = I mo 8 := (show I_14 mo 8 = I_1 mo 8 by rw [eI_14, gup2_k _ _ (by decide)]).trans i8
    have i9 : I_14 mo 9 = I mo 9 := (show I_14 mo 9 = I_1 mo 9 by rw [eI_14, gup2_k _ _ (by decide)]).trans i9
    have i10 : I_14 mo 10 = I mo 10 := (show I_14 mo 10 = I_1 mo 10 by rw [eI_14, gup2_k _ _ (by decide)]).trans i10
    refine lv_iload_n F.1 F.2.1 dX7_end_24 rfl (lv_at hl 1 rfl) ?_
    exact g_iret F hr hlk hH hS hz zn ⟨rfl, rfl, rfl, rfl, rfl, hv, by first | omega | rfl | (dsimp only; omega), by first | omega | rfl | (dsimp only; omega), ⟨by (try dsimp only); exact i8, by (try dsimp only); exact i9, by (try dsimp only); exact i10⟩⟩ dX7_end_25
  · refine z_iconst F dX7_end_17 ?_
    exact g_iret F hr hlk hH hS hz ⟨by decide, by decide⟩ ⟨rfl, rfl, rfl, rfl, rfl, hv, by first | omega | rfl | (dsimp only; omega), by first | omega | rfl | (dsimp only; omega), ⟨by (try dsimp only); exact i8, by (try dsimp only); exact i9, by (try dsimp only); exact i10⟩⟩ dX7_end_18

def rmX7_pendingg : Room := { frames := 1, cells := 0, slots := 0, locals := 22 }
set_option maxHeartbeats 4000000 in
set_option maxRecDepth 100000 in
/-- pending -/
theorem c_X7_pendingg (l : Launch) (g : gG) (gh : gGh) (T : Nat → Int32) (I : gI) (R : gR) (J : gJ) (AI : gI) (AJ : gJ) (AR : gR) (mo : Nat) (ip : Int) (wh : Int) (zip : zr ip) (zwh : zr wh) (hv : mInv g gh R I AI) (hm : gO g mo 7) (hT : AI (gh 50 0) = T) : gMet l g yX7_pending tsX7_pending rmX7_pendingg [.ref mo, .int (iI ip), .int (iI wh)] (I, R, J, AI, AJ, AR) (gQi g (fun (z : Int) (w : gS) => R = w.2.1 ∧ J = w.2.2.1 ∧ AI = w.2.2.2.1 ∧ AJ = w.2.2.2.2.1 ∧ AR = w.2.2.2.2.2 ∧ (mInv g gh R (w.1) AI) ∧ (nF mo I (w.1)) ∧ ((w.1) mo 8 = I mo 8 ∧ (w.1) mo 9 = I mo 9 ∧ (w.1) mo 10 = I mo 10))) := by
  refine gStart (cc := cX7_pending) (maxL := 3) (ret := (some (.int))) (by decide) rfl (Nat.le_of_ble_eq_true rfl) ?_
  intro p e s m below meth c ls F hr hlk hH hz hS hl
  have hl : lv_has ls 3 [(0, .ref mo), (1, .int (iI ip)), (2, .int (iI wh))] := hl
  have hS : va_S (gA g) s.heap s.heap [] := hS
  obtain ⟨H, hHe⟩ : ∃ H : Heap, H = s.heap := ⟨_, rfl⟩
  obtain ⟨locs, hlo⟩ : ∃ k : List Loc, k = [] := ⟨_, rfl⟩
  have hH : gH g I R J AI AJ AR H := by rw [hHe]; exact hH
  have hS : va_S (gA g) s.heap H locs := by rw [hHe, hlo]; exact hS
  suffices hw : W p l e rmX7_pendingg s m ([.ref mo, .int (iI ip), .int (iI wh)] : List Value).toArray below meth c H locs 0 0 (MQ below (gQi g (fun (z : Int) (w : gS) => R = w.2.1 ∧ J = w.2.2.1 ∧ AI = w.2.2.2.1 ∧ AJ = w.2.2.2.2.1 ∧ AR = w.2.2.2.2.2 ∧ (mInv g gh R (w.1) AI) ∧ (nF mo I (w.1)) ∧ ((w.1) mo 8 = I mo 8 ∧ (w.1) mo 9 = I mo 9 ∧ (w.1) mo 10 = I mo 10))) ([.ref mo, .int (iI ip), .int (iI wh)] : List Value).toArray s 0 0 (gA g)) (F0 m 0 ls []) by
    rw [hHe, hlo] at hw; exact hw
  clear hHe hlo
  have nf : nF mo I I := nF_r
  have i8 : I mo 8 = I mo 8 := rfl
  have i9 : I mo 9 = I mo 9 := rfl
  have i10 : I mo 10 = I mo 10 := rfl
  have iX7 : ∀ w ∈ u_ws RX7 TX7 32, w ∈ tsX7_pending := fun w h => List.mem_cons_of_mem _ (inTB7 w h)
  have k60 : Cond.fieldLink RX7 60 (TX7 17).1 (TX7 17).2.1 (TX7 17).2.2.1 ∈ tsX7_pending := List.mem_cons_of_mem _ fl_60
  have k266 : Cond.fieldLink RX7 266 (TX7 14).1 (TX7 14).2.1 (TX7 14).2.2.1 ∈ tsX7_pending := List.mem_cons_of_mem _ fl_266
  have k30 : Cond.fieldLink RX7 30 (TX7 11).1 (TX7 11).2.1 (TX7 11).2.2.1 ∈ tsX7_pending := List.mem_cons_of_mem _ fl_30
  have k36 : Cond.fieldLink RX7 36 (TX7 13).1 (TX7 13).2.1 (TX7 13).2.2.1 ∈ tsX7_pending := List.mem_cons_of_mem _ fl_36
  have k33 : Cond.fieldLink RX7 33 (TX7 12).1 (TX7 12).2.1 (TX7 12).2.2.1 ∈ tsX7_pending := List.mem_cons_of_mem _ fl_33
  refine lv_aload_n F.1 F.2.1 dX7_pending_0 rfl (lv_at hl 0 rfl) ?_
  refine lv_iload_n F.1 F.2.1 dX7_pending_1 rfl (lv_at hl 2 rfl) ?_
  refine z_iconst F dX7_pending_2 ?_
  refine z_iconst F dX7_pending_3 ?_
  refine g_calli (g_runS (As := [.int (iI wh), .int (iI 0), .int (iI 5)]) (rest := [.ref mo]) F hl.1 hH hS hz (c_X7_within l g  I R J AI AJ AR wh 0 5 zwh ⟨by decide, by decide⟩ ⟨by decide, by decide⟩) (va_cwS 3 F.2.2.2.2.1 (good_up gT_X7_within) rfl rfl rfl hdX7_within.2 ⟨Nat.le_of_ble_eq_true rfl, Nat.le_of_ble_eq_true rfl⟩) rfl rfl (Nat.le_of_ble_eq_true rfl) dX7_pending_4 ⟨Nat.zero_le _, Nat.zero_le _⟩) hS (fun v_7 I_1 R_2 J_3 AI_4 AJ_5 AR_6 H locs zv_7 hp_8 hH hS => ?_)
  dsimp only at hp_8
  obtain ⟨rfl, rfl, rfl, rfl, rfl, rfl, q_9⟩ := hp_8
  refine z_if_eq (tgt := 14) F dX7_pending_7 (by decide) zv_7 (fun c_10 => ?_) (fun c_10 => ?_)
  · refine z_iconst F dX7_pending_14 ?_
    refine g_putI (ci := 7) (k := 17) F hH hS rfl (by decide) iX7 hm (by decide) tyX7 tyX7_ok nmX7 rfl rfl rfl k60 dX7_pending_15 (fun H locs hH hS => ?_)
    obtain ⟨I_11, eI_11⟩ : ∃ qQ, qQ = gup2 I mo 17 (iI (1)) := ⟨_, rfl⟩
    rw [← eI_11] at hH
    have kI_11 : ∀ b, b ≠ mo → I_11 b = I b := fun b hb => by rw [eI_11]; exact funext fun j => gup2_a _ _ hb
    have w_12 : (I_11 mo 17).toInt = 1 := by rw [eI_11, gup2_s]; exact iI_val ⟨by decide, by decide⟩
    have hv : mInv g gh R I_11 AI := by rw [eI_11]; exact mP17 hv hm
    have nf : nF mo I I_11 := nF_t nf (by rw [eI_11]; exact nF_p (by decide))
    have u_13_2 : (I_11 mo 2).toInt = (I mo 2).toInt := by rw [nf 2 (by decide) (by decide) (by decide) (by decide) (by decide)]
    have u_13_5 : (I_11 mo 5).toInt = (I mo 5).toInt := by rw [nf 5 (by decide) (by decide) (by decide) (by decide) (by decide)]
    have u_13_14 : (I_11 mo 14).toInt = (I mo 14).toInt := by rw [nf 14 (by decide) (by decide) (by decide) (by decide) (by decide)]
    have u_13_16 : (I_11 mo 16).toInt = (I mo 16).toInt := by rw [nf 16 (by decide) (by decide) (by decide) (by decide) (by decide)]
    have u_13_24 : (I_11 mo 24).toInt = (I mo 24).toInt := by rw [nf 24 (by decide) (by decide) (by decide) (by decide) (by decide)]
    have i8 : I_11 mo 8 = I mo 8 := (show I_11 mo 8 = I mo 8 by rw [eI_11, gup2_k _ _ (by decide)]).trans i8
    have i9 : I_11 mo 9 = I mo 9 := (show I_11 mo 9 = I mo 9 by rw [eI_11, gup2_k _ _ (by decide)]).trans i9
    have i10 : I_11 mo 10 = I mo 10 := (show I_11 mo 10 = I mo 10 by rw [eI_11, gup2_k _ _ (by decide)]).trans i10
    refine lv_aload_n F.1 F.2.1 dX7_pending_18 rfl (lv_at hl 0 rfl) ?_
    refine g_getI (ci := 7) (k := 17) F hH rfl (by decide) iX7 hm (by decide) rfl k60 dX7_pending_19 ?_
    refine z_if_ne (tgt := 35) F dX7_pending_22 (by decide) (zr_t _) (fun c_14 => ?_) (fun c_14 => ?_)
    · refine lv_aload_n F.1 F.2.1 dX7_pending_35 rfl (lv_at hl 0 rfl) ?_
      refine g_getI (ci := 7) (k := 17) F hH rfl (by decide) iX7 hm (by decide) rfl k60 dX7_pending_36 ?_
      refine z_if_ne (tgt := 84) F dX7_pending_39 (by decide) (zr_t _) (fun c_15 => ?_) (fun c_15 => ?_)
      · refine lv_aload_n F.1 F.2.1 dX7_pending_84 rfl (lv_at hl 0 rfl) ?_
        refine g_getI (ci := 7) (k := 17) F hH rfl (by decide) iX7 hm (by decide) rfl k60 dX7_pending_85 ?_
        refine z_iconst F dX7_pending_88 ?_
        refine z_icmp_ne (tgt := 94) F dX7_pending_89 (by decide) (zr_t _) ⟨by decide, by decide⟩ (fun c_16 => ?_) (fun c_16 => ?_)
        · refine lv_iload_n F.1 F.2.1 dX7_pending_94 rfl (lv_at hl 2 rfl) ?_
          refine z_if_ne (tgt := 107) F dX7_pending_95 (by decide) zwh (fun c_17 => ?_) (fun c_17 => ?_)
          · refine lv_iload_n F.1 F.2.1 dX7_pending_107 rfl (lv_at hl 2 rfl) ?_
            refine z_iconst F dX7_pending_108 ?_
            refine z_icmp_ne (tgt := 121) F dX7_pending_109 (by decide) zwh ⟨by decide, by decide⟩ (fun c_18 => ?_) (fun c_18 => ?_)
            · refine lv_aload_n F.1 F.2.1 dX7_pending_121 rfl (lv_at hl 0 rfl) ?_
              obtain ⟨r_19a, r_19b⟩ : R mo 12 = some (gh 62 0) ∧ gAr g (gh 62 0) 9 164 := mR hv hm (q := (12, 164)) (by decide)
              refine g_getR (ci := 7) (k := 12) F hH rfl (by decide) iX7 hm (by decide) rfl (b := gh 62 0) r_19a k33 dX7_pending_122 ?_
              refine z_iconst F dX7_pending_125 ?_
              refine lv_iload_n F.1 F.2.1 dX7_pending_126 rfl (lv_at hl 1 rfl) ?_
              refine z_imul F dX7_pending_127 ?_
              refine lv_iload_n F.1 F.2.1 dX7_pending_128 rfl (lv_at hl 2 rfl) ?_
              refine z_iadd F dX7_pending_129 ?_
              refine z_iconst F dX7_pending_130 ?_
              refine z_isub F dX7_pending_131 ?_
              have hx132 : 0 ≤ (((4 * ip) + wh) - 1) ∧ (((4 * ip) + wh) - 1) < ((164 : Nat) : Int) ∧ (((4 * ip) + wh) - 1) ≤ 2147483647 := ⟨by omega, by omega, by omega⟩
              refine g_iald F hH r_19b hx132.1 hx132.2.1 hx132.2.2 dX7_pending_132 ?_
              refine z_name (fun v_20 ev_20 => ?_)
              have zv_20 : zr v_20 := by rw [ev_20]; exact zr_t _
              exact g_iret F hr hlk hH hS hz zv_20 ⟨rfl, rfl, rfl, rfl, rfl, hv, nf, ⟨by (try dsimp only); exact i8, by (try dsimp only); exact i9, by (try dsimp only); exact i10⟩⟩ dX7_pending_133
            · refine lv_aload_n F.1 F.2.1 dX7_pending_112 rfl (lv_at hl 0 rfl) ?_
              obtain ⟨r_21a, r_21b⟩ : R mo 13 = some (gh 63 0) ∧ gAr g (gh 63 0) 9 41 := mR hv hm (q := (13, 41)) (by decide)
              refine g_getR (ci := 7) (k := 13) F hH rfl (by decide) iX7 hm (by decide) rfl (b := gh 63 0) r_21a k36 dX7_pending_113 ?_
              refine lv_iload_n F.1 F.2.1 dX7_pending_116 rfl (lv_at hl 1 rfl) ?_
              have hx117 : 0 ≤ ip ∧ ip < ((41 : Nat) : Int) ∧ ip ≤ 2147483647 := ⟨by omega, by omega, by omega⟩
              refine g_iald F hH r_21b hx117.1 hx117.2.1 hx117.2.2 dX7_pending_117 ?_
              refine z_name (fun v_22 ev_22 => ?_)
              have zv_22 : zr v_22 := by rw [ev_22]; exact zr_t _
              refine z_goto (tgt := 133) F dX7_pending_118 (by decide) ?_
              exact g_iret F hr hlk hH hS hz zv_22 ⟨rfl, rfl, rfl, rfl, rfl, hv, nf, ⟨by (try dsimp only); exact i8, by (try dsimp only); exact i9, by (try dsimp only); exact i10⟩⟩ dX7_pending_133
          · refine lv_aload_n F.1 F.2.1 dX7_pending_98 rfl (lv_at hl 0 rfl) ?_
            obtain ⟨r_23a, r_23b⟩ : R mo 11 = some (gh 61 0) ∧ gAr g (gh 61 0) 9 41 := mR hv hm (q := (11, 41)) (by decide)
            refine g_getR (ci := 7) (k := 11) F hH rfl (by decide) iX7 hm (by decide) rfl (b := gh 61 0) r_23a k30 dX7_pending_99 ?_
            refine lv_iload_n F.1 F.2.1 dX7_pending_102 rfl (lv_at hl 1 rfl) ?_
            have hx103 : 0 ≤ ip ∧ ip < ((41 : Nat) : Int) ∧ ip ≤ 2147483647 := ⟨by omega, by omega, by omega⟩
            refine g_iald F hH r_23b hx103.1 hx103.2.1 hx103.2.2 dX7_pending_103 ?_
            refine z_name (fun v_24 ev_24 => ?_)
            have zv_24 : zr v_24 := by rw [ev_24]; exact zr_t _
            refine z_goto (tgt := 133) F dX7_pending_104 (by decide) ?_
            exact g_iret F hr hlk hH hS hz zv_24 ⟨rfl, rfl, rfl, rfl, rfl, hv, nf, ⟨by (try dsimp only); exact i8, by (try dsimp only); exact i9, by (try dsimp only); exact i10⟩⟩ dX7_pending_133
        · refine z_iconst F dX7_pending_92 ?_
          exact g_iret F hr hlk hH hS hz ⟨by decide, by decide⟩ ⟨rfl, rfl, rfl, rfl, rfl, hv, nf, ⟨by (try dsimp only); exact i8, by (try dsimp only); exact i9, by (try dsimp only); exact i10⟩⟩ dX7_pending_93
      · exact absurd trivial (by omega)
    · refine lv_iload_n F.1 F.2.1 dX7_pending_25 rfl (lv_at hl 1 rfl) ?_
      refine z_iconst F dX7_pending_26 ?_
      refine z_icmp_ne (tgt := 35) F dX7_pending_27 (by decide) zip ⟨by decide, by decide⟩ (fun c_25 => ?_) (fun c_25 => ?_)
      · refine lv_aload_n F.1 F.2.1 dX7_pending_35 rfl (lv_at hl 0 rfl) ?_
        refine g_getI (ci := 7) (k := 17) F hH rfl (by decide) iX7 hm (by decide) rfl k60 dX7_pending_36 ?_
        refine z_if_ne (tgt := 84) F dX7_pending_39 (by decide) (zr_t _) (fun c_26 => ?_) (fun c_26 => ?_)
        · exact absurd trivial (by omega)
        · refine lv_iload_n F.1 F.2.1 dX7_pending_42 rfl (lv_at hl 1 rfl) ?_
          refine z_iconst F dX7_pending_43 ?_
          refine lv_aload_n F.1 F.2.1 dX7_pending_44 rfl (lv_at hl 0 rfl) ?_
          refine g_getI (ci := 7) (k := 14) F hH rfl (by decide) iX7 hm (by decide) rfl k266 dX7_pending_45 ?_
          have b_27 := mJ hv hm
          unfold mNum1 at b_27
          refine z_iconst F dX7_pending_48 ?_
          refine z_isub F dX7_pending_49 ?_
          refine g_calli (g_runS (As := [.int (iI ip), .int (iI 0), .int (iI (((I_11 mo 14).toInt) - 1))]) (rest := []) F hl.1 hH hS hz (c_X7_within l g  I_11 R J AI AJ AR ip 0 (((I_11 mo 14).toInt) - 1) zip ⟨by decide, by decide⟩ ⟨by omega, by omega⟩) (va_cwS 3 F.2.2.2.2.1 (good_up gT_X7_within) rfl rfl rfl hdX7_within.2 ⟨Nat.le_of_ble_eq_true rfl, Nat.le_of_ble_eq_true rfl⟩) rfl rfl (Nat.le_of_ble_eq_true rfl) dX7_pending_50 ⟨Nat.zero_le _, Nat.zero_le _⟩) hS (fun v_34 I_28 R_29 J_30 AI_31 AJ_32 AR_33 H locs zv_34 hp_35 hH hS => ?_)
          dsimp only at hp_35
          obtain ⟨rfl, rfl, rfl, rfl, rfl, rfl, q_36⟩ := hp_35
          refine z_if_eq (tgt := 79) F dX7_pending_53 (by decide) zv_34 (fun c_37 => ?_) (fun c_37 => ?_)
          · refine lv_aload_n F.1 F.2.1 dX7_pending_79 rfl (lv_at hl 0 rfl) ?_
            refine z_iconst F dX7_pending_80 ?_
            refine g_putI (ci := 7) (k := 17) F hH hS rfl (by decide) iX7 hm (by decide) tyX7 tyX7_ok nmX7 rfl rfl rfl k60 dX7_pending_81 (fun H locs hH hS => ?_)
            obtain ⟨I_38, eI_38⟩ : ∃ qQ, qQ = gup2 I_11 mo 17 (iI (1)) := ⟨_, rfl⟩
            rw [← eI_38] at hH
            have kI_38 : ∀ b, b ≠ mo → I_38 b = I_11 b := fun b hb => by rw [eI_38]; exact funext fun j => gup2_a _ _ hb
            have w_39 : (I_38 mo 17).toInt = 1 := by rw [eI_38, gup2_s]; exact iI_val ⟨by decide, by decide⟩
            have hv : mInv g gh R I_38 AI := by rw [eI_38]; exact mP17 hv hm
            have nf : nF mo I I_38 := nF_t nf (by rw [eI_38]; exact nF_p (by decide))
            have u_40_2 : (I_38 mo 2).toInt = (I mo 2).toInt := by rw [nf 2 (by decide) (by decide) (by decide) (by decide) (by decide)]
            have u_40_5 : (I_38 mo 5).toInt = (I mo 5).toInt := by rw [nf 5 (by decide) (by decide) (by decide) (by decide) (by decide)]
            have u_40_14 : (I_38 mo 14).toInt = (I mo 14).toInt := by rw [nf 14 (by decide) (by decide) (by decide) (by decide) (by decide)]
            have u_40_16 : (I_38 mo 16).toInt = (I mo 16).toInt := by rw [nf 16 (by decide) (by decide) (by decide) (by decide) (by decide)]
            have u_40_24 : (I_38 mo 24).toInt = (I mo 24).toInt := by rw [nf 24 (by decide) (by decide) (by decide) (by decide) (by decide)]
            have i8 : I_38 mo 8 = I mo 8 := (show I_38 mo 8 = I_11 mo 8 by rw [eI_38, gup2_k _ _ (by decide)]).trans i8
            have i9 : I_38 mo 9 = I mo 9 := (show I_38 mo 9 = I_11 mo 9 by rw [eI_38, gup2_k _ _ (by decide)]).trans i9
            have i10 : I_38 mo 10 = I mo 10 := (show I_38 mo 10 = I_11 mo 10 by rw [eI_38, gup2_k _ _ (by decide)]).trans i10
            refine lv_aload_n F.1 F.2.1 dX7_pending_84 rfl (lv_at hl 0 rfl) ?_
            refine g_getI (ci := 7) (k := 17) F hH rfl (by decide) iX7 hm (by decide) rfl k60 dX7_pending_85 ?_
            refine z_iconst F dX7_pending_88 ?_
            refine z_icmp_ne (tgt := 94) F dX7_pending_89 (by decide) (zr_t _) ⟨by decide, by decide⟩ (fun c_41 => ?_) (fun c_41 => ?_)
            · refine lv_iload_n F.1 F.2.1 dX7_pending_94 rfl (lv_at hl 2 rfl) ?_
              refine z_if_ne (tgt := 107) F dX7_pending_95 (by decide) zwh (fun c_42 => ?_) (fun c_42 => ?_)
              · refine lv_iload_n F.1 F.2.1 dX7_pending_107 rfl (lv_at hl 2 rfl) ?_
                refine z_iconst F dX7_pending_108 ?_
                refine z_icmp_ne (tgt := 121) F dX7_pending_109 (by decide) zwh ⟨by decide, by decide⟩ (fun c_43 => ?_) (fun c_43 => ?_)
                · refine lv_aload_n F.1 F.2.1 dX7_pending_121 rfl (lv_at hl 0 rfl) ?_
                  obtain ⟨r_44a, r_44b⟩ : R mo 12 = some (gh 62 0) ∧ gAr g (gh 62 0) 9 164 := mR hv hm (q := (12, 164)) (by decide)
                  refine g_getR (ci := 7) (k := 12) F hH rfl (by decide) iX7 hm (by decide) rfl (b := gh 62 0) r_44a k33 dX7_pending_122 ?_
                  refine z_iconst F dX7_pending_125 ?_
                  refine lv_iload_n F.1 F.2.1 dX7_pending_126 rfl (lv_at hl 1 rfl) ?_
                  refine z_imul F dX7_pending_127 ?_
                  refine lv_iload_n F.1 F.2.1 dX7_pending_128 rfl (lv_at hl 2 rfl) ?_
                  refine z_iadd F dX7_pending_129 ?_
                  refine z_iconst F dX7_pending_130 ?_
                  refine z_isub F dX7_pending_131 ?_
                  have hx132 : 0 ≤ (((4 * ip) + wh) - 1) ∧ (((4 * ip) + wh) - 1) < ((164 : Nat) : Int) ∧ (((4 * ip) + wh) - 1) ≤ 2147483647 := ⟨by omega, by omega, by omega⟩
                  refine g_iald F hH r_44b hx132.1 hx132.2.1 hx132.2.2 dX7_pending_132 ?_
                  refine z_name (fun v_45 ev_45 => ?_)
                  have zv_45 : zr v_45 := by rw [ev_45]; exact zr_t _
                  exact g_iret F hr hlk hH hS hz zv_45 ⟨rfl, rfl, rfl, rfl, rfl, hv, nf, ⟨by (try dsimp only); exact i8, by (try dsimp only); exact i9, by (try dsimp only); exact i10⟩⟩ dX7_pending_133
                · refine lv_aload_n F.1 F.2.1 dX7_pending_112 rfl (lv_at hl 0 rfl) ?_
                  obtain ⟨r_46a, r_46b⟩ : R mo 13 = some (gh 63 0) ∧ gAr g (gh 63 0) 9 41 := mR hv hm (q := (13, 41)) (by decide)
                  refine g_getR (ci := 7) (k := 13) F hH rfl (by decide) iX7 hm (by decide) rfl (b := gh 63 0) r_46a k36 dX7_pending_113 ?_
                  refine lv_iload_n F.1 F.2.1 dX7_pending_116 rfl (lv_at hl 1 rfl) ?_
                  have hx117 : 0 ≤ ip ∧ ip < ((41 : Nat) : Int) ∧ ip ≤ 2147483647 := ⟨by omega, by omega, by omega⟩
                  refine g_iald F hH r_46b hx117.1 hx117.2.1 hx117.2.2 dX7_pending_117 ?_
                  refine z_name (fun v_47 ev_47 => ?_)
                  have zv_47 : zr v_47 := by rw [ev_47]; exact zr_t _
                  refine z_goto (tgt := 133) F dX7_pending_118 (by decide) ?_
                  exact g_iret F hr hlk hH hS hz zv_47 ⟨rfl, rfl, rfl, rfl, rfl, hv, nf, ⟨by (try dsimp only); exact i8, by (try dsimp only); exact i9, by (try dsimp only); exact i10⟩⟩ dX7_pending_133
              · refine lv_aload_n F.1 F.2.1 dX7_pending_98 rfl (lv_at hl 0 rfl) ?_
                obtain ⟨r_48a, r_48b⟩ : R mo 11 = some (gh 61 0) ∧ gAr g (gh 61 0) 9 41 := mR hv hm (q := (11, 41)) (by decide)
                refine g_getR (ci := 7) (k := 11) F hH rfl (by decide) iX7 hm (by decide) rfl (b := gh 61 0) r_48a k30 dX7_pending_99 ?_
                refine lv_iload_n F.1 F.2.1 dX7_pending_102 rfl (lv_at hl 1 rfl) ?_
                have hx103 : 0 ≤ ip ∧ ip < ((41 : Nat) : Int) ∧ ip ≤ 2147483647 := ⟨by omega, by omega, by omega⟩
                refine g_iald F hH r_48b hx103.1 hx103.2.1 hx103.2.2 dX7_pending_103 ?_
                refine z_name (fun v_49 ev_49 => ?_)
                have zv_49 : zr v_49 := by rw [ev_49]; exact zr_t _
                refine z_goto (tgt := 133) F dX7_pending_104 (by decide) ?_
                exact g_iret F hr hlk hH hS hz zv_49 ⟨rfl, rfl, rfl, rfl, rfl, hv, nf, ⟨by (try dsimp only); exact i8, by (try dsimp only); exact i9, by (try dsimp only); exact i10⟩⟩ dX7_pending_133
            · refine z_iconst F dX7_pending_92 ?_
              exact g_iret F hr hlk hH hS hz ⟨by decide, by decide⟩ ⟨rfl, rfl, rfl, rfl, rfl, hv, nf, ⟨by (try dsimp only); exact i8, by (try dsimp only); exact i9, by (try dsimp only); exact i10⟩⟩ dX7_pending_93
          · refine lv_iload_n F.1 F.2.1 dX7_pending_56 rfl (lv_at hl 2 rfl) ?_
            refine z_iconst F dX7_pending_57 ?_
            refine z_iconst F dX7_pending_58 ?_
            refine g_calli (g_runS (As := [.int (iI wh), .int (iI 1), .int (iI 4)]) (rest := []) F hl.1 hH hS hz (c_X7_within l g  I_11 R J AI AJ AR wh 1 4 zwh ⟨by decide, by decide⟩ ⟨by decide, by decide⟩) (va_cwS 3 F.2.2.2.2.1 (good_up gT_X7_within) rfl rfl rfl hdX7_within.2 ⟨Nat.le_of_ble_eq_true rfl, Nat.le_of_ble_eq_true rfl⟩) rfl rfl (Nat.le_of_ble_eq_true rfl) dX7_pending_59 ⟨Nat.zero_le _, Nat.zero_le _⟩) hS (fun v_56 I_50 R_51 J_52 AI_53 AJ_54 AR_55 H locs zv_56 hp_57 hH hS => ?_)
            dsimp only at hp_57
            obtain ⟨rfl, rfl, rfl, rfl, rfl, rfl, q_58⟩ := hp_57
            refine z_if_eq (tgt := 84) F dX7_pending_62 (by decide) zv_56 (fun c_59 => ?_) (fun c_59 => ?_)
            · refine lv_aload_n F.1 F.2.1 dX7_pending_84 rfl (lv_at hl 0 rfl) ?_
              refine g_getI (ci := 7) (k := 17) F hH rfl (by decide) iX7 hm (by decide) rfl k60 dX7_pending_85 ?_
              refine z_iconst F dX7_pending_88 ?_
              refine z_icmp_ne (tgt := 94) F dX7_pending_89 (by decide) (zr_t _) ⟨by decide, by decide⟩ (fun c_60 => ?_) (fun c_60 => ?_)
              · refine lv_iload_n F.1 F.2.1 dX7_pending_94 rfl (lv_at hl 2 rfl) ?_
                refine z_if_ne (tgt := 107) F dX7_pending_95 (by decide) zwh (fun c_61 => ?_) (fun c_61 => ?_)
                · refine lv_iload_n F.1 F.2.1 dX7_pending_107 rfl (lv_at hl 2 rfl) ?_
                  refine z_iconst F dX7_pending_108 ?_
                  refine z_icmp_ne (tgt := 121) F dX7_pending_109 (by decide) zwh ⟨by decide, by decide⟩ (fun c_62 => ?_) (fun c_62 => ?_)
                  · refine lv_aload_n F.1 F.2.1 dX7_pending_121 rfl (lv_at hl 0 rfl) ?_
                    obtain ⟨r_63a, r_63b⟩ : R mo 12 = some (gh 62 0) ∧ gAr g (gh 62 0) 9 164 := mR hv hm (q := (12, 164)) (by decide)
                    refine g_getR (ci := 7) (k := 12) F hH rfl (by decide) iX7 hm (by decide) rfl (b := gh 62 0) r_63a k33 dX7_pending_122 ?_
                    refine z_iconst F dX7_pending_125 ?_
                    refine lv_iload_n F.1 F.2.1 dX7_pending_126 rfl (lv_at hl 1 rfl) ?_
                    refine z_imul F dX7_pending_127 ?_
                    refine lv_iload_n F.1 F.2.1 dX7_pending_128 rfl (lv_at hl 2 rfl) ?_
                    refine z_iadd F dX7_pending_129 ?_
                    refine z_iconst F dX7_pending_130 ?_
                    refine z_isub F dX7_pending_131 ?_
                    have hx132 : 0 ≤ (((4 * ip) + wh) - 1) ∧ (((4 * ip) + wh) - 1) < ((164 : Nat) : Int) ∧ (((4 * ip) + wh) - 1) ≤ 2147483647 := ⟨by omega, by omega, by omega⟩
                    refine g_iald F hH r_63b hx132.1 hx132.2.1 hx132.2.2 dX7_pending_132 ?_
                    refine z_name (fun v_64 ev_64 => ?_)
                    have zv_64 : zr v_64 := by rw [ev_64]; exact zr_t _
                    exact g_iret F hr hlk hH hS hz zv_64 ⟨rfl, rfl, rfl, rfl, rfl, hv, nf, ⟨by (try dsimp only); exact i8, by (try dsimp only); exact i9, by (try dsimp only); exact i10⟩⟩ dX7_pending_133
                  · refine lv_aload_n F.1 F.2.1 dX7_pending_112 rfl (lv_at hl 0 rfl) ?_
                    obtain ⟨r_65a, r_65b⟩ : R mo 13 = some (gh 63 0) ∧ gAr g (gh 63 0) 9 41 := mR hv hm (q := (13, 41)) (by decide)
                    refine g_getR (ci := 7) (k := 13) F hH rfl (by decide) iX7 hm (by decide) rfl (b := gh 63 0) r_65a k36 dX7_pending_113 ?_
                    refine lv_iload_n F.1 F.2.1 dX7_pending_116 rfl (lv_at hl 1 rfl) ?_
                    have hx117 : 0 ≤ ip ∧ ip < ((41 : Nat) : Int) ∧ ip ≤ 2147483647 := ⟨by omega, by omega, by omega⟩
                    refine g_iald F hH r_65b hx117.1 hx117.2.1 hx117.2.2 dX7_pending_117 ?_
                    refine z_name (fun v_66 ev_66 => ?_)
                    have zv_66 : zr v_66 := by rw [ev_66]; exact zr_t _
                    refine z_goto (tgt := 133) F dX7_pending_118 (by decide) ?_
                    exact g_iret F hr hlk hH hS hz zv_66 ⟨rfl, rfl, rfl, rfl, rfl, hv, nf, ⟨by (try dsimp only); exact i8, by (try dsimp only); exact i9, by (try dsimp only); exact i10⟩⟩ dX7_pending_133
                · refine lv_aload_n F.1 F.2.1 dX7_pending_98 rfl (lv_at hl 0 rfl) ?_
                  obtain ⟨r_67a, r_67b⟩ : R mo 11 = some (gh 61 0) ∧ gAr g (gh 61 0) 9 41 := mR hv hm (q := (11, 41)) (by decide)
                  refine g_getR (ci := 7) (k := 11) F hH rfl (by decide) iX7 hm (by decide) rfl (b := gh 61 0) r_67a k30 dX7_pending_99 ?_
                  refine lv_iload_n F.1 F.2.1 dX7_pending_102 rfl (lv_at hl 1 rfl) ?_
                  have hx103 : 0 ≤ ip ∧ ip < ((41 : Nat) : Int) ∧ ip ≤ 2147483647 := ⟨by omega, by omega, by omega⟩
                  refine g_iald F hH r_67b hx103.1 hx103.2.1 hx103.2.2 dX7_pending_103 ?_
                  refine z_name (fun v_68 ev_68 => ?_)
                  have zv_68 : zr v_68 := by rw [ev_68]; exact zr_t _
                  refine z_goto (tgt := 133) F dX7_pending_104 (by decide) ?_
                  exact g_iret F hr hlk hH hS hz zv_68 ⟨rfl, rfl, rfl, rfl, rfl, hv, nf, ⟨by (try dsimp only); exact i8, by (try dsimp only); exact i9, by (try dsimp only); exact i10⟩⟩ dX7_pending_133
              · refine z_iconst F dX7_pending_92 ?_
                exact g_iret F hr hlk hH hS hz ⟨by decide, by decide⟩ ⟨rfl, rfl, rfl, rfl, rfl, hv, nf, ⟨by (try dsimp only); exact i8, by (try dsimp only); exact i9, by (try dsimp only); exact i10⟩⟩ dX7_pending_93
            · refine lv_iload_n F.1 F.2.1 dX7_pending_65 rfl (lv_at hl 2 rfl) ?_
              refine lv_aload_n F.1 F.2.1 dX7_pending_66 rfl (lv_at hl 0 rfl) ?_
              refine lv_aload_n F.1 F.2.1 dX7_pending_67 rfl (lv_at hl 0 rfl) ?_
              obtain ⟨r_69a, r_69b⟩ : R mo 11 = some (gh 61 0) ∧ gAr g (gh 61 0) 9 41 := mR hv hm (q := (11, 41)) (by decide)
              refine g_getR (ci := 7) (k := 11) F hH rfl (by decide) iX7 hm (by decide) rfl (b := gh 61 0) r_69a k30 dX7_pending_68 ?_
              refine lv_iload_n F.1 F.2.1 dX7_pending_71 rfl (lv_at hl 1 rfl) ?_
              have hx72 : 0 ≤ ip ∧ ip < ((41 : Nat) : Int) ∧ ip ≤ 2147483647 := ⟨by omega, by omega, by omega⟩
              refine g_iald F hH r_69b hx72.1 hx72.2.1 hx72.2.2 dX7_pending_72 ?_
              have q72 := mCt hv hm (z := ip) (by omega) (by omega)
              refine g_calli (g_runV (As := [.int (iI ((AI (gh 61 0) (ip).toNat).toInt))]) (rest := [.int (iI wh)]) (ci := 7) F hl.1 hH hS hz (c_X7_columnsOf l g gh T I_11 R J AI AJ AR mo ((AI (gh 61 0) (ip).toNat).toInt) (zr_t _) hv hm hT (by omega)) (cwV 1 F.2.2.2.2.1 (good_up gT_X7_columnsOf) rfl rfl rfl hdX7_columnsOf ⟨Nat.le_of_ble_eq_true rfl, Nat.le_of_ble_eq_true rfl⟩) hm (by decide) rfl rfl rfl (Nat.le_of_ble_eq_true rfl) dX7_pending_73 ⟨Nat.zero_le _, Nat.zero_le _⟩) hS (fun v_76 I_70 R_71 J_72 AI_73 AJ_74 AR_75 H locs zv_76 hp_77 hH hS => ?_)
              dsimp only at hp_77
              obtain ⟨rfl, rfl, rfl, rfl, rfl, rfl, q_78⟩ := hp_77
              refine z_icmp_le (tgt := 84) F dX7_pending_76 (by decide) zwh zv_76 (fun c_79 => ?_) (fun c_79 => ?_)
              · refine lv_aload_n F.1 F.2.1 dX7_pending_84 rfl (lv_at hl 0 rfl) ?_
                refine g_getI (ci := 7) (k := 17) F hH rfl (by decide) iX7 hm (by decide) rfl k60 dX7_pending_85 ?_
                refine z_iconst F dX7_pending_88 ?_
                refine z_icmp_ne (tgt := 94) F dX7_pending_89 (by decide) (zr_t _) ⟨by decide, by decide⟩ (fun c_80 => ?_) (fun c_80 => ?_)
                · refine lv_iload_n F.1 F.2.1 dX7_pending_94 rfl (lv_at hl 2 rfl) ?_
                  refine z_if_ne (tgt := 107) F dX7_pending_95 (by decide) zwh (fun c_81 => ?_) (fun c_81 => ?_)
                  · refine lv_iload_n F.1 F.2.1 dX7_pending_107 rfl (lv_at hl 2 rfl) ?_
                    refine z_iconst F dX7_pending_108 ?_
                    refine z_icmp_ne (tgt := 121) F dX7_pending_109 (by decide) zwh ⟨by decide, by decide⟩ (fun c_82 => ?_) (fun c_82 => ?_)
                    · refine lv_aload_n F.1 F.2.1 dX7_pending_121 rfl (lv_at hl 0 rfl) ?_
                      obtain ⟨r_83a, r_83b⟩ : R mo 12 = some (gh 62 0) ∧ gAr g (gh 62 0) 9 164 := mR hv hm (q := (12, 164)) (by decide)
                      refine g_getR (ci := 7) (k := 12) F hH rfl (by decide) iX7 hm (by decide) rfl (b := gh 62 0) r_83a k33 dX7_pending_122 ?_
                      refine z_iconst F dX7_pending_125 ?_
                      refine lv_iload_n F.1 F.2.1 dX7_pending_126 rfl (lv_at hl 1 rfl) ?_
                      refine z_imul F dX7_pending_127 ?_
                      refine lv_iload_n F.1 F.2.1 dX7_pending_128 rfl (lv_at hl 2 rfl) ?_
                      refine z_iadd F dX7_pending_129 ?_
                      refine z_iconst F dX7_pending_130 ?_
                      refine z_isub F dX7_pending_131 ?_
                      have hx132 : 0 ≤ (((4 * ip) + wh) - 1) ∧ (((4 * ip) + wh) - 1) < ((164 : Nat) : Int) ∧ (((4 * ip) + wh) - 1) ≤ 2147483647 := ⟨by omega, by omega, by omega⟩
                      refine g_iald F hH r_83b hx132.1 hx132.2.1 hx132.2.2 dX7_pending_132 ?_
                      refine z_name (fun v_84 ev_84 => ?_)
                      have zv_84 : zr v_84 := by rw [ev_84]; exact zr_t _
                      exact g_iret F hr hlk hH hS hz zv_84 ⟨rfl, rfl, rfl, rfl, rfl, hv, nf, ⟨by (try dsimp only); exact i8, by (try dsimp only); exact i9, by (try dsimp only); exact i10⟩⟩ dX7_pending_133
                    · refine lv_aload_n F.1 F.2.1 dX7_pending_112 rfl (lv_at hl 0 rfl) ?_
                      obtain ⟨r_85a, r_85b⟩ : R mo 13 = some (gh 63 0) ∧ gAr g (gh 63 0) 9 41 := mR hv hm (q := (13, 41)) (by decide)
                      refine g_getR (ci := 7) (k := 13) F hH rfl (by decide) iX7 hm (by decide) rfl (b := gh 63 0) r_85a k36 dX7_pending_113 ?_
                      refine lv_iload_n F.1 F.2.1 dX7_pending_116 rfl (lv_at hl 1 rfl) ?_
                      have hx117 : 0 ≤ ip ∧ ip < ((41 : Nat) : Int) ∧ ip ≤ 2147483647 := ⟨by omega, by omega, by omega⟩
                      refine g_iald F hH r_85b hx117.1 hx117.2.1 hx117.2.2 dX7_pending_117 ?_
                      refine z_name (fun v_86 ev_86 => ?_)
                      have zv_86 : zr v_86 := by rw [ev_86]; exact zr_t _
                      refine z_goto (tgt := 133) F dX7_pending_118 (by decide) ?_
                      exact g_iret F hr hlk hH hS hz zv_86 ⟨rfl, rfl, rfl, rfl, rfl, hv, nf, ⟨by (try dsimp only); exact i8, by (try dsimp only); exact i9, by (try dsimp only); exact i10⟩⟩ dX7_pending_133
                  · refine lv_aload_n F.1 F.2.1 dX7_pending_98 rfl (lv_at hl 0 rfl) ?_
                    refine g_getR (ci := 7) (k := 11) F hH rfl (by decide) iX7 hm (by decide) rfl (b := gh 61 0) r_69a k30 dX7_pending_99 ?_
                    refine lv_iload_n F.1 F.2.1 dX7_pending_102 rfl (lv_at hl 1 rfl) ?_
                    have hx103 : 0 ≤ ip ∧ ip < ((41 : Nat) : Int) ∧ ip ≤ 2147483647 := ⟨by omega, by omega, by omega⟩
                    refine g_iald F hH r_69b hx103.1 hx103.2.1 hx103.2.2 dX7_pending_103 ?_
                    refine z_name (fun v_87 ev_87 => ?_)
                    have zv_87 : zr v_87 := by rw [ev_87]; exact zr_t _
                    refine z_goto (tgt := 133) F dX7_pending_104 (by decide) ?_
                    exact g_iret F hr hlk hH hS hz zv_87 ⟨rfl, rfl, rfl, rfl, rfl, hv, nf, ⟨by (try dsimp only); exact i8, by (try dsimp only); exact i9, by (try dsimp only); exact i10⟩⟩ dX7_pending_133
                · refine z_iconst F dX7_pending_92 ?_
                  exact g_iret F hr hlk hH hS hz ⟨by decide, by decide⟩ ⟨rfl, rfl, rfl, rfl, rfl, hv, nf, ⟨by (try dsimp only); exact i8, by (try dsimp only); exact i9, by (try dsimp only); exact i10⟩⟩ dX7_pending_93
              · refine lv_aload_n F.1 F.2.1 dX7_pending_79 rfl (lv_at hl 0 rfl) ?_
                refine z_iconst F dX7_pending_80 ?_
                refine g_putI (ci := 7) (k := 17) F hH hS rfl (by decide) iX7 hm (by decide) tyX7 tyX7_ok nmX7 rfl rfl rfl k60 dX7_pending_81 (fun H locs hH hS => ?_)
                obtain ⟨I_88, eI_88⟩ : ∃ qQ, qQ = gup2 I_11 mo 17 (iI (1)) := ⟨_, rfl⟩
                rw [← eI_88] at hH
                have kI_88 : ∀ b, b ≠ mo → I_88 b = I_11 b := fun b hb => by rw [eI_88]; exact funext fun j => gup2_a _ _ hb
                have w_89 : (I_88 mo 17).toInt = 1 := by rw [eI_88, gup2_s]; exact iI_val ⟨by decide, by decide⟩
                have hv : mInv g gh R I_88 AI := by rw [eI_88]; exact mP17 hv hm
                have nf : nF mo I I_88 := nF_t nf (by rw [eI_88]; exact nF_p (by decide))
                have u_90_2 : (I_88 mo 2).toInt = (I mo 2).toInt := by rw [nf 2 (by decide) (by decide) (by decide) (by decide) (by decide)]
                have u_90_5 : (I_88 mo 5).toInt = (I mo 5).toInt := by rw [nf 5 (by decide) (by decide) (by decide) (by decide) (by decide)]
                have u_90_14 : (I_88 mo 14).toInt = (I mo 14).toInt := by rw [nf 14 (by decide) (by decide) (by decide) (by decide) (by decide)]
                have u_90_16 : (I_88 mo 16).toInt = (I mo 16).toInt := by rw [nf 16 (by decide) (by decide) (by decide) (by decide) (by decide)]
                have u_90_24 : (I_88 mo 24).toInt = (I mo 24).toInt := by rw [nf 24 (by decide) (by decide) (by decide) (by decide) (by decide)]
                have i8 : I_88 mo 8 = I mo 8 := (show I_88 mo 8 = I_11 mo 8 by rw [eI_88, gup2_k _ _ (by decide)]).trans i8
                have i9 : I_88 mo 9 = I mo 9 := (show I_88 mo 9 = I_11 mo 9 by rw [eI_88, gup2_k _ _ (by decide)]).trans i9
                have i10 : I_88 mo 10 = I mo 10 := (show I_88 mo 10 = I_11 mo 10 by rw [eI_88, gup2_k _ _ (by decide)]).trans i10
                refine lv_aload_n F.1 F.2.1 dX7_pending_84 rfl (lv_at hl 0 rfl) ?_
                refine g_getI (ci := 7) (k := 17) F hH rfl (by decide) iX7 hm (by decide) rfl k60 dX7_pending_85 ?_
                refine z_iconst F dX7_pending_88 ?_
                refine z_icmp_ne (tgt := 94) F dX7_pending_89 (by decide) (zr_t _) ⟨by decide, by decide⟩ (fun c_91 => ?_) (fun c_91 => ?_)
                · refine lv_iload_n F.1 F.2.1 dX7_pending_94 rfl (lv_at hl 2 rfl) ?_
                  refine z_if_ne (tgt := 107) F dX7_pending_95 (by decide) zwh (fun c_92 => ?_) (fun c_92 => ?_)
                  · refine lv_iload_n F.1 F.2.1 dX7_pending_107 rfl (lv_at hl 2 rfl) ?_
                    refine z_iconst F dX7_pending_108 ?_
                    refine z_icmp_ne (tgt := 121) F dX7_pending_109 (by decide) zwh ⟨by decide, by decide⟩ (fun c_93 => ?_) (fun c_93 => ?_)
                    · refine lv_aload_n F.1 F.2.1 dX7_pending_121 rfl (lv_at hl 0 rfl) ?_
                      obtain ⟨r_94a, r_94b⟩ : R mo 12 = some (gh 62 0) ∧ gAr g (gh 62 0) 9 164 := mR hv hm (q := (12, 164)) (by decide)
                      refine g_getR (ci := 7) (k := 12) F hH rfl (by decide) iX7 hm (by decide) rfl (b := gh 62 0) r_94a k33 dX7_pending_122 ?_
                      refine z_iconst F dX7_pending_125 ?_
                      refine lv_iload_n F.1 F.2.1 dX7_pending_126 rfl (lv_at hl 1 rfl) ?_
                      refine z_imul F dX7_pending_127 ?_
                      refine lv_iload_n F.1 F.2.1 dX7_pending_128 rfl (lv_at hl 2 rfl) ?_
                      refine z_iadd F dX7_pending_129 ?_
                      refine z_iconst F dX7_pending_130 ?_
                      refine z_isub F dX7_pending_131 ?_
                      have hx132 : 0 ≤ (((4 * ip) + wh) - 1) ∧ (((4 * ip) + wh) - 1) < ((164 : Nat) : Int) ∧ (((4 * ip) + wh) - 1) ≤ 2147483647 := ⟨by omega, by omega, by omega⟩
                      refine g_iald F hH r_94b hx132.1 hx132.2.1 hx132.2.2 dX7_pending_132 ?_
                      refine z_name (fun v_95 ev_95 => ?_)
                      have zv_95 : zr v_95 := by rw [ev_95]; exact zr_t _
                      exact g_iret F hr hlk hH hS hz zv_95 ⟨rfl, rfl, rfl, rfl, rfl, hv, nf, ⟨by (try dsimp only); exact i8, by (try dsimp only); exact i9, by (try dsimp only); exact i10⟩⟩ dX7_pending_133
                    · refine lv_aload_n F.1 F.2.1 dX7_pending_112 rfl (lv_at hl 0 rfl) ?_
                      obtain ⟨r_96a, r_96b⟩ : R mo 13 = some (gh 63 0) ∧ gAr g (gh 63 0) 9 41 := mR hv hm (q := (13, 41)) (by decide)
                      refine g_getR (ci := 7) (k := 13) F hH rfl (by decide) iX7 hm (by decide) rfl (b := gh 63 0) r_96a k36 dX7_pending_113 ?_
                      refine lv_iload_n F.1 F.2.1 dX7_pending_116 rfl (lv_at hl 1 rfl) ?_
                      have hx117 : 0 ≤ ip ∧ ip < ((41 : Nat) : Int) ∧ ip ≤ 2147483647 := ⟨by omega, by omega, by omega⟩
                      refine g_iald F hH r_96b hx117.1 hx117.2.1 hx117.2.2 dX7_pending_117 ?_
                      refine z_name (fun v_97 ev_97 => ?_)
                      have zv_97 : zr v_97 := by rw [ev_97]; exact zr_t _
                      refine z_goto (tgt := 133) F dX7_pending_118 (by decide) ?_
                      exact g_iret F hr hlk hH hS hz zv_97 ⟨rfl, rfl, rfl, rfl, rfl, hv, nf, ⟨by (try dsimp only); exact i8, by (try dsimp only); exact i9, by (try dsimp only); exact i10⟩⟩ dX7_pending_133
                  · refine lv_aload_n F.1 F.2.1 dX7_pending_98 rfl (lv_at hl 0 rfl) ?_
                    refine g_getR (ci := 7) (k := 11) F hH rfl (by decide) iX7 hm (by decide) rfl (b := gh 61 0) r_69a k30 dX7_pending_99 ?_
                    refine lv_iload_n F.1 F.2.1 dX7_pending_102 rfl (lv_at hl 1 rfl) ?_
                    have hx103 : 0 ≤ ip ∧ ip < ((41 : Nat) : Int) ∧ ip ≤ 2147483647 := ⟨by omega, by omega, by omega⟩
                    refine g_iald F hH r_69b hx103.1 hx103.2.1 hx103.2.2 dX7_pending_103 ?_
                    refine z_name (fun v_98 ev_98 => ?_)
                    have zv_98 : zr v_98 := by rw [ev_98]; exact zr_t _
                    refine z_goto (tgt := 133) F dX7_pending_104 (by decide) ?_
                    exact g_iret F hr hlk hH hS hz zv_98 ⟨rfl, rfl, rfl, rfl, rfl, hv, nf, ⟨by (try dsimp only); exact i8, by (try dsimp only); exact i9, by (try dsimp only); exact i10⟩⟩ dX7_pending_133
                · refine z_iconst F dX7_pending_92 ?_
                  exact g_iret F hr hlk hH hS hz ⟨by decide, by decide⟩ ⟨rfl, rfl, rfl, rfl, rfl, hv, nf, ⟨by (try dsimp only); exact i8, by (try dsimp only); exact i9, by (try dsimp only); exact i10⟩⟩ dX7_pending_93
      · refine lv_aload_n F.1 F.2.1 dX7_pending_30 rfl (lv_at hl 0 rfl) ?_
        refine g_getI (ci := 7) (k := 14) F hH rfl (by decide) iX7 hm (by decide) rfl k266 dX7_pending_31 ?_
        have b_99 := mJ hv hm
        unfold mNum1 at b_99
        exact g_iret F hr hlk hH hS hz (zr_t _) ⟨rfl, rfl, rfl, rfl, rfl, hv, nf, ⟨by (try dsimp only); exact i8, by (try dsimp only); exact i9, by (try dsimp only); exact i10⟩⟩ dX7_pending_34
  · refine z_iconst F dX7_pending_10 ?_
    refine z_goto (tgt := 15) F dX7_pending_11 (by decide) ?_
    refine g_putI (ci := 7) (k := 17) F hH hS rfl (by decide) iX7 hm (by decide) tyX7 tyX7_ok nmX7 rfl rfl rfl k60 dX7_pending_15 (fun H locs hH hS => ?_)
    obtain ⟨I_100, eI_100⟩ : ∃ qQ, qQ = gup2 I mo 17 (iI (0)) := ⟨_, rfl⟩
    rw [← eI_100] at hH
    have kI_100 : ∀ b, b ≠ mo → I_100 b = I b := fun b hb => by rw [eI_100]; exact funext fun j => gup2_a _ _ hb
    have w_101 : (I_100 mo 17).toInt = 0 := by rw [eI_100, gup2_s]; exact iI_val ⟨by decide, by decide⟩
    have hv : mInv g gh R I_100 AI := by rw [eI_100]; exact mP17 hv hm
    have nf : nF mo I I_100 := nF_t nf (by rw [eI_100]; exact nF_p (by decide))
    have u_102_2 : (I_100 mo 2).toInt = (I mo 2).toInt := by rw [nf 2 (by decide) (by decide) (by decide) (by decide) (by decide)]
    have u_102_5 : (I_100 mo 5).toInt = (I mo 5).toInt := by rw [nf 5 (by decide) (by decide) (by decide) (by decide) (by decide)]
    have u_102_14 : (I_100 mo 14).toInt = (I mo 14).toInt := by rw [nf 14 (by decide) (by decide) (by decide) (by decide) (by decide)]
    have u_102_16 : (I_100 mo 16).toInt = (I mo 16).toInt := by rw [nf 16 (by decide) (by decide) (by decide) (by decide) (by decide)]
    have u_102_24 : (I_100 mo 24).toInt = (I mo 24).toInt := by rw [nf 24 (by decide) (by decide) (by decide) (by decide) (by decide)]
    have i8 : I_100 mo 8 = I mo 8 := (show I_100 mo 8 = I mo 8 by rw [eI_100, gup2_k _ _ (by decide)]).trans i8
    have i9 : I_100 mo 9 = I mo 9 := (show I_100 mo 9 = I mo 9 by rw [eI_100, gup2_k _ _ (by decide)]).trans i9
    have i10 : I_100 mo 10 = I mo 10 := (show I_100 mo 10 = I mo 10 by rw [eI_100, gup2_k _ _ (by decide)]).trans i10
    refine lv_aload_n F.1 F.2.1 dX7_pending_18 rfl (lv_at hl 0 rfl) ?_
    refine g_getI (ci := 7) (k := 17) F hH rfl (by decide) iX7 hm (by decide) rfl k60 dX7_pending_19 ?_
    refine z_if_ne (tgt := 35) F dX7_pending_22 (by decide) (zr_t _) (fun c_103 => ?_) (fun c_103 => ?_)
    · refine lv_aload_n F.1 F.2.1 dX7_pending_35 rfl (lv_at hl 0 rfl) ?_
      refine g_getI (ci := 7) (k := 17) F hH rfl (by decide) iX7 hm (by decide) rfl k60 dX7_pending_36 ?_
      refine z_if_ne (tgt := 84) F dX7_pending_39 (by decide) (zr_t _) (fun c_104 => ?_) (fun c_104 => ?_)
      · refine lv_aload_n F.1 F.2.1 dX7_pending_84 rfl (lv_at hl 0 rfl) ?_
        refine g_getI (ci := 7) (k := 17) F hH rfl (by decide) iX7 hm (by decide) rfl k60 dX7_pending_85 ?_
        refine z_iconst F dX7_pending_88 ?_
        refine z_icmp_ne (tgt := 94) F dX7_pending_89 (by decide) (zr_t _) ⟨by decide, by decide⟩ (fun c_105 => ?_) (fun c_105 => ?_)
        · refine lv_iload_n F.1 F.2.1 dX7_pending_94 rfl (lv_at hl 2 rfl) ?_
          refine z_if_ne (tgt := 107) F dX7_pending_95 (by decide) zwh (fun c_106 => ?_) (fun c_106 => ?_)
          · refine lv_iload_n F.1 F.2.1 dX7_pending_107 rfl (lv_at hl 2 rfl) ?_
            refine z_iconst F dX7_pending_108 ?_
            refine z_icmp_ne (tgt := 121) F dX7_pending_109 (by decide) zwh ⟨by decide, by decide⟩ (fun c_107 => ?_) (fun c_107 => ?_)
            · refine lv_aload_n F.1 F.2.1 dX7_pending_121 rfl (lv_at hl 0 rfl) ?_
              obtain ⟨r_108a, r_108b⟩ : R mo 12 = some (gh 62 0) ∧ gAr g (gh 62 0) 9 164 := mR hv hm (q := (12, 164)) (by decide)
              refine g_getR (ci := 7) (k := 12) F hH rfl (by decide) iX7 hm (by decide) rfl (b := gh 62 0) r_108a k33 dX7_pending_122 ?_
              refine z_iconst F dX7_pending_125 ?_
              refine lv_iload_n F.1 F.2.1 dX7_pending_126 rfl (lv_at hl 1 rfl) ?_
              refine z_imul F dX7_pending_127 ?_
              refine lv_iload_n F.1 F.2.1 dX7_pending_128 rfl (lv_at hl 2 rfl) ?_
              refine z_iadd F dX7_pending_129 ?_
              refine z_iconst F dX7_pending_130 ?_
              refine z_isub F dX7_pending_131 ?_
              have hx132 : 0 ≤ (((4 * ip) + wh) - 1) ∧ (((4 * ip) + wh) - 1) < ((164 : Nat) : Int) ∧ (((4 * ip) + wh) - 1) ≤ 2147483647 := ⟨by omega, by omega, by omega⟩
              refine g_iald F hH r_108b hx132.1 hx132.2.1 hx132.2.2 dX7_pending_132 ?_
              refine z_name (fun v_109 ev_109 => ?_)
              have zv_109 : zr v_109 := by rw [ev_109]; exact zr_t _
              exact g_iret F hr hlk hH hS hz zv_109 ⟨rfl, rfl, rfl, rfl, rfl, hv, nf, ⟨by (try dsimp only); exact i8, by (try dsimp only); exact i9, by (try dsimp only); exact i10⟩⟩ dX7_pending_133
            · refine lv_aload_n F.1 F.2.1 dX7_pending_112 rfl (lv_at hl 0 rfl) ?_
              obtain ⟨r_110a, r_110b⟩ : R mo 13 = some (gh 63 0) ∧ gAr g (gh 63 0) 9 41 := mR hv hm (q := (13, 41)) (by decide)
              refine g_getR (ci := 7) (k := 13) F hH rfl (by decide) iX7 hm (by decide) rfl (b := gh 63 0) r_110a k36 dX7_pending_113 ?_
              refine lv_iload_n F.1 F.2.1 dX7_pending_116 rfl (lv_at hl 1 rfl) ?_
              have hx117 : 0 ≤ ip ∧ ip < ((41 : Nat) : Int) ∧ ip ≤ 2147483647 := ⟨by omega, by omega, by omega⟩
              refine g_iald F hH r_110b hx117.1 hx117.2.1 hx117.2.2 dX7_pending_117 ?_
              refine z_name (fun v_111 ev_111 => ?_)
              have zv_111 : zr v_111 := by rw [ev_111]; exact zr_t _
              refine z_goto (tgt := 133) F dX7_pending_118 (by decide) ?_
              exact g_iret F hr hlk hH hS hz zv_111 ⟨rfl, rfl, rfl, rfl, rfl, hv, nf, ⟨by (try dsimp only); exact i8, by (try dsimp only); exact i9, by (try dsimp only); exact i10⟩⟩ dX7_pending_133
          · refine lv_aload_n F.1 F.2.1 dX7_pending_98 rfl (lv_at hl 0 rfl) ?_
            obtain ⟨r_112a, r_112b⟩ : R mo 11 = some (gh 61 0) ∧ gAr g (gh 61 0) 9 41 := mR hv hm (q := (11, 41)) (by decide)
            refine g_getR (ci := 7) (k := 11) F hH rfl (by decide) iX7 hm (by decide) rfl (b := gh 61 0) r_112a k30 dX7_pending_99 ?_
            refine lv_iload_n F.1 F.2.1 dX7_pending_102 rfl (lv_at hl 1 rfl) ?_
            have hx103 : 0 ≤ ip ∧ ip < ((41 : Nat) : Int) ∧ ip ≤ 2147483647 := ⟨by omega, by omega, by omega⟩
            refine g_iald F hH r_112b hx103.1 hx103.2.1 hx103.2.2 dX7_pending_103 ?_
            refine z_name (fun v_113 ev_113 => ?_)
            have zv_113 : zr v_113 := by rw [ev_113]; exact zr_t _
            refine z_goto (tgt := 133) F dX7_pending_104 (by decide) ?_
            exact g_iret F hr hlk hH hS hz zv_113 ⟨rfl, rfl, rfl, rfl, rfl, hv, nf, ⟨by (try dsimp only); exact i8, by (try dsimp only); exact i9, by (try dsimp only); exact i10⟩⟩ dX7_pending_133
        · refine z_iconst F dX7_pending_92 ?_
          exact g_iret F hr hlk hH hS hz ⟨by decide, by decide⟩ ⟨rfl, rfl, rfl, rfl, rfl, hv, nf, ⟨by (try dsimp only); exact i8, by (try dsimp only); exact i9, by (try dsimp only); exact i10⟩⟩ dX7_pending_93
      · exact absurd trivial (by omega)
    · refine lv_iload_n F.1 F.2.1 dX7_pending_25 rfl (lv_at hl 1 rfl) ?_
      refine z_iconst F dX7_pending_26 ?_
      refine z_icmp_ne (tgt := 35) F dX7_pending_27 (by decide) zip ⟨by decide, by decide⟩ (fun c_114 => ?_) (fun c_114 => ?_)
      · refine lv_aload_n F.1 F.2.1 dX7_pending_35 rfl (lv_at hl 0 rfl) ?_
        refine g_getI (ci := 7) (k := 17) F hH rfl (by decide) iX7 hm (by decide) rfl k60 dX7_pending_36 ?_
        refine z_if_ne (tgt := 84) F dX7_pending_39 (by decide) (zr_t _) (fun c_115 => ?_) (fun c_115 => ?_)
        · exact absurd trivial (by omega)
        · refine lv_iload_n F.1 F.2.1 dX7_pending_42 rfl (lv_at hl 1 rfl) ?_
          refine z_iconst F dX7_pending_43 ?_
          refine lv_aload_n F.1 F.2.1 dX7_pending_44 rfl (lv_at hl 0 rfl) ?_
          refine g_getI (ci := 7) (k := 14) F hH rfl (by decide) iX7 hm (by decide) rfl k266 dX7_pending_45 ?_
          have b_116 := mJ hv hm
          unfold mNum1 at b_116
          refine z_iconst F dX7_pending_48 ?_
          refine z_isub F dX7_pending_49 ?_
          refine g_calli (g_runS (As := [.int (iI ip), .int (iI 0), .int (iI (((I_100 mo 14).toInt) - 1))]) (rest := []) F hl.1 hH hS hz (c_X7_within l g  I_100 R J AI AJ AR ip 0 (((I_100 mo 14).toInt) - 1) zip ⟨by decide, by decide⟩ ⟨by omega, by omega⟩) (va_cwS 3 F.2.2.2.2.1 (good_up gT_X7_within) rfl rfl rfl hdX7_within.2 ⟨Nat.le_of_ble_eq_true rfl, Nat.le_of_ble_eq_true rfl⟩) rfl rfl (Nat.le_of_ble_eq_true rfl) dX7_pending_50 ⟨Nat.zero_le _, Nat.zero_le _⟩) hS (fun v_123 I_117 R_118 J_119 AI_120 AJ_121 AR_122 H locs zv_123 hp_124 hH hS => ?_)
          dsimp only at hp_124
          obtain ⟨rfl, rfl, rfl, rfl, rfl, rfl, q_125⟩ := hp_124
          refine z_if_eq (tgt := 79) F dX7_pending_53 (by decide) zv_123 (fun c_126 => ?_) (fun c_126 => ?_)
          · refine lv_aload_n F.1 F.2.1 dX7_pending_79 rfl (lv_at hl 0 rfl) ?_
            refine z_iconst F dX7_pending_80 ?_
            refine g_putI (ci := 7) (k := 17) F hH hS rfl (by decide) iX7 hm (by decide) tyX7 tyX7_ok nmX7 rfl rfl rfl k60 dX7_pending_81 (fun H locs hH hS => ?_)
            obtain ⟨I_127, eI_127⟩ : ∃ qQ, qQ = gup2 I_100 mo 17 (iI (1)) := ⟨_, rfl⟩
            rw [← eI_127] at hH
            have kI_127 : ∀ b, b ≠ mo → I_127 b = I_100 b := fun b hb => by rw [eI_127]; exact funext fun j => gup2_a _ _ hb
            have w_128 : (I_127 mo 17).toInt = 1 := by rw [eI_127, gup2_s]; exact iI_val ⟨by decide, by decide⟩
            have hv : mInv g gh R I_127 AI := by rw [eI_127]; exact mP17 hv hm
            have nf : nF mo I I_127 := nF_t nf (by rw [eI_127]; exact nF_p (by decide))
            have u_129_2 : (I_127 mo 2).toInt = (I mo 2).toInt := by rw [nf 2 (by decide) (by decide) (by decide) (by decide) (by decide)]
            have u_129_5 : (I_127 mo 5).toInt = (I mo 5).toInt := by rw [nf 5 (by decide) (by decide) (by decide) (by decide) (by decide)]
            have u_129_14 : (I_127 mo 14).toInt = (I mo 14).toInt := by rw [nf 14 (by decide) (by decide) (by decide) (by decide) (by decide)]
            have u_129_16 : (I_127 mo 16).toInt = (I mo 16).toInt := by rw [nf 16 (by decide) (by decide) (by decide) (by decide) (by decide)]
            have u_129_24 : (I_127 mo 24).toInt = (I mo 24).toInt := by rw [nf 24 (by decide) (by decide) (by decide) (by decide) (by decide)]
            have i8 : I_127 mo 8 = I mo 8 := (show I_127 mo 8 = I_100 mo 8 by rw [eI_127, gup2_k _ _ (by decide)]).trans i8
            have i9 : I_127 mo 9 = I mo 9 := (show I_127 mo 9 = I_100 mo 9 by rw [eI_127, gup2_k _ _ (by decide)]).trans i9
            have i10 : I_127 mo 10 = I mo 10 := (show I_127 mo 10 = I_100 mo 10 by rw [eI_127, gup2_k _ _ (by decide)]).trans i10
            refine lv_aload_n F.1 F.2.1 dX7_pending_84 rfl (lv_at hl 0 rfl) ?_
            refine g_getI (ci := 7) (k := 17) F hH rfl (by decide) iX7 hm (by decide) rfl k60 dX7_pending_85 ?_
            refine z_iconst F dX7_pending_88 ?_
            refine z_icmp_ne (tgt := 94) F dX7_pending_89 (by decide) (zr_t _) ⟨by decide, by decide⟩ (fun c_130 => ?_) (fun c_130 => ?_)
            · refine lv_iload_n F.1 F.2.1 dX7_pending_94 rfl (lv_at hl 2 rfl) ?_
              refine z_if_ne (tgt := 107) F dX7_pending_95 (by decide) zwh (fun c_131 => ?_) (fun c_131 => ?_)
              · refine lv_iload_n F.1 F.2.1 dX7_pending_107 rfl (lv_at hl 2 rfl) ?_
                refine z_iconst F dX7_pending_108 ?_
                refine z_icmp_ne (tgt := 121) F dX7_pending_109 (by decide) zwh ⟨by decide, by decide⟩ (fun c_132 => ?_) (fun c_132 => ?_)
                · refine lv_aload_n F.1 F.2.1 dX7_pending_121 rfl (lv_at hl 0 rfl) ?_
                  obtain ⟨r_133a, r_133b⟩ : R mo 12 = some (gh 62 0) ∧ gAr g (gh 62 0) 9 164 := mR hv hm (q := (12, 164)) (by decide)
                  refine g_getR (ci := 7) (k := 12) F hH rfl (by decide) iX7 hm (by decide) rfl (b := gh 62 0) r_133a k33 dX7_pending_122 ?_
                  refine z_iconst F dX7_pending_125 ?_
                  refine lv_iload_n F.1 F.2.1 dX7_pending_126 rfl (lv_at hl 1 rfl) ?_
                  refine z_imul F dX7_pending_127 ?_
                  refine lv_iload_n F.1 F.2.1 dX7_pending_128 rfl (lv_at hl 2 rfl) ?_
                  refine z_iadd F dX7_pending_129 ?_
                  refine z_iconst F dX7_pending_130 ?_
                  refine z_isub F dX7_pending_131 ?_
                  have hx132 : 0 ≤ (((4 * ip) + wh) - 1) ∧ (((4 * ip) + wh) - 1) < ((164 : Nat) : Int) ∧ (((4 * ip) + wh) - 1) ≤ 2147483647 := ⟨by omega, by omega, by omega⟩
                  refine g_iald F hH r_133b hx132.1 hx132.2.1 hx132.2.2 dX7_pending_132 ?_
                  refine z_name (fun v_134 ev_134 => ?_)
                  have zv_134 : zr v_134 := by rw [ev_134]; exact zr_t _
                  exact g_iret F hr hlk hH hS hz zv_134 ⟨rfl, rfl, rfl, rfl, rfl, hv, nf, ⟨by (try dsimp only); exact i8, by (try dsimp only); exact i9, by (try dsimp only); exact i10⟩⟩ dX7_pending_133
                · refine lv_aload_n F.1 F.2.1 dX7_pending_112 rfl (lv_at hl 0 rfl) ?_
                  obtain ⟨r_135a, r_135b⟩ : R mo 13 = some (gh 63 0) ∧ gAr g (gh 63 0) 9 41 := mR hv hm (q := (13, 41)) (by decide)
                  refine g_getR (ci := 7) (k := 13) F hH rfl (by decide) iX7 hm (by decide) rfl (b := gh 63 0) r_135a k36 dX7_pending_113 ?_
                  refine lv_iload_n F.1 F.2.1 dX7_pending_116 rfl (lv_at hl 1 rfl) ?_
                  have hx117 : 0 ≤ ip ∧ ip < ((41 : Nat) : Int) ∧ ip ≤ 2147483647 := ⟨by omega, by omega, by omega⟩
                  refine g_iald F hH r_135b hx117.1 hx117.2.1 hx117.2.2 dX7_pending_117 ?_
                  refine z_name (fun v_136 ev_136 => ?_)
                  have zv_136 : zr v_136 := by rw [ev_136]; exact zr_t _
                  refine z_goto (tgt := 133) F dX7_pending_118 (by decide) ?_
                  exact g_iret F hr hlk hH hS hz zv_136 ⟨rfl, rfl, rfl, rfl, rfl, hv, nf, ⟨by (try dsimp only); exact i8, by (try dsimp only); exact i9, by (try dsimp only); exact i10⟩⟩ dX7_pending_133
              · refine lv_aload_n F.1 F.2.1 dX7_pending_98 rfl (lv_at hl 0 rfl) ?_
                obtain ⟨r_137a, r_137b⟩ : R mo 11 = some (gh 61 0) ∧ gAr g (gh 61 0) 9 41 := mR hv hm (q := (11, 41)) (by decide)
                refine g_getR (ci := 7) (k := 11) F hH rfl (by decide) iX7 hm (by decide) rfl (b := gh 61 0) r_137a k30 dX7_pending_99 ?_
                refine lv_iload_n F.1 F.2.1 dX7_pending_102 rfl (lv_at hl 1 rfl) ?_
                have hx103 : 0 ≤ ip ∧ ip < ((41 : Nat) : Int) ∧ ip ≤ 2147483647 := ⟨by omega, by omega, by omega⟩
                refine g_iald F hH r_137b hx103.1 hx103.2.1 hx103.2.2 dX7_pending_103 ?_
                refine z_name (fun v_138 ev_138 => ?_)
                have zv_138 : zr v_138 := by rw [ev_138]; exact zr_t _
                refine z_goto (tgt := 133) F dX7_pending_104 (by decide) ?_
                exact g_iret F hr hlk hH hS hz zv_138 ⟨rfl, rfl, rfl, rfl, rfl, hv, nf, ⟨by (try dsimp only); exact i8, by (try dsimp only); exact i9, by (try dsimp only); exact i10⟩⟩ dX7_pending_133
            · refine z_iconst F dX7_pending_92 ?_
              exact g_iret F hr hlk hH hS hz ⟨by decide, by decide⟩ ⟨rfl, rfl, rfl, rfl, rfl, hv, nf, ⟨by (try dsimp only); exact i8, by (try dsimp only); exact i9, by (try dsimp only); exact i10⟩⟩ dX7_pending_93
          · refine lv_iload_n F.1 F.2.1 dX7_pending_56 rfl (lv_at hl 2 rfl) ?_
            refine z_iconst F dX7_pending_57 ?_
            refine z_iconst F dX7_pending_58 ?_
            refine g_calli (g_runS (As := [.int (iI wh), .int (iI 1), .int (iI 4)]) (rest := []) F hl.1 hH hS hz (c_X7_within l g  I_100 R J AI AJ AR wh 1 4 zwh ⟨by decide, by decide⟩ ⟨by decide, by decide⟩) (va_cwS 3 F.2.2.2.2.1 (good_up gT_X7_within) rfl rfl rfl hdX7_within.2 ⟨Nat.le_of_ble_eq_true rfl, Nat.le_of_ble_eq_true rfl⟩) rfl rfl (Nat.le_of_ble_eq_true rfl) dX7_pending_59 ⟨Nat.zero_le _, Nat.zero_le _⟩) hS (fun v_145 I_139 R_140 J_141 AI_142 AJ_143 AR_144 H locs zv_145 hp_146 hH hS => ?_)
            dsimp only at hp_146
            obtain ⟨rfl, rfl, rfl, rfl, rfl, rfl, q_147⟩ := hp_146
            refine z_if_eq (tgt := 84) F dX7_pending_62 (by decide) zv_145 (fun c_148 => ?_) (fun c_148 => ?_)
            · refine lv_aload_n F.1 F.2.1 dX7_pending_84 rfl (lv_at hl 0 rfl) ?_
              refine g_getI (ci := 7) (k := 17) F hH rfl (by decide) iX7 hm (by decide) rfl k60 dX7_pending_85 ?_
              refine z_iconst F dX7_pending_88 ?_
              refine z_icmp_ne (tgt := 94) F dX7_pending_89 (by decide) (zr_t _) ⟨by decide, by decide⟩ (fun c_149 => ?_) (fun c_149 => ?_)
              · refine lv_iload_n F.1 F.2.1 dX7_pending_94 rfl (lv_at hl 2 rfl) ?_
                refine z_if_ne (tgt := 107) F dX7_pending_95 (by decide) zwh (fun c_150 => ?_) (fun c_150 => ?_)
                · refine lv_iload_n F.1 F.2.1 dX7_pending_107 rfl (lv_at hl 2 rfl) ?_
                  refine z_iconst F dX7_pending_108 ?_
                  refine z_icmp_ne (tgt := 121) F dX7_pending_109 (by decide) zwh ⟨by decide, by decide⟩ (fun c_151 => ?_) (fun c_151 => ?_)
                  · refine lv_aload_n F.1 F.2.1 dX7_pending_121 rfl (lv_at hl 0 rfl) ?_
                    obtain ⟨r_152a, r_152b⟩ : R mo 12 = some (gh 62 0) ∧ gAr g (gh 62 0) 9 164 := mR hv hm (q := (12, 164)) (by decide)
                    refine g_getR (ci := 7) (k := 12) F hH rfl (by decide) iX7 hm (by decide) rfl (b := gh 62 0) r_152a k33 dX7_pending_122 ?_
                    refine z_iconst F dX7_pending_125 ?_
                    refine lv_iload_n F.1 F.2.1 dX7_pending_126 rfl (lv_at hl 1 rfl) ?_
                    refine z_imul F dX7_pending_127 ?_
                    refine lv_iload_n F.1 F.2.1 dX7_pending_128 rfl (lv_at hl 2 rfl) ?_
                    refine z_iadd F dX7_pending_129 ?_
                    refine z_iconst F dX7_pending_130 ?_
                    refine z_isub F dX7_pending_131 ?_
                    have hx132 : 0 ≤ (((4 * ip) + wh) - 1) ∧ (((4 * ip) + wh) - 1) < ((164 : Nat) : Int) ∧ (((4 * ip) + wh) - 1) ≤ 2147483647 := ⟨by omega, by omega, by omega⟩
                    refine g_iald F hH r_152b hx132.1 hx132.2.1 hx132.2.2 dX7_pending_132 ?_
                    refine z_name (fun v_153 ev_153 => ?_)
                    have zv_153 : zr v_153 := by rw [ev_153]; exact zr_t _
                    exact g_iret F hr hlk hH hS hz zv_153 ⟨rfl, rfl, rfl, rfl, rfl, hv, nf, ⟨by (try dsimp only); exact i8, by (try dsimp only); exact i9, by (try dsimp only); exact i10⟩⟩ dX7_pending_133
                  · refine lv_aload_n F.1 F.2.1 dX7_pending_112 rfl (lv_at hl 0 rfl) ?_
                    obtain ⟨r_154a, r_154b⟩ : R mo 13 = some (gh 63 0) ∧ gAr g (gh 63 0) 9 41 := mR hv hm (q := (13, 41)) (by decide)
                    refine g_getR (ci := 7) (k := 13) F hH rfl (by decide) iX7 hm (by decide) rfl (b := gh 63 0) r_154a k36 dX7_pending_113 ?_
                    refine lv_iload_n F.1 F.2.1 dX7_pending_116 rfl (lv_at hl 1 rfl) ?_
                    have hx117 : 0 ≤ ip ∧ ip < ((41 : Nat) : Int) ∧ ip ≤ 2147483647 := ⟨by omega, by omega, by omega⟩
                    refine g_iald F hH r_154b hx117.1 hx117.2.1 hx117.2.2 dX7_pending_117 ?_
                    refine z_name (fun v_155 ev_155 => ?_)
                    have zv_155 : zr v_155 := by rw [ev_155]; exact zr_t _
                    refine z_goto (tgt := 133) F dX7_pending_118 (by decide) ?_
                    exact g_iret F hr hlk hH hS hz zv_155 ⟨rfl, rfl, rfl, rfl, rfl, hv, nf, ⟨by (try dsimp only); exact i8, by (try dsimp only); exact i9, by (try dsimp only); exact i10⟩⟩ dX7_pending_133
                · refine lv_aload_n F.1 F.2.1 dX7_pending_98 rfl (lv_at hl 0 rfl) ?_
                  obtain ⟨r_156a, r_156b⟩ : R mo 11 = some (gh 61 0) ∧ gAr g (gh 61 0) 9 41 := mR hv hm (q := (11, 41)) (by decide)
                  refine g_getR (ci := 7) (k := 11) F hH rfl (by decide) iX7 hm (by decide) rfl (b := gh 61 0) r_156a k30 dX7_pending_99 ?_
                  refine lv_iload_n F.1 F.2.1 dX7_pending_102 rfl (lv_at hl 1 rfl) ?_
                  have hx103 : 0 ≤ ip ∧ ip < ((41 : Nat) : Int) ∧ ip ≤ 2147483647 := ⟨by omega, by omega, by omega⟩
                  refine g_iald F hH r_156b hx103.1 hx103.2.1 hx103.2.2 dX7_pending_103 ?_
                  refine z_name (fun v_157 ev_157 => ?_)
                  have zv_157 : zr v_157 := by rw [ev_157]; exact zr_t _
                  refine z_goto (tgt := 133) F dX7_pending_104 (by decide) ?_
                  exact g_iret F hr hlk hH hS hz zv_157 ⟨rfl, rfl, rfl, rfl, rfl, hv, nf, ⟨by (try dsimp only); exact i8, by (try dsimp only); exact i9, by (try dsimp only); exact i10⟩⟩ dX7_pending_133
              · refine z_iconst F dX7_pending_92 ?_
                exact g_iret F hr hlk hH hS hz ⟨by decide, by decide⟩ ⟨rfl, rfl, rfl, rfl, rfl, hv, nf, ⟨by (try dsimp only); exact i8, by (try dsimp only); exact i9, by (try dsimp only); exact i10⟩⟩ dX7_pending_93
            · refine lv_iload_n F.1 F.2.1 dX7_pending_65 rfl (lv_at hl 2 rfl) ?_
              refine lv_aload_n F.1 F.2.1 dX7_pending_66 rfl (lv_at hl 0 rfl) ?_
              refine lv_aload_n F.1 F.2.1 dX7_pending_67 rfl (lv_at hl 0 rfl) ?_
              obtain ⟨r_158a, r_158b⟩ : R mo 11 = some (gh 61 0) ∧ gAr g (gh 61 0) 9 41 := mR hv hm (q := (11, 41)) (by decide)
              refine g_getR (ci := 7) (k := 11) F hH rfl (by decide) iX7 hm (by decide) rfl (b := gh 61 0) r_158a k30 dX7_pending_68 ?_
              refine lv_iload_n F.1 F.2.1 dX7_pending_71 rfl (lv_at hl 1 rfl) ?_
              have hx72 : 0 ≤ ip ∧ ip < ((41 : Nat) : Int) ∧ ip ≤ 2147483647 := ⟨by omega, by omega, by omega⟩
              refine g_iald F hH r_158b hx72.1 hx72.2.1 hx72.2.2 dX7_pending_72 ?_
              have q72 := mCt hv hm (z := ip) (by omega) (by omega)
              refine g_calli (g_runV (As := [.int (iI ((AI (gh 61 0) (ip).toNat).toInt))]) (rest := [.int (iI wh)]) (ci := 7) F hl.1 hH hS hz (c_X7_columnsOf l g gh T I_100 R J AI AJ AR mo ((AI (gh 61 0) (ip).toNat).toInt) (zr_t _) hv hm hT (by omega)) (cwV 1 F.2.2.2.2.1 (good_up gT_X7_columnsOf) rfl rfl rfl hdX7_columnsOf ⟨Nat.le_of_ble_eq_true rfl, Nat.le_of_ble_eq_true rfl⟩) hm (by decide) rfl rfl rfl (Nat.le_of_ble_eq_true rfl) dX7_pending_73 ⟨Nat.zero_le _, Nat.zero_le _⟩) hS (fun v_165 I_159 R_160 J_161 AI_162 AJ_163 AR_164 H locs zv_165 hp_166 hH hS => ?_)
              dsimp only at hp_166
              obtain ⟨rfl, rfl, rfl, rfl, rfl, rfl, q_167⟩ := hp_166
              refine z_icmp_le (tgt := 84) F dX7_pending_76 (by decide) zwh zv_165 (fun c_168 => ?_) (fun c_168 => ?_)
              · refine lv_aload_n F.1 F.2.1 dX7_pending_84 rfl (lv_at hl 0 rfl) ?_
                refine g_getI (ci := 7) (k := 17) F hH rfl (by decide) iX7 hm (by decide) rfl k60 dX7_pending_85 ?_
                refine z_iconst F dX7_pending_88 ?_
                refine z_icmp_ne (tgt := 94) F dX7_pending_89 (by decide) (zr_t _) ⟨by decide, by decide⟩ (fun c_169 => ?_) (fun c_169 => ?_)
                · refine lv_iload_n F.1 F.2.1 dX7_pending_94 rfl (lv_at hl 2 rfl) ?_
                  refine z_if_ne (tgt := 107) F dX7_pending_95 (by decide) zwh (fun c_170 => ?_) (fun c_170 => ?_)
                  · refine lv_iload_n F.1 F.2.1 dX7_pending_107 rfl (lv_at hl 2 rfl) ?_
                    refine z_iconst F dX7_pending_108 ?_
                    refine z_icmp_ne (tgt := 121) F dX7_pending_109 (by decide) zwh ⟨by decide, by decide⟩ (fun c_171 => ?_) (fun c_171 => ?_)
                    · refine lv_aload_n F.1 F.2.1 dX7_pending_121 rfl (lv_at hl 0 rfl) ?_
                      obtain ⟨r_172a, r_172b⟩ : R mo 12 = some (gh 62 0) ∧ gAr g (gh 62 0) 9 164 := mR hv hm (q := (12, 164)) (by decide)
                      refine g_getR (ci := 7) (k := 12) F hH rfl (by decide) iX7 hm (by decide) rfl (b := gh 62 0) r_172a k33 dX7_pending_122 ?_
                      refine z_iconst F dX7_pending_125 ?_
                      refine lv_iload_n F.1 F.2.1 dX7_pending_126 rfl (lv_at hl 1 rfl) ?_
                      refine z_imul F dX7_pending_127 ?_
                      refine lv_iload_n F.1 F.2.1 dX7_pending_128 rfl (lv_at hl 2 rfl) ?_
                      refine z_iadd F dX7_pending_129 ?_
                      refine z_iconst F dX7_pending_130 ?_
                      refine z_isub F dX7_pending_131 ?_
                      have hx132 : 0 ≤ (((4 * ip) + wh) - 1) ∧ (((4 * ip) + wh) - 1) < ((164 : Nat) : Int) ∧ (((4 * ip) + wh) - 1) ≤ 2147483647 := ⟨by omega, by omega, by omega⟩
                      refine g_iald F hH r_172b hx132.1 hx132.2.1 hx132.2.2 dX7_pending_132 ?_
                      refine z_name (fun v_173 ev_173 => ?_)
                      have zv_173 : zr v_173 := by rw [ev_173]; exact zr_t _
                      exact g_iret F hr hlk hH hS hz zv_173 ⟨rfl, rfl, rfl, rfl, rfl, hv, nf, ⟨by (try dsimp only); exact i8, by (try dsimp only); exact i9, by (try dsimp only); exact i10⟩⟩ dX7_pending_133
                    · refine lv_aload_n F.1 F.2.1 dX7_pending_112 rfl (lv_at hl 0 rfl) ?_
                      obtain ⟨r_174a, r_174b⟩ : R mo 13 = some (gh 63 0) ∧ gAr g (gh 63 0) 9 41 := mR hv hm (q := (13, 41)) (by decide)
                      refine g_getR (ci := 7) (k := 13) F hH rfl (by decide) iX7 hm (by decide) rfl (b := gh 63 0) r_174a k36 dX7_pending_113 ?_
                      refine lv_iload_n F.1 F.2.1 dX7_pending_116 rfl (lv_at hl 1 rfl) ?_
                      have hx117 : 0 ≤ ip ∧ ip < ((41 : Nat) : Int) ∧ ip ≤ 2147483647 := ⟨by omega, by omega, by omega⟩
                      refine g_iald F hH r_174b hx117.1 hx117.2.1 hx117.2.2 dX7_pending_117 ?_
                      refine z_name (fun v_175 ev_175 => ?_)
                      have zv_175 : zr v_175 := by rw [ev_175]; exact zr_t _
                      refine z_goto (tgt := 133) F dX7_pending_118 (by decide) ?_
                      exact g_iret F hr hlk hH hS hz zv_175 ⟨rfl, rfl, rfl, rfl, rfl, hv, nf, ⟨by (try dsimp only); exact i8, by (try dsimp only); exact i9, by (try dsimp only); exact i10⟩⟩ dX7_pending_133
                  · refine lv_aload_n F.1 F.2.1 dX7_pending_98 rfl (lv_at hl 0 rfl) ?_
                    refine g_getR (ci := 7) (k := 11) F hH rfl (by decide) iX7 hm (by decide) rfl (b := gh 61 0) r_158a k30 dX7_pending_99 ?_
                    refine lv_iload_n F.1 F.2.1 dX7_pending_102 rfl (lv_at hl 1 rfl) ?_
                    have hx103 : 0 ≤ ip ∧ ip < ((41 : Nat) : Int) ∧ ip ≤ 2147483647 := ⟨by omega, by omega, by omega⟩
                    refine g_iald F hH r_158b hx103.1 hx103.2.1 hx103.2.2 dX7_pending_103 ?_
                    refine z_name (fun v_176 ev_176 => ?_)
                    have zv_176 : zr v_176 := by rw [ev_176]; exact zr_t _
                    refine z_goto (tgt := 133) F dX7_pending_104 (by decide) ?_
                    exact g_iret F hr hlk hH hS hz zv_176 ⟨rfl, rfl, rfl, rfl, rfl, hv, nf, ⟨by (try dsimp only); exact i8, by (try dsimp only); exact i9, by (try dsimp only); exact i10⟩⟩ dX7_pending_133
                · refine z_iconst F dX7_pending_92 ?_
                  exact g_iret F hr hlk hH hS hz ⟨by decide, by decide⟩ ⟨rfl, rfl, rfl, rfl, rfl, hv, nf, ⟨by (try dsimp only); exact i8, by (try dsimp only); exact i9, by (try dsimp only); exact i10⟩⟩ dX7_pending_93
              · refine lv_aload_n F.1 F.2.1 dX7_pending_79 rfl (lv_at hl 0 rfl) ?_
                refine z_iconst F dX7_pending_80 ?_
                refine g_putI (ci := 7) (k := 17) F hH hS rfl (by decide) iX7 hm (by decide) tyX7 tyX7_ok nmX7 rfl rfl rfl k60 dX7_pending_81 (fun H locs hH hS => ?_)
                obtain ⟨I_177, eI_177⟩ : ∃ qQ, qQ = gup2 I_100 mo 17 (iI (1)) := ⟨_, rfl⟩
                rw [← eI_177] at hH
                have kI_177 : ∀ b, b ≠ mo → I_177 b = I_100 b := fun b hb => by rw [eI_177]; exact funext fun j => gup2_a _ _ hb
                have w_178 : (I_177 mo 17).toInt = 1 := by rw [eI_177, gup2_s]; exact iI_val ⟨by decide, by decide⟩
                have hv : mInv g gh R I_177 AI := by rw [eI_177]; exact mP17 hv hm
                have nf : nF mo I I_177 := nF_t nf (by rw [eI_177]; exact nF_p (by decide))
                have u_179_2 : (I_177 mo 2).toInt = (I mo 2).toInt := by rw [nf 2 (by decide) (by decide) (by decide) (by decide) (by decide)]
                have u_179_5 : (I_177 mo 5).toInt = (I mo 5).toInt := by rw [nf 5 (by decide) (by decide) (by decide) (by decide) (by decide)]
                have u_179_14 : (I_177 mo 14).toInt = (I mo 14).toInt := by rw [nf 14 (by decide) (by decide) (by decide) (by decide) (by decide)]
                have u_179_16 : (I_177 mo 16).toInt = (I mo 16).toInt := by rw [nf 16 (by decide) (by decide) (by decide) (by decide) (by decide)]
                have u_179_24 : (I_177 mo 24).toInt = (I mo 24).toInt := by rw [nf 24 (by decide) (by decide) (by decide) (by decide) (by decide)]
                have i8 : I_177 mo 8 = I mo 8 := (show I_177 mo 8 = I_100 mo 8 by rw [eI_177, gup2_k _ _ (by decide)]).trans i8
                have i9 : I_177 mo 9 = I mo 9 := (show I_177 mo 9 = I_100 mo 9 by rw [eI_177, gup2_k _ _ (by decide)]).trans i9
                have i10 : I_177 mo 10 = I mo 10 := (show I_177 mo 10 = I_100 mo 10 by rw [eI_177, gup2_k _ _ (by decide)]).trans i10
                refine lv_aload_n F.1 F.2.1 dX7_pending_84 rfl (lv_at hl 0 rfl) ?_
                refine g_getI (ci := 7) (k := 17) F hH rfl (by decide) iX7 hm (by decide) rfl k60 dX7_pending_85 ?_
                refine z_iconst F dX7_pending_88 ?_
                refine z_icmp_ne (tgt := 94) F dX7_pending_89 (by decide) (zr_t _) ⟨by decide, by decide⟩ (fun c_180 => ?_) (fun c_180 => ?_)
                · refine lv_iload_n F.1 F.2.1 dX7_pending_94 rfl (lv_at hl 2 rfl) ?_
                  refine z_if_ne (tgt := 107) F dX7_pending_95 (by decide) zwh (fun c_181 => ?_) (fun c_181 => ?_)
                  · refine lv_iload_n F.1 F.2.1 dX7_pending_107 rfl (lv_at hl 2 rfl) ?_
                    refine z_iconst F dX7_pending_108 ?_
                    refine z_icmp_ne (tgt := 121) F dX7_pending_109 (by decide) zwh ⟨by decide, by decide⟩ (fun c_182 => ?_) (fun c_182 => ?_)
                    · refine lv_aload_n F.1 F.2.1 dX7_pending_121 rfl (lv_at hl 0 rfl) ?_
                      obtain ⟨r_183a, r_183b⟩ : R mo 12 = some (gh 62 0) ∧ gAr g (gh 62 0) 9 164 := mR hv hm (q := (12, 164)) (by decide)
                      refine g_getR (ci := 7) (k := 12) F hH rfl (by decide) iX7 hm (by decide) rfl (b := gh 62 0) r_183a k33 dX7_pending_122 ?_
                      refine z_iconst F dX7_pending_125 ?_
                      refine lv_iload_n F.1 F.2.1 dX7_pending_126 rfl (lv_at hl 1 rfl) ?_
                      refine z_imul F dX7_pending_127 ?_
                      refine lv_iload_n F.1 F.2.1 dX7_pending_128 rfl (lv_at hl 2 rfl) ?_
                      refine z_iadd F dX7_pending_129 ?_
                      refine z_iconst F dX7_pending_130 ?_
                      refine z_isub F dX7_pending_131 ?_
                      have hx132 : 0 ≤ (((4 * ip) + wh) - 1) ∧ (((4 * ip) + wh) - 1) < ((164 : Nat) : Int) ∧ (((4 * ip) + wh) - 1) ≤ 2147483647 := ⟨by omega, by omega, by omega⟩
                      refine g_iald F hH r_183b hx132.1 hx132.2.1 hx132.2.2 dX7_pending_132 ?_
                      refine z_name (fun v_184 ev_184 => ?_)
                      have zv_184 : zr v_184 := by rw [ev_184]; exact zr_t _
                      exact g_iret F hr hlk hH hS hz zv_184 ⟨rfl, rfl, rfl, rfl, rfl, hv, nf, ⟨by (try dsimp only); exact i8, by (try dsimp only); exact i9, by (try dsimp only); exact i10⟩⟩ dX7_pending_133
                    · refine lv_aload_n F.1 F.2.1 dX7_pending_112 rfl (lv_at hl 0 rfl) ?_
                      obtain ⟨r_185a, r_185b⟩ : R mo 13 = some (gh 63 0) ∧ gAr g (gh 63 0) 9 41 := mR hv hm (q := (13, 41)) (by decide)
                      refine g_getR (ci := 7) (k := 13) F hH rfl (by decide) iX7 hm (by decide) rfl (b := gh 63 0) r_185a k36 dX7_pending_113 ?_
                      refine lv_iload_n F.1 F.2.1 dX7_pending_116 rfl (lv_at hl 1 rfl) ?_
                      have hx117 : 0 ≤ ip ∧ ip < ((41 : Nat) : Int) ∧ ip ≤ 2147483647 := ⟨by omega, by omega, by omega⟩
                      refine g_iald F hH r_185b hx117.1 hx117.2.1 hx117.2.2 dX7_pending_117 ?_
                      refine z_name (fun v_186 ev_186 => ?_)
                      have zv_186 : zr v_186 := by rw [ev_186]; exact zr_t _
                      refine z_goto (tgt := 133) F dX7_pending_118 (by decide) ?_
                      exact g_iret F hr hlk hH hS hz zv_186 ⟨rfl, rfl, rfl, rfl, rfl, hv, nf, ⟨by (try dsimp only); exact i8, by (try dsimp only); exact i9, by (try dsimp only); exact i10⟩⟩ dX7_pending_133
                  · refine lv_aload_n F.1 F.2.1 dX7_pending_98 rfl (lv_at hl 0 rfl) ?_
                    refine g_getR (ci := 7) (k := 11) F hH rfl (by decide) iX7 hm (by decide) rfl (b := gh 61 0) r_158a k30 dX7_pending_99 ?_
                    refine lv_iload_n F.1 F.2.1 dX7_pending_102 rfl (lv_at hl 1 rfl) ?_
                    have hx103 : 0 ≤ ip ∧ ip < ((41 : Nat) : Int) ∧ ip ≤ 2147483647 := ⟨by omega, by omega, by omega⟩
                    refine g_iald F hH r_158b hx103.1 hx103.2.1 hx103.2.2 dX7_pending_103 ?_
                    refine z_name (fun v_187 ev_187 => ?_)
                    have zv_187 : zr v_187 := by rw [ev_187]; exact zr_t _
                    refine z_goto (tgt := 133) F dX7_pending_104 (by decide) ?_
                    exact g_iret F hr hlk hH hS hz zv_187 ⟨rfl, rfl, rfl, rfl, rfl, hv, nf, ⟨by (try dsimp only); exact i8, by (try dsimp only); exact i9, by (try dsimp only); exact i10⟩⟩ dX7_pending_133
                · refine z_iconst F dX7_pending_92 ?_
                  exact g_iret F hr hlk hH hS hz ⟨by decide, by decide⟩ ⟨rfl, rfl, rfl, rfl, rfl, hv, nf, ⟨by (try dsimp only); exact i8, by (try dsimp only); exact i9, by (try dsimp only); exact i10⟩⟩ dX7_pending_93
      · refine lv_aload_n F.1 F.2.1 dX7_pending_30 rfl (lv_at hl 0 rfl) ?_
        refine g_getI (ci := 7) (k := 14) F hH rfl (by decide) iX7 hm (by decide) rfl k266 dX7_pending_31 ?_
        have b_188 := mJ hv hm
        unfold mNum1 at b_188
        exact g_iret F hr hlk hH hS hz (zr_t _) ⟨rfl, rfl, rfl, rfl, rfl, hv, nf, ⟨by (try dsimp only); exact i8, by (try dsimp only); exact i9, by (try dsimp only); exact i10⟩⟩ dX7_pending_34

def rmX7_cancelg : Room := { frames := 0, cells := 0, slots := 0, locals := 0 }
set_option maxHeartbeats 4000000 in
set_option maxRecDepth 100000 in
/-- cancel -/
theorem c_X7_cancelg (l : Launch) (g : gG) (gh : gGh) (T : Nat → Int32) (I : gI) (R : gR) (J : gJ) (AI : gI) (AJ : gJ) (AR : gR) (mo : Nat) (hv : mInv g gh R I AI) (hm : gO g mo 7) (hT : AI (gh 50 0) = T) : gMet l g yX7_cancel tsX7_cancel rmX7_cancelg [.ref mo] (I, R, J, AI, AJ, AR) (gQi g (fun (z : Int) (w : gS) => R = w.2.1 ∧ J = w.2.2.1 ∧ AI = w.2.2.2.1 ∧ AJ = w.2.2.2.2.1 ∧ AR = w.2.2.2.2.2 ∧ (mInv g gh R (w.1) AI) ∧ (mF mo I (w.1)) ∧ (z = (I mo 14).toInt) ∧ (((w.1) mo 14).toInt = 0) ∧ ((w.1) mo 8 = I mo 8 ∧ (w.1) mo 9 = I mo 9 ∧ (w.1) mo 10 = I mo 10))) := by
  refine gStart (cc := cX7_cancel) (maxL := 2) (ret := (some (.int))) (by decide) rfl (Nat.le_of_ble_eq_true rfl) ?_
  intro p e s m below meth c ls F hr hlk hH hz hS hl
  have hl : lv_has ls 2 [(0, .ref mo)] := hl
  have hS : va_S (gA g) s.heap s.heap [] := hS
  obtain ⟨H, hHe⟩ : ∃ H : Heap, H = s.heap := ⟨_, rfl⟩
  obtain ⟨locs, hlo⟩ : ∃ k : List Loc, k = [] := ⟨_, rfl⟩
  have hH : gH g I R J AI AJ AR H := by rw [hHe]; exact hH
  have hS : va_S (gA g) s.heap H locs := by rw [hHe, hlo]; exact hS
  suffices hw : W p l e rmX7_cancelg s m ([.ref mo] : List Value).toArray below meth c H locs 0 0 (MQ below (gQi g (fun (z : Int) (w : gS) => R = w.2.1 ∧ J = w.2.2.1 ∧ AI = w.2.2.2.1 ∧ AJ = w.2.2.2.2.1 ∧ AR = w.2.2.2.2.2 ∧ (mInv g gh R (w.1) AI) ∧ (mF mo I (w.1)) ∧ (z = (I mo 14).toInt) ∧ (((w.1) mo 14).toInt = 0) ∧ ((w.1) mo 8 = I mo 8 ∧ (w.1) mo 9 = I mo 9 ∧ (w.1) mo 10 = I mo 10))) ([.ref mo] : List Value).toArray s 0 0 (gA g)) (F0 m 0 ls []) by
    rw [hHe, hlo] at hw; exact hw
  clear hHe hlo
  have mf : mF mo I I := mF_r
  have i8 : I mo 8 = I mo 8 := rfl
  have i9 : I mo 9 = I mo 9 := rfl
  have i10 : I mo 10 = I mo 10 := rfl
  have iX7 : ∀ w ∈ u_ws RX7 TX7 32, w ∈ tsX7_cancel := fun w h => List.mem_cons_of_mem _ (inTB7 w h)
  have k60 : Cond.fieldLink RX7 60 (TX7 17).1 (TX7 17).2.1 (TX7 17).2.2.1 ∈ tsX7_cancel := List.mem_cons_of_mem _ fl_60
  have k266 : Cond.fieldLink RX7 266 (TX7 14).1 (TX7 14).2.1 (TX7 14).2.2.1 ∈ tsX7_cancel := List.mem_cons_of_mem _ fl_266
  refine lv_aload_n F.1 F.2.1 dX7_cancel_0 rfl (lv_at hl 0 rfl) ?_
  refine z_iconst F dX7_cancel_1 ?_
  refine g_putI (ci := 7) (k := 17) F hH hS rfl (by decide) iX7 hm (by decide) tyX7 tyX7_ok nmX7 rfl rfl rfl k60 dX7_cancel_2 (fun H locs hH hS => ?_)
  obtain ⟨I_1, eI_1⟩ : ∃ qQ, qQ = gup2 I mo 17 (iI (0)) := ⟨_, rfl⟩
  rw [← eI_1] at hH
  have kI_1 : ∀ b, b ≠ mo → I_1 b = I b := fun b hb => by rw [eI_1]; exact funext fun j => gup2_a _ _ hb
  have w_2 : (I_1 mo 17).toInt = 0 := by rw [eI_1, gup2_s]; exact iI_val ⟨by decide, by decide⟩
  have hv : mInv g gh R I_1 AI := by rw [eI_1]; exact mP17 hv hm
  have mf : mF mo I I_1 := mF_t mf (by rw [eI_1]; exact mF_p (by decide))
  have u_3_2 : (I_1 mo 2).toInt = (I mo 2).toInt := by rw [mf 2 (by decide) (by decide) (by decide) (by decide) (by decide) (by decide)]
  have u_3_5 : (I_1 mo 5).toInt = (I mo 5).toInt := by rw [mf 5 (by decide) (by decide) (by decide) (by decide) (by decide) (by decide)]
  have u_3_16 : (I_1 mo 16).toInt = (I mo 16).toInt := by rw [mf 16 (by decide) (by decide) (by decide) (by decide) (by decide) (by decide)]
  have u_3_24 : (I_1 mo 24).toInt = (I mo 24).toInt := by rw [mf 24 (by decide) (by decide) (by decide) (by decide) (by decide) (by decide)]
  have w_2_k14 : (I_1 mo 14).toInt = (I mo 14).toInt := by rw [eI_1, gup2_k _ _ (by decide)]
  have i8 : I_1 mo 8 = I mo 8 := (show I_1 mo 8 = I mo 8 by rw [eI_1, gup2_k _ _ (by decide)]).trans i8
  have i9 : I_1 mo 9 = I mo 9 := (show I_1 mo 9 = I mo 9 by rw [eI_1, gup2_k _ _ (by decide)]).trans i9
  have i10 : I_1 mo 10 = I mo 10 := (show I_1 mo 10 = I mo 10 by rw [eI_1, gup2_k _ _ (by decide)]).trans i10
  refine lv_aload_n F.1 F.2.1 dX7_cancel_5 rfl (lv_at hl 0 rfl) ?_
  refine g_getI (ci := 7) (k := 14) F hH rfl (by decide) iX7 hm (by decide) rfl k266 dX7_cancel_6 ?_
  have b_4 := mJ hv hm
  unfold mNum1 at b_4
  refine lv_istore_n (lv' := [(1, .int (iI ((I_1 mo 14).toInt))), (0, .ref mo)]) F.1 F.2.1 dX7_cancel_9 rfl hl (by decide) rfl (fun ls hl => ?_)
  refine lv_aload_n F.1 F.2.1 dX7_cancel_10 rfl (lv_at hl 1 rfl) ?_
  refine z_iconst F dX7_cancel_11 ?_
  refine g_putI (ci := 7) (k := 14) F hH hS rfl (by decide) iX7 hm (by decide) tyX7 tyX7_ok nmX7 rfl rfl rfl k266 dX7_cancel_12 (fun H locs hH hS => ?_)
  obtain ⟨I_5, eI_5⟩ : ∃ qQ, qQ = gup2 I_1 mo 14 (iI (0)) := ⟨_, rfl⟩
  rw [← eI_5] at hH
  have kI_5 : ∀ b, b ≠ mo → I_5 b = I_1 b := fun b hb => by rw [eI_5]; exact funext fun j => gup2_a _ _ hb
  have w_6 : (I_5 mo 14).toInt = 0 := by rw [eI_5, gup2_s]; exact iI_val ⟨by decide, by decide⟩
  have hv : mInv g gh R I_5 AI := by rw [eI_5]; exact mP14 hv hm (by omega) (by omega)
  have mf : mF mo I I_5 := mF_t mf (by rw [eI_5]; exact mF_p (by decide))
  have u_7_2 : (I_5 mo 2).toInt = (I mo 2).toInt := by rw [mf 2 (by decide) (by decide) (by decide) (by decide) (by decide) (by decide)]
  have u_7_5 : (I_5 mo 5).toInt = (I mo 5).toInt := by rw [mf 5 (by decide) (by decide) (by decide) (by decide) (by decide) (by decide)]
  have u_7_16 : (I_5 mo 16).toInt = (I mo 16).toInt := by rw [mf 16 (by decide) (by decide) (by decide) (by decide) (by decide) (by decide)]
  have u_7_24 : (I_5 mo 24).toInt = (I mo 24).toInt := by rw [mf 24 (by decide) (by decide) (by decide) (by decide) (by decide) (by decide)]
  have i8 : I_5 mo 8 = I mo 8 := (show I_5 mo 8 = I_1 mo 8 by rw [eI_5, gup2_k _ _ (by decide)]).trans i8
  have i9 : I_5 mo 9 = I mo 9 := (show I_5 mo 9 = I_1 mo 9 by rw [eI_5, gup2_k _ _ (by decide)]).trans i9
  have i10 : I_5 mo 10 = I mo 10 := (show I_5 mo 10 = I_1 mo 10 by rw [eI_5, gup2_k _ _ (by decide)]).trans i10
  refine lv_iload_n F.1 F.2.1 dX7_cancel_15 rfl (lv_at hl 0 rfl) ?_
  exact g_iret F hr hlk hH hS hz (zr_t _) ⟨rfl, rfl, rfl, rfl, rfl, hv, mf, by first | omega | rfl | (dsimp only; omega), by first | omega | rfl | (dsimp only; omega), ⟨by (try dsimp only); exact i8, by (try dsimp only); exact i9, by (try dsimp only); exact i10⟩⟩ dX7_cancel_16

def rmX7_sizeg : Room := { frames := 2, cells := 0, slots := 0, locals := 43 }
set_option maxHeartbeats 4000000 in
set_option maxRecDepth 100000 in
/-- size -/
theorem c_X7_sizeg (l : Launch) (g : gG) (gh : gGh) (T : Nat → Int32) (nr : Nat) (I : gI) (R : gR) (J : gJ) (AI : gI) (AJ : gJ) (AR : gR) (mo : Nat) (rr : Int) (zrr : zr rr) (hv : mInv g gh R I AI) (hm : gO g mo 7) (hT : AI (gh 50 0) = T) (hmr : (I mo 2).toInt = (nr : Int)) : gMet l g yX7_size tsX7_size rmX7_sizeg [.ref mo, .int (iI rr)] (I, R, J, AI, AJ, AR) (gQi g (fun (z : Int) (w : gS) => R = w.2.1 ∧ J = w.2.2.1 ∧ AI = w.2.2.2.1 ∧ AJ = w.2.2.2.2.1 ∧ AR = w.2.2.2.2.2 ∧ (mInv g gh R (w.1) AI) ∧ (nF mo I (w.1)) ∧ (((rr < 0 ∨ (nr : Int) ≤ rr) ∧ z = -1) ∨ ((0 ≤ rr ∧ rr < (nr : Int)) ∧ z = (((rfM gh AI 0 rr.toNat).1 : Nat) : Int))) ∧ ((w.1) mo 8 = I mo 8 ∧ (w.1) mo 9 = I mo 9 ∧ (w.1) mo 10 = I mo 10))) := by
  refine gStart (cc := cX7_size) (maxL := 2) (ret := (some (.int))) (by decide) rfl (Nat.le_of_ble_eq_true rfl) ?_
  intro p e s m below meth c ls F hr hlk hH hz hS hl
  have hl : lv_has ls 2 [(0, .ref mo), (1, .int (iI rr))] := hl
  have hS : va_S (gA g) s.heap s.heap [] := hS
  obtain ⟨H, hHe⟩ : ∃ H : Heap, H = s.heap := ⟨_, rfl⟩
  obtain ⟨locs, hlo⟩ : ∃ k : List Loc, k = [] := ⟨_, rfl⟩
  have hH : gH g I R J AI AJ AR H := by rw [hHe]; exact hH
  have hS : va_S (gA g) s.heap H locs := by rw [hHe, hlo]; exact hS
  suffices hw : W p l e rmX7_sizeg s m ([.ref mo, .int (iI rr)] : List Value).toArray below meth c H locs 0 0 (MQ below (gQi g (fun (z : Int) (w : gS) => R = w.2.1 ∧ J = w.2.2.1 ∧ AI = w.2.2.2.1 ∧ AJ = w.2.2.2.2.1 ∧ AR = w.2.2.2.2.2 ∧ (mInv g gh R (w.1) AI) ∧ (nF mo I (w.1)) ∧ (((rr < 0 ∨ (nr : Int) ≤ rr) ∧ z = -1) ∨ ((0 ≤ rr ∧ rr < (nr : Int)) ∧ z = (((rfM gh AI 0 rr.toNat).1 : Nat) : Int))) ∧ ((w.1) mo 8 = I mo 8 ∧ (w.1) mo 9 = I mo 9 ∧ (w.1) mo 10 = I mo 10))) ([.ref mo, .int (iI rr)] : List Value).toArray s 0 0 (gA g)) (F0 m 0 ls []) by
    rw [hHe, hlo] at hw; exact hw
  clear hHe hlo
  have nf : nF mo I I := nF_r
  have i8 : I mo 8 = I mo 8 := rfl
  have i9 : I mo 9 = I mo 9 := rfl
  have i10 : I mo 10 = I mo 10 := rfl
  have iX7 : ∀ w ∈ u_ws RX7 TX7 32, w ∈ tsX7_size := fun w h => List.mem_cons_of_mem _ (inTB7 w h)
  have k60 : Cond.fieldLink RX7 60 (TX7 17).1 (TX7 17).2.1 (TX7 17).2.2.1 ∈ tsX7_size := List.mem_cons_of_mem _ fl_60
  refine lv_aload_n F.1 F.2.1 dX7_size_0 rfl (lv_at hl 0 rfl) ?_
  refine z_iconst F dX7_size_1 ?_
  refine g_putI (ci := 7) (k := 17) F hH hS rfl (by decide) iX7 hm (by decide) tyX7 tyX7_ok nmX7 rfl rfl rfl k60 dX7_size_2 (fun H locs hH hS => ?_)
  obtain ⟨I_1, eI_1⟩ : ∃ qQ, qQ = gup2 I mo 17 (iI (0)) := ⟨_, rfl⟩
  rw [← eI_1] at hH
  have kI_1 : ∀ b, b ≠ mo → I_1 b = I b := fun b hb => by rw [eI_1]; exact funext fun j => gup2_a _ _ hb
  have w_2 : (I_1 mo 17).toInt = 0 := by rw [eI_1, gup2_s]; exact iI_val ⟨by decide, by decide⟩
  have hv : mInv g gh R I_1 AI := by rw [eI_1]; exact mP17 hv hm
  have nf : nF mo I I_1 := nF_t nf (by rw [eI_1]; exact nF_p (by decide))
  have u_3_2 : (I_1 mo 2).toInt = (I mo 2).toInt := by rw [nf 2 (by decide) (by decide) (by decide) (by decide) (by decide)]
  have u_3_5 : (I_1 mo 5).toInt = (I mo 5).toInt := by rw [nf 5 (by decide) (by decide) (by decide) (by decide) (by decide)]
  have u_3_14 : (I_1 mo 14).toInt = (I mo 14).toInt := by rw [nf 14 (by decide) (by decide) (by decide) (by decide) (by decide)]
  have u_3_16 : (I_1 mo 16).toInt = (I mo 16).toInt := by rw [nf 16 (by decide) (by decide) (by decide) (by decide) (by decide)]
  have u_3_24 : (I_1 mo 24).toInt = (I mo 24).toInt := by rw [nf 24 (by decide) (by decide) (by decide) (by decide) (by decide)]
  have i8 : I_1 mo 8 = I mo 8 := (show I_1 mo 8 = I mo 8 by rw [eI_1, gup2_k _ _ (by decide)]).trans i8
  have i9 : I_1 mo 9 = I mo 9 := (show I_1 mo 9 = I mo 9 by rw [eI_1, gup2_k _ _ (by decide)]).trans i9
  have i10 : I_1 mo 10 = I mo 10 := (show I_1 mo 10 = I mo 10 by rw [eI_1, gup2_k _ _ (by decide)]).trans i10
  refine lv_aload_n F.1 F.2.1 dX7_size_5 rfl (lv_at hl 0 rfl) ?_
  refine lv_iload_n F.1 F.2.1 dX7_size_6 rfl (lv_at hl 1 rfl) ?_
  have b_4 := mJ hv hm
  unfold mNum1 at b_4
  refine g_calli (g_runV (As := [.int (iI rr)]) (rest := []) (ci := 7) F hl.1 hH hS hz (c_X7_isRelationf l g gh T I_1 R J AI AJ AR mo rr zrr hv hm hT) (cwV 1 F.2.2.2.2.1 (good_up gT_X7_isRelation) rfl rfl rfl hdX7_isRelation ⟨Nat.le_of_ble_eq_true rfl, Nat.le_of_ble_eq_true rfl⟩) hm (by decide) rfl rfl rfl (Nat.le_of_ble_eq_true rfl) dX7_size_7 ⟨Nat.zero_le _, Nat.zero_le _⟩) hS (fun v_11 I_5 R_6 J_7 AI_8 AJ_9 AR_10 H locs zv_11 hp_12 hH hS => ?_)
  dsimp only at hp_12
  obtain ⟨rfl, rfl, rfl, rfl, rfl, rfl, q_13, qis⟩ := hp_12
  refine z_if_eq (tgt := 22) F dX7_size_10 (by decide) zv_11 (fun c_14 => ?_) (fun c_14 => ?_)
  · refine z_iconst F dX7_size_22 ?_
    exact g_iret F hr hlk hH hS hz ⟨by decide, by decide⟩ ⟨rfl, rfl, rfl, rfl, rfl, hv, nf, Or.inl ⟨by have h9 := qis (by omega); omega, rfl⟩, ⟨by (try dsimp only); exact i8, by (try dsimp only); exact i9, by (try dsimp only); exact i10⟩⟩ dX7_size_23
  · refine lv_aload_n F.1 F.2.1 dX7_size_13 rfl (lv_at hl 0 rfl) ?_
    refine z_iconst F dX7_size_14 ?_
    refine lv_iload_n F.1 F.2.1 dX7_size_15 rfl (lv_at hl 1 rfl) ?_
    refine g_calli (g_runV (As := [.int (iI 0), .int (iI rr)]) (rest := []) (ci := 7) F hl.1 hH hS hz (c_X7_sizeOf l g gh T I_1 R J AI AJ AR mo 0 rr ⟨by decide, by decide⟩ zrr hv hm hT (by omega) (by omega)) (cwV 2 F.2.2.2.2.1 (good_up gT_X7_sizeOf) rfl rfl rfl hdX7_sizeOf ⟨Nat.le_of_ble_eq_true rfl, Nat.le_of_ble_eq_true rfl⟩) hm (by decide) rfl rfl rfl (Nat.le_of_ble_eq_true rfl) dX7_size_16 ⟨Nat.zero_le _, Nat.zero_le _⟩) hS (fun v_21 I_15 R_16 J_17 AI_18 AJ_19 AR_20 H locs zv_21 hp_22 hH hS => ?_)
    dsimp only at hp_22
    obtain ⟨rfl, rfl, rfl, rfl, rfl, rfl, q_23, qsz⟩ := hp_22
    refine z_goto (tgt := 23) F dX7_size_19 (by decide) ?_
    exact g_iret F hr hlk hH hS hz zv_21 ⟨rfl, rfl, rfl, rfl, rfl, hv, nf, Or.inr ⟨⟨by omega, by omega⟩, by rw [rfM_1 (by omega), qsz]; unfold tI; have h8 := (mSz hv hm (z := 16 * 0 + rr) (by omega) (by omega)).1; omega⟩, ⟨by (try dsimp only); exact i8, by (try dsimp only); exact i9, by (try dsimp only); exact i10⟩⟩ dX7_size_23

def rmX7_atg : Room := { frames := 3, cells := 0, slots := 0, locals := 65 }
set_option maxHeartbeats 4000000 in
set_option maxRecDepth 100000 in
/-- at -/
theorem c_X7_atg (l : Launch) (g : gG) (gh : gGh) (T : Nat → Int32) (nr : Nat) (I : gI) (R : gR) (J : gJ) (AI : gI) (AJ : gJ) (AR : gR) (mo : Nat) (rr : Int) (ip : Int) (wh : Int) (zrr : zr rr) (zip : zr ip) (zwh : zr wh) (hv : mInv g gh R I AI) (hm : gO g mo 7) (hT : AI (gh 50 0) = T) (hmr : (I mo 2).toInt = (nr : Int)) : gMet l g yX7_at tsX7_at rmX7_atg [.ref mo, .int (iI rr), .int (iI ip), .int (iI wh)] (I, R, J, AI, AJ, AR) (gQi g (fun (z : Int) (w : gS) => R = w.2.1 ∧ J = w.2.2.1 ∧ AI = w.2.2.2.1 ∧ AJ = w.2.2.2.2.1 ∧ AR = w.2.2.2.2.2 ∧ (mInv g gh R (w.1) AI) ∧ (nF mo I (w.1)) ∧ ((((w.1) mo 17).toInt = 1 ∧ z = 0 ∧ ¬ (tdM T nr rr wh ∧ 0 ≤ ip ∧ ip < (((rfM gh AI 0 rr.toNat).1 : Nat) : Int))) ∨ (((w.1) mo 17).toInt = 0 ∧ (tdM T nr rr wh ∧ 0 ≤ ip ∧ ip < (((rfM gh AI 0 rr.toNat).1 : Nat) : Int)) ∧ z = ((rfM gh AI 0 rr.toNat).2 (6 * ip.toNat + wh.toNat)).toInt)) ∧ ((w.1) mo 8 = I mo 8 ∧ (w.1) mo 9 = I mo 9 ∧ (w.1) mo 10 = I mo 10))) := by
  refine gStart (cc := cX7_at) (maxL := 4) (ret := (some (.int))) (by decide) rfl (Nat.le_of_ble_eq_true rfl) ?_
  intro p e s m below meth c ls F hr hlk hH hz hS hl
  have hl : lv_has ls 4 [(0, .ref mo), (1, .int (iI rr)), (2, .int (iI ip)), (3, .int (iI wh))] := hl
  have hS : va_S (gA g) s.heap s.heap [] := hS
  obtain ⟨H, hHe⟩ : ∃ H : Heap, H = s.heap := ⟨_, rfl⟩
  obtain ⟨locs, hlo⟩ : ∃ k : List Loc, k = [] := ⟨_, rfl⟩
  have hH : gH g I R J AI AJ AR H := by rw [hHe]; exact hH
  have hS : va_S (gA g) s.heap H locs := by rw [hHe, hlo]; exact hS
  suffices hw : W p l e rmX7_atg s m ([.ref mo, .int (iI rr), .int (iI ip), .int (iI wh)] : List Value).toArray below meth c H locs 0 0 (MQ below (gQi g (fun (z : Int) (w : gS) => R = w.2.1 ∧ J = w.2.2.1 ∧ AI = w.2.2.2.1 ∧ AJ = w.2.2.2.2.1 ∧ AR = w.2.2.2.2.2 ∧ (mInv g gh R (w.1) AI) ∧ (nF mo I (w.1)) ∧ ((((w.1) mo 17).toInt = 1 ∧ z = 0 ∧ ¬ (tdM T nr rr wh ∧ 0 ≤ ip ∧ ip < (((rfM gh AI 0 rr.toNat).1 : Nat) : Int))) ∨ (((w.1) mo 17).toInt = 0 ∧ (tdM T nr rr wh ∧ 0 ≤ ip ∧ ip < (((rfM gh AI 0 rr.toNat).1 : Nat) : Int)) ∧ z = ((rfM gh AI 0 rr.toNat).2 (6 * ip.toNat + wh.toNat)).toInt)) ∧ ((w.1) mo 8 = I mo 8 ∧ (w.1) mo 9 = I mo 9 ∧ (w.1) mo 10 = I mo 10))) ([.ref mo, .int (iI rr), .int (iI ip), .int (iI wh)] : List Value).toArray s 0 0 (gA g)) (F0 m 0 ls []) by
    rw [hHe, hlo] at hw; exact hw
  clear hHe hlo
  have nf : nF mo I I := nF_r
  have hb0 := mJ hv hm
  unfold mNum1 at hb0
  have i8 : I mo 8 = I mo 8 := rfl
  have i9 : I mo 9 = I mo 9 := rfl
  have i10 : I mo 10 = I mo 10 := rfl
  have iX7 : ∀ w ∈ u_ws RX7 TX7 32, w ∈ tsX7_at := fun w h => List.mem_cons_of_mem _ (inTB7 w h)
  have k60 : Cond.fieldLink RX7 60 (TX7 17).1 (TX7 17).2.1 (TX7 17).2.2.1 ∈ tsX7_at := List.mem_cons_of_mem _ fl_60
  have k24 : Cond.fieldLink RX7 24 (TX7 6).1 (TX7 6).2.1 (TX7 6).2.2.1 ∈ tsX7_at := List.mem_cons_of_mem _ fl_24
  refine lv_aload_n F.1 F.2.1 dX7_at_0 rfl (lv_at hl 0 rfl) ?_
  refine lv_aload_n F.1 F.2.1 dX7_at_1 rfl (lv_at hl 0 rfl) ?_
  refine lv_iload_n F.1 F.2.1 dX7_at_2 rfl (lv_at hl 1 rfl) ?_
  refine lv_iload_n F.1 F.2.1 dX7_at_3 rfl (lv_at hl 3 rfl) ?_
  have b_1 := mJ hv hm
  unfold mNum1 at b_1
  refine g_calli (g_runV (As := [.int (iI rr), .int (iI wh)]) (rest := [.ref mo]) (ci := 7) F hl.1 hH hS hz (c_X7_isToldf l g gh T nr I R J AI AJ AR mo rr wh zrr zwh hv hm hT hmr) (cwV 2 F.2.2.2.2.1 (good_up gT_X7_isTold) rfl rfl rfl hdX7_isTold ⟨Nat.le_of_ble_eq_true rfl, Nat.le_of_ble_eq_true rfl⟩) hm (by decide) rfl rfl rfl (Nat.le_of_ble_eq_true rfl) dX7_at_4 ⟨Nat.zero_le _, Nat.zero_le _⟩) hS (fun v_8 I_2 R_3 J_4 AI_5 AJ_6 AR_7 H locs zv_8 hp_9 hH hS => ?_)
  dsimp only at hp_9
  obtain ⟨rfl, rfl, rfl, rfl, rfl, rfl, q_10, qtd⟩ := hp_9
  refine z_if_eq (tgt := 30) F dX7_at_7 (by decide) zv_8 (fun c_11 => ?_) (fun c_11 => ?_)
  · refine z_iconst F dX7_at_30 ?_
    refine g_putI (ci := 7) (k := 17) F hH hS rfl (by decide) iX7 hm (by decide) tyX7 tyX7_ok nmX7 rfl rfl rfl k60 dX7_at_31 (fun H locs hH hS => ?_)
    obtain ⟨I_12, eI_12⟩ : ∃ qQ, qQ = gup2 I mo 17 (iI (1)) := ⟨_, rfl⟩
    rw [← eI_12] at hH
    have kI_12 : ∀ b, b ≠ mo → I_12 b = I b := fun b hb => by rw [eI_12]; exact funext fun j => gup2_a _ _ hb
    have w_13 : (I_12 mo 17).toInt = 1 := by rw [eI_12, gup2_s]; exact iI_val ⟨by decide, by decide⟩
    have hv : mInv g gh R I_12 AI := by rw [eI_12]; exact mP17 hv hm
    have nf : nF mo I I_12 := nF_t nf (by rw [eI_12]; exact nF_p (by decide))
    have u_14_2 : (I_12 mo 2).toInt = (I mo 2).toInt := by rw [nf 2 (by decide) (by decide) (by decide) (by decide) (by decide)]
    have u_14_5 : (I_12 mo 5).toInt = (I mo 5).toInt := by rw [nf 5 (by decide) (by decide) (by decide) (by decide) (by decide)]
    have u_14_14 : (I_12 mo 14).toInt = (I mo 14).toInt := by rw [nf 14 (by decide) (by decide) (by decide) (by decide) (by decide)]
    have u_14_16 : (I_12 mo 16).toInt = (I mo 16).toInt := by rw [nf 16 (by decide) (by decide) (by decide) (by decide) (by decide)]
    have u_14_24 : (I_12 mo 24).toInt = (I mo 24).toInt := by rw [nf 24 (by decide) (by decide) (by decide) (by decide) (by decide)]
    have i8 : I_12 mo 8 = I mo 8 := (show I_12 mo 8 = I mo 8 by rw [eI_12, gup2_k _ _ (by decide)]).trans i8
    have i9 : I_12 mo 9 = I mo 9 := (show I_12 mo 9 = I mo 9 by rw [eI_12, gup2_k _ _ (by decide)]).trans i9
    have i10 : I_12 mo 10 = I mo 10 := (show I_12 mo 10 = I mo 10 by rw [eI_12, gup2_k _ _ (by decide)]).trans i10
    refine lv_aload_n F.1 F.2.1 dX7_at_34 rfl (lv_at hl 0 rfl) ?_
    refine g_getI (ci := 7) (k := 17) F hH rfl (by decide) iX7 hm (by decide) rfl k60 dX7_at_35 ?_
    refine z_if_ne (tgt := 57) F dX7_at_38 (by decide) (zr_t _) (fun c_15 => ?_) (fun c_15 => ?_)
    · refine z_iconst F dX7_at_57 ?_
      exact g_iret F hr hlk hH hS hz ⟨by decide, by decide⟩ ⟨rfl, rfl, rfl, rfl, rfl, hv, nf, Or.inl ⟨by (try dsimp only); omega, rfl, (fun h9 => tIz_0 qtd (by omega) h9.1)⟩, ⟨by (try dsimp only); exact i8, by (try dsimp only); exact i9, by (try dsimp only); exact i10⟩⟩ dX7_at_58
    · refine lv_aload_n F.1 F.2.1 dX7_at_41 rfl (lv_at hl 0 rfl) ?_
      obtain ⟨r_16a, r_16b⟩ : R mo 6 = some (gh 56 0) ∧ gAr g (gh 56 0) 9 126720 := mR hv hm (q := (6, 126720)) (by decide)
      refine g_getR (ci := 7) (k := 6) F hH rfl (by decide) iX7 hm (by decide) rfl (b := gh 56 0) r_16a k24 dX7_at_42 ?_
      refine z_iconst F dX7_at_45 ?_
      refine lv_iload_n F.1 F.2.1 dX7_at_46 rfl (lv_at hl 1 rfl) ?_
      refine lv_iload_n F.1 F.2.1 dX7_at_47 rfl (lv_at hl 2 rfl) ?_
      refine g_calli (g_runS (As := [.int (iI 0), .int (iI rr), .int (iI ip)]) (rest := [.ref (gh 56 0)]) F hl.1 hH hS hz (c_X7_spot l g  I_12 R J AI AJ AR 0 rr ip ⟨by decide, by decide⟩ zrr zip (by omega) (by omega) (by omega)) (va_cwS 3 F.2.2.2.2.1 (good_up gT_X7_spot) rfl rfl rfl hdX7_spot.2 ⟨Nat.le_of_ble_eq_true rfl, Nat.le_of_ble_eq_true rfl⟩) rfl rfl (Nat.le_of_ble_eq_true rfl) dX7_at_48 ⟨Nat.zero_le _, Nat.zero_le _⟩) hS (fun v_23 I_17 R_18 J_19 AI_20 AJ_21 AR_22 H locs zv_23 hp_24 hH hS => ?_)
      dsimp only at hp_24
      obtain ⟨rfl, rfl, rfl, rfl, rfl, rfl, q_25⟩ := hp_24
      refine lv_iload_n F.1 F.2.1 dX7_at_51 rfl (lv_at hl 3 rfl) ?_
      refine z_iadd F dX7_at_52 ?_
      have hx53 : 0 ≤ (v_23 + wh) ∧ (v_23 + wh) < ((126720 : Nat) : Int) ∧ (v_23 + wh) ≤ 2147483647 := ⟨by omega, by omega, by omega⟩
      refine g_iald F hH r_16b hx53.1 hx53.2.1 hx53.2.2 dX7_at_53 ?_
      refine z_name (fun v_26 ev_26 => ?_)
      have zv_26 : zr v_26 := by rw [ev_26]; exact zr_t _
      refine z_goto (tgt := 58) F dX7_at_54 (by decide) ?_
      exact g_iret F hr hlk hH hS hz zv_26 ⟨rfl, rfl, rfl, rfl, rfl, hv, nf, absurd trivial (by omega), ⟨by (try dsimp only); exact i8, by (try dsimp only); exact i9, by (try dsimp only); exact i10⟩⟩ dX7_at_58
  · refine lv_iload_n F.1 F.2.1 dX7_at_10 rfl (lv_at hl 2 rfl) ?_
    refine z_iconst F dX7_at_11 ?_
    refine lv_aload_n F.1 F.2.1 dX7_at_12 rfl (lv_at hl 0 rfl) ?_
    refine z_iconst F dX7_at_13 ?_
    refine lv_iload_n F.1 F.2.1 dX7_at_14 rfl (lv_at hl 1 rfl) ?_
    refine g_calli (g_runV (As := [.int (iI 0), .int (iI rr)]) (rest := [.int (iI 0), .int (iI ip), .ref mo]) (ci := 7) F hl.1 hH hS hz (c_X7_sizeOf l g gh T I R J AI AJ AR mo 0 rr ⟨by decide, by decide⟩ zrr hv hm hT (by omega) (by omega)) (cwV 2 F.2.2.2.2.1 (good_up gT_X7_sizeOf) rfl rfl rfl hdX7_sizeOf ⟨Nat.le_of_ble_eq_true rfl, Nat.le_of_ble_eq_true rfl⟩) hm (by decide) rfl rfl rfl (Nat.le_of_ble_eq_true rfl) dX7_at_15 ⟨Nat.zero_le _, Nat.zero_le _⟩) hS (fun v_33 I_27 R_28 J_29 AI_30 AJ_31 AR_32 H locs zv_33 hp_34 hH hS => ?_)
    dsimp only at hp_34
    obtain ⟨rfl, rfl, rfl, rfl, rfl, rfl, q_35, qsz⟩ := hp_34
    have hs15 : v_33 = (((rfM gh AI 0 rr.toNat).1 : Nat) : Int) := by rw [rfM_1 (by omega), qsz]; unfold tI; have h8 := (mSz hv hm (z := 16 * 0 + rr) (by omega) (by omega)).1; omega
    refine z_iconst F dX7_at_18 ?_
    refine z_isub F dX7_at_19 ?_
    refine g_calli (g_runS (As := [.int (iI ip), .int (iI 0), .int (iI (v_33 - 1))]) (rest := [.ref mo]) F hl.1 hH hS hz (c_X7_within l g  I R J AI AJ AR ip 0 (v_33 - 1) zip ⟨by decide, by decide⟩ ⟨by omega, by omega⟩) (va_cwS 3 F.2.2.2.2.1 (good_up gT_X7_within) rfl rfl rfl hdX7_within.2 ⟨Nat.le_of_ble_eq_true rfl, Nat.le_of_ble_eq_true rfl⟩) rfl rfl (Nat.le_of_ble_eq_true rfl) dX7_at_20 ⟨Nat.zero_le _, Nat.zero_le _⟩) hS (fun v_42 I_36 R_37 J_38 AI_39 AJ_40 AR_41 H locs zv_42 hp_43 hH hS => ?_)
    dsimp only at hp_43
    obtain ⟨rfl, rfl, rfl, rfl, rfl, rfl, q_44⟩ := hp_43
    refine z_if_eq (tgt := 30) F dX7_at_23 (by decide) zv_42 (fun c_45 => ?_) (fun c_45 => ?_)
    · refine z_iconst F dX7_at_30 ?_
      refine g_putI (ci := 7) (k := 17) F hH hS rfl (by decide) iX7 hm (by decide) tyX7 tyX7_ok nmX7 rfl rfl rfl k60 dX7_at_31 (fun H locs hH hS => ?_)
      obtain ⟨I_46, eI_46⟩ : ∃ qQ, qQ = gup2 I mo 17 (iI (1)) := ⟨_, rfl⟩
      rw [← eI_46] at hH
      have kI_46 : ∀ b, b ≠ mo → I_46 b = I b := fun b hb => by rw [eI_46]; exact funext fun j => gup2_a _ _ hb
      have w_47 : (I_46 mo 17).toInt = 1 := by rw [eI_46, gup2_s]; exact iI_val ⟨by decide, by decide⟩
      have hv : mInv g gh R I_46 AI := by rw [eI_46]; exact mP17 hv hm
      have nf : nF mo I I_46 := nF_t nf (by rw [eI_46]; exact nF_p (by decide))
      have u_48_2 : (I_46 mo 2).toInt = (I mo 2).toInt := by rw [nf 2 (by decide) (by decide) (by decide) (by decide) (by decide)]
      have u_48_5 : (I_46 mo 5).toInt = (I mo 5).toInt := by rw [nf 5 (by decide) (by decide) (by decide) (by decide) (by decide)]
      have u_48_14 : (I_46 mo 14).toInt = (I mo 14).toInt := by rw [nf 14 (by decide) (by decide) (by decide) (by decide) (by decide)]
      have u_48_16 : (I_46 mo 16).toInt = (I mo 16).toInt := by rw [nf 16 (by decide) (by decide) (by decide) (by decide) (by decide)]
      have u_48_24 : (I_46 mo 24).toInt = (I mo 24).toInt := by rw [nf 24 (by decide) (by decide) (by decide) (by decide) (by decide)]
      have i8 : I_46 mo 8 = I mo 8 := (show I_46 mo 8 = I mo 8 by rw [eI_46, gup2_k _ _ (by decide)]).trans i8
      have i9 : I_46 mo 9 = I mo 9 := (show I_46 mo 9 = I mo 9 by rw [eI_46, gup2_k _ _ (by decide)]).trans i9
      have i10 : I_46 mo 10 = I mo 10 := (show I_46 mo 10 = I mo 10 by rw [eI_46, gup2_k _ _ (by decide)]).trans i10
      refine lv_aload_n F.1 F.2.1 dX7_at_34 rfl (lv_at hl 0 rfl) ?_
      refine g_getI (ci := 7) (k := 17) F hH rfl (by decide) iX7 hm (by decide) rfl k60 dX7_at_35 ?_
      refine z_if_ne (tgt := 57) F dX7_at_38 (by decide) (zr_t _) (fun c_49 => ?_) (fun c_49 => ?_)
      · refine z_iconst F dX7_at_57 ?_
        exact g_iret F hr hlk hH hS hz ⟨by decide, by decide⟩ ⟨rfl, rfl, rfl, rfl, rfl, hv, nf, Or.inl ⟨by (try dsimp only); omega, rfl, (fun h9 => by have h8 := h9.2; omega)⟩, ⟨by (try dsimp only); exact i8, by (try dsimp only); exact i9, by (try dsimp only); exact i10⟩⟩ dX7_at_58
      · refine lv_aload_n F.1 F.2.1 dX7_at_41 rfl (lv_at hl 0 rfl) ?_
        obtain ⟨r_50a, r_50b⟩ : R mo 6 = some (gh 56 0) ∧ gAr g (gh 56 0) 9 126720 := mR hv hm (q := (6, 126720)) (by decide)
        refine g_getR (ci := 7) (k := 6) F hH rfl (by decide) iX7 hm (by decide) rfl (b := gh 56 0) r_50a k24 dX7_at_42 ?_
        refine z_iconst F dX7_at_45 ?_
        refine lv_iload_n F.1 F.2.1 dX7_at_46 rfl (lv_at hl 1 rfl) ?_
        refine lv_iload_n F.1 F.2.1 dX7_at_47 rfl (lv_at hl 2 rfl) ?_
        refine g_calli (g_runS (As := [.int (iI 0), .int (iI rr), .int (iI ip)]) (rest := [.ref (gh 56 0)]) F hl.1 hH hS hz (c_X7_spot l g  I_46 R J AI AJ AR 0 rr ip ⟨by decide, by decide⟩ zrr zip (by omega) (by omega) (by omega)) (va_cwS 3 F.2.2.2.2.1 (good_up gT_X7_spot) rfl rfl rfl hdX7_spot.2 ⟨Nat.le_of_ble_eq_true rfl, Nat.le_of_ble_eq_true rfl⟩) rfl rfl (Nat.le_of_ble_eq_true rfl) dX7_at_48 ⟨Nat.zero_le _, Nat.zero_le _⟩) hS (fun v_57 I_51 R_52 J_53 AI_54 AJ_55 AR_56 H locs zv_57 hp_58 hH hS => ?_)
        dsimp only at hp_58
        obtain ⟨rfl, rfl, rfl, rfl, rfl, rfl, q_59⟩ := hp_58
        refine lv_iload_n F.1 F.2.1 dX7_at_51 rfl (lv_at hl 3 rfl) ?_
        refine z_iadd F dX7_at_52 ?_
        have hx53 : 0 ≤ (v_57 + wh) ∧ (v_57 + wh) < ((126720 : Nat) : Int) ∧ (v_57 + wh) ≤ 2147483647 := ⟨by omega, by omega, by omega⟩
        refine g_iald F hH r_50b hx53.1 hx53.2.1 hx53.2.2 dX7_at_53 ?_
        refine z_name (fun v_60 ev_60 => ?_)
        have zv_60 : zr v_60 := by rw [ev_60]; exact zr_t _
        refine z_goto (tgt := 58) F dX7_at_54 (by decide) ?_
        exact g_iret F hr hlk hH hS hz zv_60 ⟨rfl, rfl, rfl, rfl, rfl, hv, nf, absurd trivial (by omega), ⟨by (try dsimp only); exact i8, by (try dsimp only); exact i9, by (try dsimp only); exact i10⟩⟩ dX7_at_58
    · refine z_iconst F dX7_at_26 ?_
      refine z_goto (tgt := 31) F dX7_at_27 (by decide) ?_
      refine g_putI (ci := 7) (k := 17) F hH hS rfl (by decide) iX7 hm (by decide) tyX7 tyX7_ok nmX7 rfl rfl rfl k60 dX7_at_31 (fun H locs hH hS => ?_)
      obtain ⟨I_61, eI_61⟩ : ∃ qQ, qQ = gup2 I mo 17 (iI (0)) := ⟨_, rfl⟩
      rw [← eI_61] at hH
      have kI_61 : ∀ b, b ≠ mo → I_61 b = I b := fun b hb => by rw [eI_61]; exact funext fun j => gup2_a _ _ hb
      have w_62 : (I_61 mo 17).toInt = 0 := by rw [eI_61, gup2_s]; exact iI_val ⟨by decide, by decide⟩
      have hv : mInv g gh R I_61 AI := by rw [eI_61]; exact mP17 hv hm
      have nf : nF mo I I_61 := nF_t nf (by rw [eI_61]; exact nF_p (by decide))
      have u_63_2 : (I_61 mo 2).toInt = (I mo 2).toInt := by rw [nf 2 (by decide) (by decide) (by decide) (by decide) (by decide)]
      have u_63_5 : (I_61 mo 5).toInt = (I mo 5).toInt := by rw [nf 5 (by decide) (by decide) (by decide) (by decide) (by decide)]
      have u_63_14 : (I_61 mo 14).toInt = (I mo 14).toInt := by rw [nf 14 (by decide) (by decide) (by decide) (by decide) (by decide)]
      have u_63_16 : (I_61 mo 16).toInt = (I mo 16).toInt := by rw [nf 16 (by decide) (by decide) (by decide) (by decide) (by decide)]
      have u_63_24 : (I_61 mo 24).toInt = (I mo 24).toInt := by rw [nf 24 (by decide) (by decide) (by decide) (by decide) (by decide)]
      have i8 : I_61 mo 8 = I mo 8 := (show I_61 mo 8 = I mo 8 by rw [eI_61, gup2_k _ _ (by decide)]).trans i8
      have i9 : I_61 mo 9 = I mo 9 := (show I_61 mo 9 = I mo 9 by rw [eI_61, gup2_k _ _ (by decide)]).trans i9
      have i10 : I_61 mo 10 = I mo 10 := (show I_61 mo 10 = I mo 10 by rw [eI_61, gup2_k _ _ (by decide)]).trans i10
      refine lv_aload_n F.1 F.2.1 dX7_at_34 rfl (lv_at hl 0 rfl) ?_
      refine g_getI (ci := 7) (k := 17) F hH rfl (by decide) iX7 hm (by decide) rfl k60 dX7_at_35 ?_
      refine z_if_ne (tgt := 57) F dX7_at_38 (by decide) (zr_t _) (fun c_64 => ?_) (fun c_64 => ?_)
      · refine z_iconst F dX7_at_57 ?_
        exact g_iret F hr hlk hH hS hz ⟨by decide, by decide⟩ ⟨rfl, rfl, rfl, rfl, rfl, hv, nf, absurd trivial (by omega), ⟨by (try dsimp only); exact i8, by (try dsimp only); exact i9, by (try dsimp only); exact i10⟩⟩ dX7_at_58
      · refine lv_aload_n F.1 F.2.1 dX7_at_41 rfl (lv_at hl 0 rfl) ?_
        obtain ⟨r_65a, r_65b⟩ : R mo 6 = some (gh 56 0) ∧ gAr g (gh 56 0) 9 126720 := mR hv hm (q := (6, 126720)) (by decide)
        refine g_getR (ci := 7) (k := 6) F hH rfl (by decide) iX7 hm (by decide) rfl (b := gh 56 0) r_65a k24 dX7_at_42 ?_
        refine z_iconst F dX7_at_45 ?_
        refine lv_iload_n F.1 F.2.1 dX7_at_46 rfl (lv_at hl 1 rfl) ?_
        refine lv_iload_n F.1 F.2.1 dX7_at_47 rfl (lv_at hl 2 rfl) ?_
        refine g_calli (g_runS (As := [.int (iI 0), .int (iI rr), .int (iI ip)]) (rest := [.ref (gh 56 0)]) F hl.1 hH hS hz (c_X7_spot l g  I_61 R J AI AJ AR 0 rr ip ⟨by decide, by decide⟩ zrr zip (by omega) (by omega) (by omega)) (va_cwS 3 F.2.2.2.2.1 (good_up gT_X7_spot) rfl rfl rfl hdX7_spot.2 ⟨Nat.le_of_ble_eq_true rfl, Nat.le_of_ble_eq_true rfl⟩) rfl rfl (Nat.le_of_ble_eq_true rfl) dX7_at_48 ⟨Nat.zero_le _, Nat.zero_le _⟩) hS (fun v_72 I_66 R_67 J_68 AI_69 AJ_70 AR_71 H locs zv_72 hp_73 hH hS => ?_)
        dsimp only at hp_73
        obtain ⟨rfl, rfl, rfl, rfl, rfl, rfl, q_74⟩ := hp_73
        refine lv_iload_n F.1 F.2.1 dX7_at_51 rfl (lv_at hl 3 rfl) ?_
        refine z_iadd F dX7_at_52 ?_
        have hx53 : 0 ≤ (v_72 + wh) ∧ (v_72 + wh) < ((126720 : Nat) : Int) ∧ (v_72 + wh) ≤ 2147483647 := ⟨by omega, by omega, by omega⟩
        refine g_iald F hH r_65b hx53.1 hx53.2.1 hx53.2.2 dX7_at_53 ?_
        refine z_name (fun v_75 ev_75 => ?_)
        have zv_75 : zr v_75 := by rw [ev_75]; exact zr_t _
        have c53 : v_75 = ((rfM gh AI 0 rr.toNat).2 (6 * ip.toNat + wh.toNat)).toInt := by rw [rfM_2 (by omega) (by omega), ev_75]; congr 2; omega
        refine z_goto (tgt := 58) F dX7_at_54 (by decide) ?_
        exact g_iret F hr hlk hH hS hz zv_75 ⟨rfl, rfl, rfl, rfl, rfl, hv, nf, Or.inr ⟨by (try dsimp only); omega, ⟨tIz_1 qtd (by omega), by omega, by omega⟩, c53⟩, ⟨by (try dsimp only); exact i8, by (try dsimp only); exact i9, by (try dsimp only); exact i10⟩⟩ dX7_at_58

def rmX7_countg : Room := { frames := 2, cells := 0, slots := 0, locals := 52 }
set_option maxHeartbeats 4000000 in
set_option maxRecDepth 100000 in
/-- count -/
theorem c_X7_countg (l : Launch) (g : gG) (gh : gGh) (T : Nat → Int32) (nr : Nat) (cl : Nat → Int) (I : gI) (R : gR) (J : gJ) (AI : gI) (AJ : gJ) (AR : gR) (mo : Nat) (rr : Int) (a1 : Int) (b1 : Int) (c1 : Int) (d1 : Int) (zrr : zr rr) (za1 : zr a1) (zb1 : zr b1) (zc1 : zr c1) (zd1 : zr d1) (hv : mInv g gh R I AI) (hm : gO g mo 7) (hT : AI (gh 50 0) = T) (hmr : (I mo 2).toInt = (nr : Int)) (hbg : ∀ r : Nat, r < nr → bgOK (rfM gh AI 0) cl r) : gMet l g yX7_count tsX7_count rmX7_countg [.ref mo, .int (iI rr), .int (iI a1), .int (iI b1), .int (iI c1), .int (iI d1)] (I, R, J, AI, AJ, AR) (gQi g (fun (z : Int) (w : gS) => R = w.2.1 ∧ J = w.2.2.1 ∧ AJ = w.2.2.2.2.1 ∧ AR = w.2.2.2.2.2 ∧ (mInv g gh R (w.1) (w.2.2.2.1)) ∧ ((w.2.2.2.1) (gh 50 0) = T) ∧ (nF mo I (w.1)) ∧ (((rr < 0 ∨ (nr : Int) ≤ rr) ∧ ((w.1) mo 17).toInt = 1 ∧ z = 0) ∨ ((0 ≤ rr ∧ rr < (nr : Int)) ∧ ((w.1) mo 17).toInt = 0 ∧ z = (bS (rfM gh AI 0 rr.toNat).2 (rfM gh AI 0 rr.toNat).1 (kyT (tI T (40 * rr + 1)) a1 b1 c1 d1)).toInt)) ∧ ((w.1) mo 8 = I mo 8 ∧ (w.1) mo 9 = I mo 9 ∧ (w.1) mo 10 = I mo 10) ∧ (∀ b, b ≠ gh 77 0 → (w.2.2.2.1) b = AI b))) := by
  refine gStart (cc := cX7_count) (maxL := 7) (ret := (some (.int))) (by decide) rfl (Nat.le_of_ble_eq_true rfl) ?_
  intro p e s m below meth c ls F hr hlk hH hz hS hl
  have hl : lv_has ls 7 [(0, .ref mo), (1, .int (iI rr)), (2, .int (iI a1)), (3, .int (iI b1)), (4, .int (iI c1)), (5, .int (iI d1))] := hl
  have hS : va_S (gA g) s.heap s.heap [] := hS
  obtain ⟨H, hHe⟩ : ∃ H : Heap, H = s.heap := ⟨_, rfl⟩
  obtain ⟨locs, hlo⟩ : ∃ k : List Loc, k = [] := ⟨_, rfl⟩
  have hH : gH g I R J AI AJ AR H := by rw [hHe]; exact hH
  have hS : va_S (gA g) s.heap H locs := by rw [hHe, hlo]; exact hS
  suffices hw : W p l e rmX7_countg s m ([.ref mo, .int (iI rr), .int (iI a1), .int (iI b1), .int (iI c1), .int (iI d1)] : List Value).toArray below meth c H locs 0 0 (MQ below (gQi g (fun (z : Int) (w : gS) => R = w.2.1 ∧ J = w.2.2.1 ∧ AJ = w.2.2.2.2.1 ∧ AR = w.2.2.2.2.2 ∧ (mInv g gh R (w.1) (w.2.2.2.1)) ∧ ((w.2.2.2.1) (gh 50 0) = T) ∧ (nF mo I (w.1)) ∧ (((rr < 0 ∨ (nr : Int) ≤ rr) ∧ ((w.1) mo 17).toInt = 1 ∧ z = 0) ∨ ((0 ≤ rr ∧ rr < (nr : Int)) ∧ ((w.1) mo 17).toInt = 0 ∧ z = (bS (rfM gh AI 0 rr.toNat).2 (rfM gh AI 0 rr.toNat).1 (kyT (tI T (40 * rr + 1)) a1 b1 c1 d1)).toInt)) ∧ ((w.1) mo 8 = I mo 8 ∧ (w.1) mo 9 = I mo 9 ∧ (w.1) mo 10 = I mo 10) ∧ (∀ b, b ≠ gh 77 0 → (w.2.2.2.1) b = AI b))) ([.ref mo, .int (iI rr), .int (iI a1), .int (iI b1), .int (iI c1), .int (iI d1)] : List Value).toArray s 0 0 (gA g)) (F0 m 0 ls []) by
    rw [hHe, hlo] at hw; exact hw
  clear hHe hlo
  have nf : nF mo I I := nF_r
  have i8 : I mo 8 = I mo 8 := rfl
  have i9 : I mo 9 = I mo 9 := rfl
  have i10 : I mo 10 = I mo 10 := rfl
  have fAX : ∀ b, b ≠ gh 77 0 → AI b = AI b := fun _ _ => rfl
  have iX7 : ∀ w ∈ u_ws RX7 TX7 32, w ∈ tsX7_count := fun w h => List.mem_cons_of_mem _ (inTB7 w h)
  have k60 : Cond.fieldLink RX7 60 (TX7 17).1 (TX7 17).2.1 (TX7 17).2.2.1 ∈ tsX7_count := List.mem_cons_of_mem _ fl_60
  have k24 : Cond.fieldLink RX7 24 (TX7 6).1 (TX7 6).2.1 (TX7 6).2.2.1 ∈ tsX7_count := List.mem_cons_of_mem _ fl_24
  refine lv_aload_n F.1 F.2.1 dX7_count_0 rfl (lv_at hl 0 rfl) ?_
  have cut_14_0 : ∀ (th : Int) (H : Heap) (locs : List Loc) (ls : Array Slot), zr th → ((th = 0 ∧ 0 ≤ rr ∧ rr ≤ 15) ∨ th = 1) → ((th = 0 ∧ rr < (nr : Int)) ∨ (th = 1 ∧ (rr < 0 ∨ (nr : Int) ≤ rr))) → gH g I R J AI AJ AR H → va_S (gA g) s.heap H locs → lv_has ls 7 [(0, .ref mo), (1, .int (iI rr)), (2, .int (iI a1)), (3, .int (iI b1)), (4, .int (iI c1)), (5, .int (iI d1))] → W p l e rmX7_countg s m ([.ref mo, .int (iI rr), .int (iI a1), .int (iI b1), .int (iI c1), .int (iI d1)] : List Value).toArray below meth c H locs 0 0 (MQ below (gQi g (fun (z : Int) (w : gS) => R = w.2.1 ∧ J = w.2.2.1 ∧ AJ = w.2.2.2.2.1 ∧ AR = w.2.2.2.2.2 ∧ (mInv g gh R (w.1) (w.2.2.2.1)) ∧ ((w.2.2.2.1) (gh 50 0) = T) ∧ (nF mo I (w.1)) ∧ (((rr < 0 ∨ (nr : Int) ≤ rr) ∧ ((w.1) mo 17).toInt = 1 ∧ z = 0) ∨ ((0 ≤ rr ∧ rr < (nr : Int)) ∧ ((w.1) mo 17).toInt = 0 ∧ z = (bS (rfM gh AI 0 rr.toNat).2 (rfM gh AI 0 rr.toNat).1 (kyT (tI T (40 * rr + 1)) a1 b1 c1 d1)).toInt)) ∧ ((w.1) mo 8 = I mo 8 ∧ (w.1) mo 9 = I mo 9 ∧ (w.1) mo 10 = I mo 10) ∧ (∀ b, b ≠ gh 77 0 → (w.2.2.2.1) b = AI b))) ([.ref mo, .int (iI rr), .int (iI a1), .int (iI b1), .int (iI c1), .int (iI d1)] : List Value).toArray s 0 0 (gA g)) (F0 m 14 ls [.int (iI th), .ref mo]) := by
    intro th H locs ls zth hth hin9 hH hS hl
    refine g_putI (ci := 7) (k := 17) F hH hS rfl (by decide) iX7 hm (by decide) tyX7 tyX7_ok nmX7 rfl rfl rfl k60 dX7_count_14 (fun H locs hH hS => ?_)
    obtain ⟨I_2, eI_2⟩ : ∃ qQ, qQ = gup2 I mo 17 (iI (th)) := ⟨_, rfl⟩
    rw [← eI_2] at hH
    have kI_2 : ∀ b, b ≠ mo → I_2 b = I b := fun b hb => by rw [eI_2]; exact funext fun j => gup2_a _ _ hb
    have w_3 : (I_2 mo 17).toInt = th := by rw [eI_2, gup2_s]; exact iI_val zth
    have hv : mInv g gh R I_2 AI := by rw [eI_2]; exact mP17 hv hm
    have nf : nF mo I I_2 := nF_t nf (by rw [eI_2]; exact nF_p (by decide))
    have u_4_2 : (I_2 mo 2).toInt = (I mo 2).toInt := by rw [nf 2 (by decide) (by decide) (by decide) (by decide) (by decide)]
    have u_4_5 : (I_2 mo 5).toInt = (I mo 5).toInt := by rw [nf 5 (by decide) (by decide) (by decide) (by decide) (by decide)]
    have u_4_14 : (I_2 mo 14).toInt = (I mo 14).toInt := by rw [nf 14 (by decide) (by decide) (by decide) (by decide) (by decide)]
    have u_4_16 : (I_2 mo 16).toInt = (I mo 16).toInt := by rw [nf 16 (by decide) (by decide) (by decide) (by decide) (by decide)]
    have u_4_24 : (I_2 mo 24).toInt = (I mo 24).toInt := by rw [nf 24 (by decide) (by decide) (by decide) (by decide) (by decide)]
    have i8 : I_2 mo 8 = I mo 8 := (show I_2 mo 8 = I mo 8 by rw [eI_2, gup2_k _ _ (by decide)]).trans i8
    have i9 : I_2 mo 9 = I mo 9 := (show I_2 mo 9 = I mo 9 by rw [eI_2, gup2_k _ _ (by decide)]).trans i9
    have i10 : I_2 mo 10 = I mo 10 := (show I_2 mo 10 = I mo 10 by rw [eI_2, gup2_k _ _ (by decide)]).trans i10
    refine lv_aload_n F.1 F.2.1 dX7_count_17 rfl (lv_at hl 0 rfl) ?_
    refine g_getI (ci := 7) (k := 17) F hH rfl (by decide) iX7 hm (by decide) rfl k60 dX7_count_18 ?_
    refine z_iconst F dX7_count_21 ?_
    refine z_icmp_ne (tgt := 27) F dX7_count_22 (by decide) (zr_t _) ⟨by decide, by decide⟩ (fun c_5 => ?_) (fun c_5 => ?_)
    · have hr9 := rfM_s (gh := gh) (AI := AI) (sd := 0) (a := rr) (n := (rfM gh AI 0 rr.toNat).1) (f := (rfM gh AI 0 rr.toNat).2) rfl (by omega) (mSz1 hv hm (z := 16 * 0 + rr) (by omega) (by omega)).1
      refine lv_aload_n F.1 F.2.1 dX7_count_27 rfl (lv_at hl 0 rfl) ?_
      refine z_iconst F dX7_count_28 ?_
      refine lv_iload_n F.1 F.2.1 dX7_count_29 rfl (lv_at hl 1 rfl) ?_
      refine lv_iload_n F.1 F.2.1 dX7_count_30 rfl (lv_at hl 2 rfl) ?_
      refine lv_iload_n F.1 F.2.1 dX7_count_31 rfl (lv_at hl 3 rfl) ?_
      refine lv_iload F.1 F.2.1 dX7_count_32 (lv_at hl 4 rfl) ?_
      refine lv_iload F.1 F.2.1 dX7_count_34 (lv_at hl 5 rfl) ?_
      have b_6 := mJ hv hm
      unfold mNum1 at b_6
      refine g_calli (g_runV (As := [.int (iI 0), .int (iI rr), .int (iI a1), .int (iI b1), .int (iI c1), .int (iI d1)]) (rest := []) (ci := 7) F hl.1 hH hS hz (c_X7_findf l g gh T ((rfM gh AI 0 rr.toNat).1) ((rfM gh AI 0 rr.toNat).2) I_2 R J AI AJ AR mo 0 rr a1 b1 c1 d1 ⟨by decide, by decide⟩ zrr za1 zb1 zc1 zd1 hv hm hT (by omega) (by omega) hr9.1 hr9.2 (hbg rr.toNat (by omega)).2.1) (cwV 6 F.2.2.2.2.1 (good_up gT_X7_find) rfl rfl rfl hdX7_find ⟨Nat.le_of_ble_eq_true rfl, Nat.le_of_ble_eq_true rfl⟩) hm (by decide) rfl rfl rfl (Nat.le_of_ble_eq_true rfl) dX7_count_36 ⟨Nat.zero_le _, Nat.zero_le _⟩) hS (fun v_13 I_7 R_8 J_9 AI_10 AJ_11 AR_12 H locs zv_13 hp_14 hH hS => ?_)
      dsimp only at hp_14
      obtain ⟨rfl, rfl, rfl, rfl, rfl, hv, hT, q_15, fWq, qfd⟩ := hp_14
      have fAX : ∀ b, b ≠ gh 77 0 → AI_10 b = AI b := fun b h77 => (fWq b h77).trans (fAX b h77)
      have hfr := fdM_r qfd
      refine lv_istore (lv' := [(6, .int (iI v_13)), (0, .ref mo), (1, .int (iI rr)), (2, .int (iI a1)), (3, .int (iI b1)), (4, .int (iI c1)), (5, .int (iI d1))]) F.1 F.2.1 dX7_count_39 hl (by decide) rfl (fun ls hl => ?_)
      refine lv_iload F.1 F.2.1 dX7_count_41 (lv_at hl 0 rfl) ?_
      refine z_if_ge (tgt := 50) F dX7_count_43 (by decide) zv_13 (fun c_16 => ?_) (fun c_16 => ?_)
      · refine lv_aload_n F.1 F.2.1 dX7_count_50 rfl (lv_at hl 1 rfl) ?_
        obtain ⟨r_17a, r_17b⟩ : R mo 6 = some (gh 56 0) ∧ gAr g (gh 56 0) 9 126720 := mR hv hm (q := (6, 126720)) (by decide)
        refine g_getR (ci := 7) (k := 6) F hH rfl (by decide) iX7 hm (by decide) rfl (b := gh 56 0) r_17a k24 dX7_count_51 ?_
        refine z_iconst F dX7_count_54 ?_
        refine lv_iload_n F.1 F.2.1 dX7_count_55 rfl (lv_at hl 2 rfl) ?_
        refine lv_iload F.1 F.2.1 dX7_count_56 (lv_at hl 0 rfl) ?_
        refine g_calli (g_runS (As := [.int (iI 0), .int (iI rr), .int (iI v_13)]) (rest := [.ref (gh 56 0)]) F hl.1 hH hS hz (c_X7_spot l g  I_2 R J AI_10 AJ AR 0 rr v_13 ⟨by decide, by decide⟩ zrr zv_13 (by omega) (by omega) (by omega)) (va_cwS 3 F.2.2.2.2.1 (good_up gT_X7_spot) rfl rfl rfl hdX7_spot.2 ⟨Nat.le_of_ble_eq_true rfl, Nat.le_of_ble_eq_true rfl⟩) rfl rfl (Nat.le_of_ble_eq_true rfl) dX7_count_58 ⟨Nat.zero_le _, Nat.zero_le _⟩) hS (fun v_24 I_18 R_19 J_20 AI_21 AJ_22 AR_23 H locs zv_24 hp_25 hH hS => ?_)
        dsimp only at hp_25
        obtain ⟨rfl, rfl, rfl, rfl, rfl, rfl, q_26⟩ := hp_25
        refine z_iconst F dX7_count_61 ?_
        refine z_iadd F dX7_count_62 ?_
        have hx63 : 0 ≤ (v_24 + 4) ∧ (v_24 + 4) < ((126720 : Nat) : Int) ∧ (v_24 + 4) ≤ 2147483647 := ⟨by omega, by omega, by omega⟩
        refine g_iald F hH r_17b hx63.1 hx63.2.1 hx63.2.2 dX7_count_63 ?_
        refine z_name (fun v_27 ev_27 => ?_)
        have zv_27 : zr v_27 := by rw [ev_27]; exact zr_t _
        have c63 : v_27 = ((rfM gh AI 0 rr.toNat).2 (6 * v_13.toNat + 4)).toInt := by rw [ev_27, fWq _ (show gh 56 0 ≠ gh 77 0 from mNe hv hm (p := (6, 126720)) (q := (27, 4)) (by decide) (by decide) (by decide)), ← hr9.2 _ (by omega)]; congr 2; omega
        exact g_iret F hr hlk hH hS hz zv_27 ⟨rfl, rfl, rfl, rfl, hv, hT, nf, Or.inr ⟨by omega, by (try dsimp only); omega, by rw [fdM_c (hbg rr.toNat (by omega)).1 qfd (by omega)]; exact c63⟩, ⟨by (try dsimp only); exact i8, by (try dsimp only); exact i9, by (try dsimp only); exact i10⟩, fAX⟩ dX7_count_64
      · refine z_iconst F dX7_count_46 ?_
        refine z_goto (tgt := 64) F dX7_count_47 (by decide) ?_
        exact g_iret F hr hlk hH hS hz ⟨by decide, by decide⟩ ⟨rfl, rfl, rfl, rfl, hv, hT, nf, Or.inr ⟨by omega, by (try dsimp only); omega, by rw [fdM_0 qfd (by omega)]; rfl⟩, ⟨by (try dsimp only); exact i8, by (try dsimp only); exact i9, by (try dsimp only); exact i10⟩, fAX⟩ dX7_count_64
    · refine z_iconst F dX7_count_25 ?_
      exact g_iret F hr hlk hH hS hz ⟨by decide, by decide⟩ ⟨rfl, rfl, rfl, rfl, hv, hT, nf, Or.inl ⟨by omega, by (try dsimp only); omega, rfl⟩, ⟨by (try dsimp only); exact i8, by (try dsimp only); exact i9, by (try dsimp only); exact i10⟩, fAX⟩ dX7_count_26
  refine lv_aload_n F.1 F.2.1 dX7_count_1 rfl (lv_at hl 0 rfl) ?_
  refine lv_iload_n F.1 F.2.1 dX7_count_2 rfl (lv_at hl 1 rfl) ?_
  have b_28 := mJ hv hm
  unfold mNum1 at b_28
  refine g_calli (g_runV (As := [.int (iI rr)]) (rest := [.ref mo]) (ci := 7) F hl.1 hH hS hz (c_X7_isRelationf l g gh T I R J AI AJ AR mo rr zrr hv hm hT) (cwV 1 F.2.2.2.2.1 (good_up gT_X7_isRelation) rfl rfl rfl hdX7_isRelation ⟨Nat.le_of_ble_eq_true rfl, Nat.le_of_ble_eq_true rfl⟩) hm (by decide) rfl rfl rfl (Nat.le_of_ble_eq_true rfl) dX7_count_3 ⟨Nat.zero_le _, Nat.zero_le _⟩) hS (fun v_35 I_29 R_30 J_31 AI_32 AJ_33 AR_34 H locs zv_35 hp_36 hH hS => ?_)
  dsimp only at hp_36
  obtain ⟨rfl, rfl, rfl, rfl, rfl, rfl, q_37, qis⟩ := hp_36
  refine z_if_eq (tgt := 13) F dX7_count_6 (by decide) zv_35 (fun c_38 => ?_) (fun c_38 => ?_)
  · refine z_iconst F dX7_count_13 ?_
    exact cut_14_0 1 H locs ls ⟨by decide, by decide⟩ (by omega) (by first | (have h9 := qis (by omega); omega) | omega) hH hS (lv_sub hl [0, 1, 2, 3, 4, 5] rfl)
  · refine z_iconst F dX7_count_9 ?_
    refine z_goto (tgt := 14) F dX7_count_10 (by decide) ?_
    exact cut_14_0 0 H locs ls ⟨by decide, by decide⟩ (by omega) (by first | (have h9 := qis (by omega); omega) | omega) hH hS (lv_sub hl [0, 1, 2, 3, 4, 5] rfl)

def rmX7_totalg : Room := { frames := 2, cells := 0, slots := 0, locals := 43 }
set_option maxHeartbeats 4000000 in
set_option maxRecDepth 100000 in
/-- total -/
theorem c_X7_totalg (l : Launch) (g : gG) (gh : gGh) (T : Nat → Int32) (nr : Nat) (I : gI) (R : gR) (J : gJ) (AI : gI) (AJ : gJ) (AR : gR) (mo : Nat) (rr : Int) (zrr : zr rr) (hv : mInv g gh R I AI) (hm : gO g mo 7) (hT : AI (gh 50 0) = T) (hmr : (I mo 2).toInt = (nr : Int)) : gMet l g yX7_total tsX7_total rmX7_totalg [.ref mo, .int (iI rr)] (I, R, J, AI, AJ, AR) (gQi g (fun (z : Int) (w : gS) => R = w.2.1 ∧ J = w.2.2.1 ∧ AI = w.2.2.2.1 ∧ AJ = w.2.2.2.2.1 ∧ AR = w.2.2.2.2.2 ∧ (mInv g gh R (w.1) AI) ∧ (nF mo I (w.1)) ∧ (((rr < 0 ∨ (nr : Int) ≤ rr) ∧ ((w.1) mo 17).toInt = 1 ∧ z = 0) ∨ ((0 ≤ rr ∧ rr < (nr : Int)) ∧ ((w.1) mo 17).toInt = 0 ∧ iI z = smA (rfM gh AI 0 rr.toNat).2 (rfM gh AI 0 rr.toNat).1)) ∧ ((w.1) mo 8 = I mo 8 ∧ (w.1) mo 9 = I mo 9 ∧ (w.1) mo 10 = I mo 10))) := by
  refine gStart (cc := cX7_total) (maxL := 4) (ret := (some (.int))) (by decide) rfl (Nat.le_of_ble_eq_true rfl) ?_
  intro p e s m below meth c ls F hr hlk hH hz hS hl
  have hl : lv_has ls 4 [(0, .ref mo), (1, .int (iI rr))] := hl
  have hS : va_S (gA g) s.heap s.heap [] := hS
  obtain ⟨H, hHe⟩ : ∃ H : Heap, H = s.heap := ⟨_, rfl⟩
  obtain ⟨locs, hlo⟩ : ∃ k : List Loc, k = [] := ⟨_, rfl⟩
  have hH : gH g I R J AI AJ AR H := by rw [hHe]; exact hH
  have hS : va_S (gA g) s.heap H locs := by rw [hHe, hlo]; exact hS
  suffices hw : W p l e rmX7_totalg s m ([.ref mo, .int (iI rr)] : List Value).toArray below meth c H locs 0 0 (MQ below (gQi g (fun (z : Int) (w : gS) => R = w.2.1 ∧ J = w.2.2.1 ∧ AI = w.2.2.2.1 ∧ AJ = w.2.2.2.2.1 ∧ AR = w.2.2.2.2.2 ∧ (mInv g gh R (w.1) AI) ∧ (nF mo I (w.1)) ∧ (((rr < 0 ∨ (nr : Int) ≤ rr) ∧ ((w.1) mo 17).toInt = 1 ∧ z = 0) ∨ ((0 ≤ rr ∧ rr < (nr : Int)) ∧ ((w.1) mo 17).toInt = 0 ∧ iI z = smA (rfM gh AI 0 rr.toNat).2 (rfM gh AI 0 rr.toNat).1)) ∧ ((w.1) mo 8 = I mo 8 ∧ (w.1) mo 9 = I mo 9 ∧ (w.1) mo 10 = I mo 10))) ([.ref mo, .int (iI rr)] : List Value).toArray s 0 0 (gA g)) (F0 m 0 ls []) by
    rw [hHe, hlo] at hw; exact hw
  clear hHe hlo
  have nf : nF mo I I := nF_r
  have hb0 := mJ hv hm
  unfold mNum1 at hb0
  have i8 : I mo 8 = I mo 8 := rfl
  have i9 : I mo 9 = I mo 9 := rfl
  have i10 : I mo 10 = I mo 10 := rfl
  have iX7 : ∀ w ∈ u_ws RX7 TX7 32, w ∈ tsX7_total := fun w h => List.mem_cons_of_mem _ (inTB7 w h)
  have k60 : Cond.fieldLink RX7 60 (TX7 17).1 (TX7 17).2.1 (TX7 17).2.2.1 ∈ tsX7_total := List.mem_cons_of_mem _ fl_60
  have k24 : Cond.fieldLink RX7 24 (TX7 6).1 (TX7 6).2.1 (TX7 6).2.2.1 ∈ tsX7_total := List.mem_cons_of_mem _ fl_24
  refine lv_aload_n F.1 F.2.1 dX7_total_0 rfl (lv_at hl 0 rfl) ?_
  have cut_14_0 : ∀ (th : Int) (H : Heap) (locs : List Loc) (ls : Array Slot), zr th → ((th = 0 ∧ 0 ≤ rr ∧ rr ≤ 15) ∨ th = 1) → ((th = 0 ∧ 0 ≤ rr ∧ rr < (nr : Int)) ∨ (th = 1 ∧ (rr < 0 ∨ (nr : Int) ≤ rr))) → gH g I R J AI AJ AR H → va_S (gA g) s.heap H locs → lv_has ls 4 [(0, .ref mo), (1, .int (iI rr))] → W p l e rmX7_totalg s m ([.ref mo, .int (iI rr)] : List Value).toArray below meth c H locs 0 0 (MQ below (gQi g (fun (z : Int) (w : gS) => R = w.2.1 ∧ J = w.2.2.1 ∧ AI = w.2.2.2.1 ∧ AJ = w.2.2.2.2.1 ∧ AR = w.2.2.2.2.2 ∧ (mInv g gh R (w.1) AI) ∧ (nF mo I (w.1)) ∧ (((rr < 0 ∨ (nr : Int) ≤ rr) ∧ ((w.1) mo 17).toInt = 1 ∧ z = 0) ∨ ((0 ≤ rr ∧ rr < (nr : Int)) ∧ ((w.1) mo 17).toInt = 0 ∧ iI z = smA (rfM gh AI 0 rr.toNat).2 (rfM gh AI 0 rr.toNat).1)) ∧ ((w.1) mo 8 = I mo 8 ∧ (w.1) mo 9 = I mo 9 ∧ (w.1) mo 10 = I mo 10))) ([.ref mo, .int (iI rr)] : List Value).toArray s 0 0 (gA g)) (F0 m 14 ls [.int (iI th), .ref mo]) := by
    intro th H locs ls zth hth hin9 hH hS hl
    refine g_putI (ci := 7) (k := 17) F hH hS rfl (by decide) iX7 hm (by decide) tyX7 tyX7_ok nmX7 rfl rfl rfl k60 dX7_total_14 (fun H locs hH hS => ?_)
    obtain ⟨I_2, eI_2⟩ : ∃ qQ, qQ = gup2 I mo 17 (iI (th)) := ⟨_, rfl⟩
    rw [← eI_2] at hH
    have kI_2 : ∀ b, b ≠ mo → I_2 b = I b := fun b hb => by rw [eI_2]; exact funext fun j => gup2_a _ _ hb
    have w_3 : (I_2 mo 17).toInt = th := by rw [eI_2, gup2_s]; exact iI_val zth
    have hv : mInv g gh R I_2 AI := by rw [eI_2]; exact mP17 hv hm
    have nf : nF mo I I_2 := nF_t nf (by rw [eI_2]; exact nF_p (by decide))
    have u_4_2 : (I_2 mo 2).toInt = (I mo 2).toInt := by rw [nf 2 (by decide) (by decide) (by decide) (by decide) (by decide)]
    have u_4_5 : (I_2 mo 5).toInt = (I mo 5).toInt := by rw [nf 5 (by decide) (by decide) (by decide) (by decide) (by decide)]
    have u_4_14 : (I_2 mo 14).toInt = (I mo 14).toInt := by rw [nf 14 (by decide) (by decide) (by decide) (by decide) (by decide)]
    have u_4_16 : (I_2 mo 16).toInt = (I mo 16).toInt := by rw [nf 16 (by decide) (by decide) (by decide) (by decide) (by decide)]
    have u_4_24 : (I_2 mo 24).toInt = (I mo 24).toInt := by rw [nf 24 (by decide) (by decide) (by decide) (by decide) (by decide)]
    have i8 : I_2 mo 8 = I mo 8 := (show I_2 mo 8 = I mo 8 by rw [eI_2, gup2_k _ _ (by decide)]).trans i8
    have i9 : I_2 mo 9 = I mo 9 := (show I_2 mo 9 = I mo 9 by rw [eI_2, gup2_k _ _ (by decide)]).trans i9
    have i10 : I_2 mo 10 = I mo 10 := (show I_2 mo 10 = I mo 10 by rw [eI_2, gup2_k _ _ (by decide)]).trans i10
    refine z_iconst F dX7_total_17 ?_
    refine lv_istore_n (lv' := [(2, .int (iI 0)), (0, .ref mo), (1, .int (iI rr))]) F.1 F.2.1 dX7_total_18 rfl hl (by decide) rfl (fun ls hl => ?_)
    refine z_iconst F dX7_total_19 ?_
    refine lv_istore_n (lv' := [(3, .int (iI 0)), (2, .int (iI 0)), (0, .ref mo), (1, .int (iI rr))]) F.1 F.2.1 dX7_total_20 rfl hl (by decide) rfl (fun ls hl => ?_)
    have cut_21_4 : ∀ (NN : Nat) (su i : Int) (H : Heap) (locs : List Loc) (ls : Array Slot), zr su → zr i → (0 ≤ i ∧ i ≤ 120) → (iI su = smA (rfM gh AI 0 rr.toNat).2 i.toNat) → ((th = 0 ∧ i ≤ (((rfM gh AI 0 rr.toNat).1 : Nat) : Int)) ∨ (i = 0 ∧ su = 0)) → (120 - i) < ((NN : Nat) : Int) → gH g I_2 R J AI AJ AR H → va_S (gA g) s.heap H locs → lv_has ls 4 [(3, .int (iI i)), (2, .int (iI su)), (0, .ref mo), (1, .int (iI rr))] → W p l e rmX7_totalg s m ([.ref mo, .int (iI rr)] : List Value).toArray below meth c H locs 0 0 (MQ below (gQi g (fun (z : Int) (w : gS) => R = w.2.1 ∧ J = w.2.2.1 ∧ AI = w.2.2.2.1 ∧ AJ = w.2.2.2.2.1 ∧ AR = w.2.2.2.2.2 ∧ (mInv g gh R (w.1) AI) ∧ (nF mo I (w.1)) ∧ (((rr < 0 ∨ (nr : Int) ≤ rr) ∧ ((w.1) mo 17).toInt = 1 ∧ z = 0) ∨ ((0 ≤ rr ∧ rr < (nr : Int)) ∧ ((w.1) mo 17).toInt = 0 ∧ iI z = smA (rfM gh AI 0 rr.toNat).2 (rfM gh AI 0 rr.toNat).1)) ∧ ((w.1) mo 8 = I mo 8 ∧ (w.1) mo 9 = I mo 9 ∧ (w.1) mo 10 = I mo 10))) ([.ref mo, .int (iI rr)] : List Value).toArray s 0 0 (gA g)) (F0 m 21 ls []) := by
      intro NN21
      induction NN21 with
      | zero =>
        intro su i H locs ls zsu zi hi hsm hz1 hm21 hH hS hl
        exact absurd hm21 (by omega)
      | succ NN21 ih21 =>
        intro su i H locs ls zsu zi hi hsm hz1 hm21 hH hS hl
        refine lv_aload_n F.1 F.2.1 dX7_total_21 rfl (lv_at hl 2 rfl) ?_
        refine g_getI (ci := 7) (k := 17) F hH rfl (by decide) iX7 hm (by decide) rfl k60 dX7_total_22 ?_
        refine z_if_ne (tgt := 60) F dX7_total_25 (by decide) (zr_t _) (fun c_6 => ?_) (fun c_6 => ?_)
        · refine lv_iload_n F.1 F.2.1 dX7_total_60 rfl (lv_at hl 1 rfl) ?_
          exact g_iret F hr hlk hH hS hz zsu ⟨rfl, rfl, rfl, rfl, rfl, hv, nf, Or.inl ⟨by omega, by (try dsimp only); omega, by omega⟩, ⟨by (try dsimp only); exact i8, by (try dsimp only); exact i9, by (try dsimp only); exact i10⟩⟩ dX7_total_61
        · refine lv_iload_n F.1 F.2.1 dX7_total_28 rfl (lv_at hl 0 rfl) ?_
          refine lv_aload_n F.1 F.2.1 dX7_total_29 rfl (lv_at hl 2 rfl) ?_
          refine z_iconst F dX7_total_30 ?_
          refine lv_iload_n F.1 F.2.1 dX7_total_31 rfl (lv_at hl 3 rfl) ?_
          have b_7 := mJ hv hm
          unfold mNum1 at b_7
          refine g_calli (g_runV (As := [.int (iI 0), .int (iI rr)]) (rest := [.int (iI i)]) (ci := 7) F hl.1 hH hS hz (c_X7_sizeOf l g gh T I_2 R J AI AJ AR mo 0 rr ⟨by decide, by decide⟩ zrr hv hm hT (by omega) (by omega)) (cwV 2 F.2.2.2.2.1 (good_up gT_X7_sizeOf) rfl rfl rfl hdX7_sizeOf ⟨Nat.le_of_ble_eq_true rfl, Nat.le_of_ble_eq_true rfl⟩) hm (by decide) rfl rfl rfl (Nat.le_of_ble_eq_true rfl) dX7_total_32 ⟨Nat.zero_le _, Nat.zero_le _⟩) hS (fun v_14 I_8 R_9 J_10 AI_11 AJ_12 AR_13 H locs zv_14 hp_15 hH hS => ?_)
          dsimp only at hp_15
          obtain ⟨rfl, rfl, rfl, rfl, rfl, rfl, q_16, qsz⟩ := hp_15
          have hs32 : v_14 = (((rfM gh AI 0 rr.toNat).1 : Nat) : Int) := by rw [rfM_1 (by omega), qsz]; unfold tI; have h8 := (mSz hv hm (z := 16 * 0 + rr) (by omega) (by omega)).1; omega
          refine z_icmp_ge (tgt := 60) F dX7_total_35 (by decide) zi zv_14 (fun c_17 => ?_) (fun c_17 => ?_)
          · refine lv_iload_n F.1 F.2.1 dX7_total_60 rfl (lv_at hl 1 rfl) ?_
            exact g_iret F hr hlk hH hS hz zsu ⟨rfl, rfl, rfl, rfl, rfl, hv, nf, Or.inr ⟨by omega, by (try dsimp only); omega, by rw [← show i.toNat = (rfM gh AI 0 rr.toNat).1 by omega]; exact hsm⟩, ⟨by (try dsimp only); exact i8, by (try dsimp only); exact i9, by (try dsimp only); exact i10⟩⟩ dX7_total_61
          · refine lv_iload_n F.1 F.2.1 dX7_total_38 rfl (lv_at hl 1 rfl) ?_
            refine lv_aload_n F.1 F.2.1 dX7_total_39 rfl (lv_at hl 2 rfl) ?_
            obtain ⟨r_18a, r_18b⟩ : R mo 6 = some (gh 56 0) ∧ gAr g (gh 56 0) 9 126720 := mR hv hm (q := (6, 126720)) (by decide)
            refine g_getR (ci := 7) (k := 6) F hH rfl (by decide) iX7 hm (by decide) rfl (b := gh 56 0) r_18a k24 dX7_total_40 ?_
            refine z_iconst F dX7_total_43 ?_
            refine lv_iload_n F.1 F.2.1 dX7_total_44 rfl (lv_at hl 3 rfl) ?_
            refine lv_iload_n F.1 F.2.1 dX7_total_45 rfl (lv_at hl 0 rfl) ?_
            refine g_calli (g_runS (As := [.int (iI 0), .int (iI rr), .int (iI i)]) (rest := [.ref (gh 56 0), .int (iI su)]) F hl.1 hH hS hz (c_X7_spot l g  I_2 R J AI AJ AR 0 rr i ⟨by decide, by decide⟩ zrr zi (by omega) (by omega) (by omega)) (va_cwS 3 F.2.2.2.2.1 (good_up gT_X7_spot) rfl rfl rfl hdX7_spot.2 ⟨Nat.le_of_ble_eq_true rfl, Nat.le_of_ble_eq_true rfl⟩) rfl rfl (Nat.le_of_ble_eq_true rfl) dX7_total_46 ⟨Nat.zero_le _, Nat.zero_le _⟩) hS (fun v_25 I_19 R_20 J_21 AI_22 AJ_23 AR_24 H locs zv_25 hp_26 hH hS => ?_)
            dsimp only at hp_26
            obtain ⟨rfl, rfl, rfl, rfl, rfl, rfl, q_27⟩ := hp_26
            refine z_iconst F dX7_total_49 ?_
            refine z_iadd F dX7_total_50 ?_
            have hx51 : 0 ≤ (v_25 + 4) ∧ (v_25 + 4) < ((126720 : Nat) : Int) ∧ (v_25 + 4) ≤ 2147483647 := ⟨by omega, by omega, by omega⟩
            refine g_iald F hH r_18b hx51.1 hx51.2.1 hx51.2.2 dX7_total_51 ?_
            refine z_name (fun v_28 ev_28 => ?_)
            have zv_28 : zr v_28 := by rw [ev_28]; exact zr_t _
            have c51 : iI v_28 = (rfM gh AI 0 rr.toNat).2 (6 * i.toNat + 4) := by rw [rfM_2 (by omega) (by omega), ev_28, iI_self]; congr 1; omega
            refine z_iadd F dX7_total_52 ?_
            refine z_norm (fun v_29 zv_29 ev_29 => ?_)
            have hsm9 : iI v_29 = smA (rfM gh AI 0 rr.toNat).2 (i + 1).toNat := by rw [show (i + 1).toNat = i.toNat + 1 by omega, smA, ← hsm, ← c51, iI_add, ev_29]
            refine lv_istore_n (lv' := [(2, .int (iI v_29)), (3, .int (iI i)), (0, .ref mo), (1, .int (iI rr))]) F.1 F.2.1 dX7_total_53 rfl hl (by decide) rfl (fun ls hl => ?_)
            refine z_iinc (lv' := [(3, .int (iI (i + 1))), (2, .int (iI v_29)), (0, .ref mo), (1, .int (iI rr))]) F dX7_total_54 hl (k := 1) rfl (by decide) rfl (fun ls hl => ?_)
            refine z_goto (tgt := 21) F dX7_total_57 (by decide) ?_
            exact ih21 v_29 (i + 1) H locs ls zv_29 ⟨by omega, by omega⟩ (by omega) hsm9 (by omega) (by omega) hH hS (lv_sub hl [0, 1, 2, 3] rfl)
    exact cut_21_4 (((120 - 0) + 1 : Int).toNat) 0 0 H locs ls ⟨by decide, by decide⟩ ⟨by decide, by decide⟩ (by omega) rfl (by omega) (by omega) hH hS (lv_sub hl [0, 1, 2, 3] rfl)
  refine lv_aload_n F.1 F.2.1 dX7_total_1 rfl (lv_at hl 0 rfl) ?_
  refine lv_iload_n F.1 F.2.1 dX7_total_2 rfl (lv_at hl 1 rfl) ?_
  have b_30 := mJ hv hm
  unfold mNum1 at b_30
  refine g_calli (g_runV (As := [.int (iI rr)]) (rest := [.ref mo]) (ci := 7) F hl.1 hH hS hz (c_X7_isRelationf l g gh T I R J AI AJ AR mo rr zrr hv hm hT) (cwV 1 F.2.2.2.2.1 (good_up gT_X7_isRelation) rfl rfl rfl hdX7_isRelation ⟨Nat.le_of_ble_eq_true rfl, Nat.le_of_ble_eq_true rfl⟩) hm (by decide) rfl rfl rfl (Nat.le_of_ble_eq_true rfl) dX7_total_3 ⟨Nat.zero_le _, Nat.zero_le _⟩) hS (fun v_37 I_31 R_32 J_33 AI_34 AJ_35 AR_36 H locs zv_37 hp_38 hH hS => ?_)
  dsimp only at hp_38
  obtain ⟨rfl, rfl, rfl, rfl, rfl, rfl, q_39, qis⟩ := hp_38
  refine z_if_eq (tgt := 13) F dX7_total_6 (by decide) zv_37 (fun c_40 => ?_) (fun c_40 => ?_)
  · refine z_iconst F dX7_total_13 ?_
    exact cut_14_0 1 H locs ls ⟨by decide, by decide⟩ (by omega) (by first | (have h9 := qis (by omega); omega) | omega) hH hS (lv_sub hl [0, 1] rfl)
  · refine z_iconst F dX7_total_9 ?_
    refine z_goto (tgt := 14) F dX7_total_10 (by decide) ?_
    exact cut_14_0 0 H locs ls ⟨by decide, by decide⟩ (by omega) (by first | (have h9 := qis (by omega); omega) | omega) hH hS (lv_sub hl [0, 1] rfl)

def rmX7_movedg : Room := { frames := 2, cells := 0, slots := 0, locals := 54 }
set_option maxHeartbeats 4000000 in
set_option maxRecDepth 100000 in
/-- moved -/
theorem c_X7_movedg (l : Launch) (g : gG) (gh : gGh) (T : Nat → Int32) (nr : Nat) (cl : Nat → Int) (I : gI) (R : gR) (J : gJ) (AI : gI) (AJ : gJ) (AR : gR) (mo : Nat) (rr : Int) (zrr : zr rr) (hv : mInv g gh R I AI) (hm : gO g mo 7) (hT : AI (gh 50 0) = T) (hmr : (I mo 2).toInt = (nr : Int)) (hbg : ∀ r : Nat, r < nr → bgOK (rfM gh AI 0) cl r) (hb9 : ∀ r : Nat, r < nr → bgOK (rfM gh AI 9) cl r) : gMet l g yX7_moved tsX7_moved rmX7_movedg [.ref mo, .int (iI rr)] (I, R, J, AI, AJ, AR) (gQi g (fun (z : Int) (w : gS) => R = w.2.1 ∧ J = w.2.2.1 ∧ AJ = w.2.2.2.2.1 ∧ AR = w.2.2.2.2.2 ∧ (mInv g gh R (w.1) (w.2.2.2.1)) ∧ ((w.2.2.2.1) (gh 50 0) = T) ∧ (nF mo I (w.1)) ∧ (((rr < 0 ∨ (nr : Int) ≤ rr) ∧ z = -1) ∨ ((0 ≤ rr ∧ rr < (nr : Int)) ∧ z = ((bgN (mvF gh AI rr.toNat) : Nat) : Int))) ∧ (∀ b, b ≠ gh 81 0 → (w.2.2.2.1) b = AI b) ∧ ((w.1) mo 8 = I mo 8 ∧ (w.1) mo 9 = I mo 9 ∧ (w.1) mo 10 = I mo 10))) := by
  refine gStart (cc := cX7_moved) (maxL := 2) (ret := (some (.int))) (by decide) rfl (Nat.le_of_ble_eq_true rfl) ?_
  intro p e s m below meth c ls F hr hlk hH hz hS hl
  have hl : lv_has ls 2 [(0, .ref mo), (1, .int (iI rr))] := hl
  have hS : va_S (gA g) s.heap s.heap [] := hS
  obtain ⟨H, hHe⟩ : ∃ H : Heap, H = s.heap := ⟨_, rfl⟩
  obtain ⟨locs, hlo⟩ : ∃ k : List Loc, k = [] := ⟨_, rfl⟩
  have hH : gH g I R J AI AJ AR H := by rw [hHe]; exact hH
  have hS : va_S (gA g) s.heap H locs := by rw [hHe, hlo]; exact hS
  suffices hw : W p l e rmX7_movedg s m ([.ref mo, .int (iI rr)] : List Value).toArray below meth c H locs 0 0 (MQ below (gQi g (fun (z : Int) (w : gS) => R = w.2.1 ∧ J = w.2.2.1 ∧ AJ = w.2.2.2.2.1 ∧ AR = w.2.2.2.2.2 ∧ (mInv g gh R (w.1) (w.2.2.2.1)) ∧ ((w.2.2.2.1) (gh 50 0) = T) ∧ (nF mo I (w.1)) ∧ (((rr < 0 ∨ (nr : Int) ≤ rr) ∧ z = -1) ∨ ((0 ≤ rr ∧ rr < (nr : Int)) ∧ z = ((bgN (mvF gh AI rr.toNat) : Nat) : Int))) ∧ (∀ b, b ≠ gh 81 0 → (w.2.2.2.1) b = AI b) ∧ ((w.1) mo 8 = I mo 8 ∧ (w.1) mo 9 = I mo 9 ∧ (w.1) mo 10 = I mo 10))) ([.ref mo, .int (iI rr)] : List Value).toArray s 0 0 (gA g)) (F0 m 0 ls []) by
    rw [hHe, hlo] at hw; exact hw
  clear hHe hlo
  have nf : nF mo I I := nF_r
  have h56 : AI (gh 56 0) = AI (gh 56 0) := rfl
  have h57 : AI (gh 57 0) = AI (gh 57 0) := rfl
  have hb0 := mJ hv hm
  unfold mNum1 at hb0
  have i8 : I mo 8 = I mo 8 := rfl
  have i9 : I mo 9 = I mo 9 := rfl
  have i10 : I mo 10 = I mo 10 := rfl
  have iX7 : ∀ w ∈ u_ws RX7 TX7 32, w ∈ tsX7_moved := fun w h => List.mem_cons_of_mem _ (inTB7 w h)
  have k60 : Cond.fieldLink RX7 60 (TX7 17).1 (TX7 17).2.1 (TX7 17).2.2.1 ∈ tsX7_moved := List.mem_cons_of_mem _ fl_60
  refine lv_aload_n F.1 F.2.1 dX7_moved_0 rfl (lv_at hl 0 rfl) ?_
  refine z_iconst F dX7_moved_1 ?_
  refine g_putI (ci := 7) (k := 17) F hH hS rfl (by decide) iX7 hm (by decide) tyX7 tyX7_ok nmX7 rfl rfl rfl k60 dX7_moved_2 (fun H locs hH hS => ?_)
  obtain ⟨I_1, eI_1⟩ : ∃ qQ, qQ = gup2 I mo 17 (iI (0)) := ⟨_, rfl⟩
  rw [← eI_1] at hH
  have kI_1 : ∀ b, b ≠ mo → I_1 b = I b := fun b hb => by rw [eI_1]; exact funext fun j => gup2_a _ _ hb
  have w_2 : (I_1 mo 17).toInt = 0 := by rw [eI_1, gup2_s]; exact iI_val ⟨by decide, by decide⟩
  have hv : mInv g gh R I_1 AI := by rw [eI_1]; exact mP17 hv hm
  have nf : nF mo I I_1 := nF_t nf (by rw [eI_1]; exact nF_p (by decide))
  have u_3_2 : (I_1 mo 2).toInt = (I mo 2).toInt := by rw [nf 2 (by decide) (by decide) (by decide) (by decide) (by decide)]
  have u_3_5 : (I_1 mo 5).toInt = (I mo 5).toInt := by rw [nf 5 (by decide) (by decide) (by decide) (by decide) (by decide)]
  have u_3_14 : (I_1 mo 14).toInt = (I mo 14).toInt := by rw [nf 14 (by decide) (by decide) (by decide) (by decide) (by decide)]
  have u_3_16 : (I_1 mo 16).toInt = (I mo 16).toInt := by rw [nf 16 (by decide) (by decide) (by decide) (by decide) (by decide)]
  have u_3_24 : (I_1 mo 24).toInt = (I mo 24).toInt := by rw [nf 24 (by decide) (by decide) (by decide) (by decide) (by decide)]
  have i8 : I_1 mo 8 = I mo 8 := (show I_1 mo 8 = I mo 8 by rw [eI_1, gup2_k _ _ (by decide)]).trans i8
  have i9 : I_1 mo 9 = I mo 9 := (show I_1 mo 9 = I mo 9 by rw [eI_1, gup2_k _ _ (by decide)]).trans i9
  have i10 : I_1 mo 10 = I mo 10 := (show I_1 mo 10 = I mo 10 by rw [eI_1, gup2_k _ _ (by decide)]).trans i10
  refine lv_aload_n F.1 F.2.1 dX7_moved_5 rfl (lv_at hl 0 rfl) ?_
  refine lv_iload_n F.1 F.2.1 dX7_moved_6 rfl (lv_at hl 1 rfl) ?_
  have b_4 := mJ hv hm
  unfold mNum1 at b_4
  refine g_calli (g_runV (As := [.int (iI rr)]) (rest := []) (ci := 7) F hl.1 hH hS hz (c_X7_isRelationf l g gh T I_1 R J AI AJ AR mo rr zrr hv hm hT) (cwV 1 F.2.2.2.2.1 (good_up gT_X7_isRelation) rfl rfl rfl hdX7_isRelation ⟨Nat.le_of_ble_eq_true rfl, Nat.le_of_ble_eq_true rfl⟩) hm (by decide) rfl rfl rfl (Nat.le_of_ble_eq_true rfl) dX7_moved_7 ⟨Nat.zero_le _, Nat.zero_le _⟩) hS (fun v_11 I_5 R_6 J_7 AI_8 AJ_9 AR_10 H locs zv_11 hp_12 hH hS => ?_)
  dsimp only at hp_12
  obtain ⟨rfl, rfl, rfl, rfl, rfl, rfl, q_13, qis⟩ := hp_12
  refine z_if_eq (tgt := 21) F dX7_moved_10 (by decide) zv_11 (fun c_14 => ?_) (fun c_14 => ?_)
  · refine z_iconst F dX7_moved_21 ?_
    exact g_iret F hr hlk hH hS hz ⟨by decide, by decide⟩ ⟨rfl, rfl, rfl, rfl, hv, hT, nf, Or.inl ⟨by have h9 := qis (by omega); omega, rfl⟩, fun _ _ => rfl, ⟨by (try dsimp only); exact i8, by (try dsimp only); exact i9, by (try dsimp only); exact i10⟩⟩ dX7_moved_22
  · refine lv_aload_n F.1 F.2.1 dX7_moved_13 rfl (lv_at hl 0 rfl) ?_
    refine lv_iload_n F.1 F.2.1 dX7_moved_14 rfl (lv_at hl 1 rfl) ?_
    have eF0 : rfM gh AI 0 = rfM gh AI 0 := rfM_g h56 h57
    have eF9 : rfM gh AI 9 = rfM gh AI 9 := rfM_g h56 h57
    have hra := rfM_s (gh := gh) (AI := AI) (sd := 0) (a := rr) (n := (rfM gh AI 0 (rr).toNat).1) (f := (rfM gh AI 0 (rr).toNat).2) (by rw [eF0]) (by omega) (mSz1 hv hm (z := 16 * 0 + rr) (by omega) (by omega)).1
    have hrb := rfM_s (gh := gh) (AI := AI) (sd := 9) (a := rr) (n := (rfM gh AI 9 (rr).toNat).1) (f := (rfM gh AI 9 (rr).toNat).2) (by rw [eF9]) (by omega) (mSz1 hv hm (z := 16 * 9 + rr) (by omega) (by omega)).1
    refine g_calli (g_runV (As := [.int (iI rr)]) (rest := []) (ci := 7) F hl.1 hH hS hz (c_X7_laysMovedf l g gh T ((rfM gh AI 0 (rr).toNat).1) ((rfM gh AI 9 (rr).toNat).1) ((rfM gh AI 0 (rr).toNat).2) ((rfM gh AI 9 (rr).toNat).2) I_1 R J AI AJ AR mo rr zrr hv hm hT (by omega) hra.1 hra.2 hrb.1 hrb.2 (hbg (rr).toNat (by omega)).1 (hb9 (rr).toNat (by omega)).1 ⟨(hbg (rr).toNat (by omega)).2.1, (hb9 (rr).toNat (by omega)).2.1⟩) (cwV 1 F.2.2.2.2.1 (good_up gT_X7_laysMoved) rfl rfl rfl hdX7_laysMoved ⟨Nat.le_of_ble_eq_true rfl, Nat.le_of_ble_eq_true rfl⟩) hm (by decide) rfl rfl rfl (Nat.le_of_ble_eq_true rfl) dX7_moved_15 ⟨Nat.zero_le _, Nat.zero_le _⟩) hS (fun v_21 I_15 R_16 J_17 AI_18 AJ_19 AR_20 H locs zv_21 hp_22 hH hS => ?_)
    dsimp only at hp_22
    obtain ⟨rfl, rfl, rfl, rfl, rfl, hv, hT, haq7, q_23, fMq, qmv⟩ := hp_22
    have hz15 : v_21 = ((bgN (mvF gh AI rr.toNat) : Nat) : Int) := by have h9 := bgN_e qmv; unfold mvF; rw [h9]; omega
    refine z_goto (tgt := 22) F dX7_moved_18 (by decide) ?_
    exact g_iret F hr hlk hH hS hz zv_21 ⟨rfl, rfl, rfl, rfl, hv, hT, nf, Or.inr ⟨by omega, hz15⟩, fMq, ⟨by (try dsimp only); exact i8, by (try dsimp only); exact i9, by (try dsimp only); exact i10⟩⟩ dX7_moved_22

def rmX7_movedAtg : Room := { frames := 3, cells := 0, slots := 0, locals := 65 }
set_option maxHeartbeats 4000000 in
set_option maxRecDepth 100000 in
/-- movedAt -/
theorem c_X7_movedAtg (l : Launch) (g : gG) (gh : gGh) (T : Nat → Int32) (nr : Nat) (cl : Nat → Int) (I : gI) (R : gR) (J : gJ) (AI : gI) (AJ : gJ) (AR : gR) (mo : Nat) (rr : Int) (ip : Int) (wh : Int) (zrr : zr rr) (zip : zr ip) (zwh : zr wh) (hv : mInv g gh R I AI) (hm : gO g mo 7) (hT : AI (gh 50 0) = T) (hmr : (I mo 2).toInt = (nr : Int)) (hbg : ∀ r : Nat, r < nr → bgOK (rfM gh AI 0) cl r) (hb9 : ∀ r : Nat, r < nr → bgOK (rfM gh AI 9) cl r) : gMet l g yX7_movedAt tsX7_movedAt rmX7_movedAtg [.ref mo, .int (iI rr), .int (iI ip), .int (iI wh)] (I, R, J, AI, AJ, AR) (gQi g (fun (z : Int) (w : gS) => R = w.2.1 ∧ J = w.2.2.1 ∧ AJ = w.2.2.2.2.1 ∧ AR = w.2.2.2.2.2 ∧ (mInv g gh R (w.1) (w.2.2.2.1)) ∧ ((w.2.2.2.1) (gh 50 0) = T) ∧ (nF mo I (w.1)) ∧ ((((w.1) mo 17).toInt = 1 ∧ z = 0 ∧ ¬ (tdM T nr rr wh ∧ 0 ≤ ip ∧ ip < ((bgN (mvF gh AI rr.toNat) : Nat) : Int))) ∨ (((w.1) mo 17).toInt = 0 ∧ (tdM T nr rr wh ∧ 0 ≤ ip ∧ ip < ((bgN (mvF gh AI rr.toNat) : Nat) : Int)) ∧ ∃ f : Nat → Int32, isB f (bgN (mvF gh AI rr.toNat)) (mvF gh AI rr.toNat) zM ∧ z = (f (6 * ip.toNat + wh.toNat)).toInt)) ∧ (∀ b, b ≠ gh 81 0 → (w.2.2.2.1) b = AI b) ∧ ((w.1) mo 8 = I mo 8 ∧ (w.1) mo 9 = I mo 9 ∧ (w.1) mo 10 = I mo 10))) := by
  refine gStart (cc := cX7_movedAt) (maxL := 4) (ret := (some (.int))) (by decide) rfl (Nat.le_of_ble_eq_true rfl) ?_
  intro p e s m below meth c ls F hr hlk hH hz hS hl
  have hl : lv_has ls 4 [(0, .ref mo), (1, .int (iI rr)), (2, .int (iI ip)), (3, .int (iI wh))] := hl
  have hS : va_S (gA g) s.heap s.heap [] := hS
  obtain ⟨H, hHe⟩ : ∃ H : Heap, H = s.heap := ⟨_, rfl⟩
  obtain ⟨locs, hlo⟩ : ∃ k : List Loc, k = [] := ⟨_, rfl⟩
  have hH : gH g I R J AI AJ AR H := by rw [hHe]; exact hH
  have hS : va_S (gA g) s.heap H locs := by rw [hHe, hlo]; exact hS
  suffices hw : W p l e rmX7_movedAtg s m ([.ref mo, .int (iI rr), .int (iI ip), .int (iI wh)] : List Value).toArray below meth c H locs 0 0 (MQ below (gQi g (fun (z : Int) (w : gS) => R = w.2.1 ∧ J = w.2.2.1 ∧ AJ = w.2.2.2.2.1 ∧ AR = w.2.2.2.2.2 ∧ (mInv g gh R (w.1) (w.2.2.2.1)) ∧ ((w.2.2.2.1) (gh 50 0) = T) ∧ (nF mo I (w.1)) ∧ ((((w.1) mo 17).toInt = 1 ∧ z = 0 ∧ ¬ (tdM T nr rr wh ∧ 0 ≤ ip ∧ ip < ((bgN (mvF gh AI rr.toNat) : Nat) : Int))) ∨ (((w.1) mo 17).toInt = 0 ∧ (tdM T nr rr wh ∧ 0 ≤ ip ∧ ip < ((bgN (mvF gh AI rr.toNat) : Nat) : Int)) ∧ ∃ f : Nat → Int32, isB f (bgN (mvF gh AI rr.toNat)) (mvF gh AI rr.toNat) zM ∧ z = (f (6 * ip.toNat + wh.toNat)).toInt)) ∧ (∀ b, b ≠ gh 81 0 → (w.2.2.2.1) b = AI b) ∧ ((w.1) mo 8 = I mo 8 ∧ (w.1) mo 9 = I mo 9 ∧ (w.1) mo 10 = I mo 10))) ([.ref mo, .int (iI rr), .int (iI ip), .int (iI wh)] : List Value).toArray s 0 0 (gA g)) (F0 m 0 ls []) by
    rw [hHe, hlo] at hw; exact hw
  clear hHe hlo
  have nf : nF mo I I := nF_r
  have h56 : AI (gh 56 0) = AI (gh 56 0) := rfl
  have h57 : AI (gh 57 0) = AI (gh 57 0) := rfl
  have hb0 := mJ hv hm
  unfold mNum1 at hb0
  have i8 : I mo 8 = I mo 8 := rfl
  have i9 : I mo 9 = I mo 9 := rfl
  have i10 : I mo 10 = I mo 10 := rfl
  have iX7 : ∀ w ∈ u_ws RX7 TX7 32, w ∈ tsX7_movedAt := fun w h => List.mem_cons_of_mem _ (inTB7 w h)
  have k60 : Cond.fieldLink RX7 60 (TX7 17).1 (TX7 17).2.1 (TX7 17).2.2.1 ∈ tsX7_movedAt := List.mem_cons_of_mem _ fl_60
  have k57 : Cond.fieldLink RX7 57 (TX7 31).1 (TX7 31).2.1 (TX7 31).2.2.1 ∈ tsX7_movedAt := List.mem_cons_of_mem _ fl_57
  refine lv_aload_n F.1 F.2.1 dX7_movedAt_0 rfl (lv_at hl 0 rfl) ?_
  refine lv_aload_n F.1 F.2.1 dX7_movedAt_1 rfl (lv_at hl 0 rfl) ?_
  refine lv_iload_n F.1 F.2.1 dX7_movedAt_2 rfl (lv_at hl 1 rfl) ?_
  refine lv_iload_n F.1 F.2.1 dX7_movedAt_3 rfl (lv_at hl 3 rfl) ?_
  have b_1 := mJ hv hm
  unfold mNum1 at b_1
  refine g_calli (g_runV (As := [.int (iI rr), .int (iI wh)]) (rest := [.ref mo]) (ci := 7) F hl.1 hH hS hz (c_X7_isToldf l g gh T nr I R J AI AJ AR mo rr wh zrr zwh hv hm hT hmr) (cwV 2 F.2.2.2.2.1 (good_up gT_X7_isTold) rfl rfl rfl hdX7_isTold ⟨Nat.le_of_ble_eq_true rfl, Nat.le_of_ble_eq_true rfl⟩) hm (by decide) rfl rfl rfl (Nat.le_of_ble_eq_true rfl) dX7_movedAt_4 ⟨Nat.zero_le _, Nat.zero_le _⟩) hS (fun v_8 I_2 R_3 J_4 AI_5 AJ_6 AR_7 H locs zv_8 hp_9 hH hS => ?_)
  dsimp only at hp_9
  obtain ⟨rfl, rfl, rfl, rfl, rfl, rfl, q_10, qtd⟩ := hp_9
  refine z_if_eq (tgt := 29) F dX7_movedAt_7 (by decide) zv_8 (fun c_11 => ?_) (fun c_11 => ?_)
  · refine z_iconst F dX7_movedAt_29 ?_
    refine g_putI (ci := 7) (k := 17) F hH hS rfl (by decide) iX7 hm (by decide) tyX7 tyX7_ok nmX7 rfl rfl rfl k60 dX7_movedAt_30 (fun H locs hH hS => ?_)
    obtain ⟨I_12, eI_12⟩ : ∃ qQ, qQ = gup2 I mo 17 (iI (1)) := ⟨_, rfl⟩
    rw [← eI_12] at hH
    have kI_12 : ∀ b, b ≠ mo → I_12 b = I b := fun b hb => by rw [eI_12]; exact funext fun j => gup2_a _ _ hb
    have w_13 : (I_12 mo 17).toInt = 1 := by rw [eI_12, gup2_s]; exact iI_val ⟨by decide, by decide⟩
    have hv : mInv g gh R I_12 AI := by rw [eI_12]; exact mP17 hv hm
    have nf : nF mo I I_12 := nF_t nf (by rw [eI_12]; exact nF_p (by decide))
    have u_14_2 : (I_12 mo 2).toInt = (I mo 2).toInt := by rw [nf 2 (by decide) (by decide) (by decide) (by decide) (by decide)]
    have u_14_5 : (I_12 mo 5).toInt = (I mo 5).toInt := by rw [nf 5 (by decide) (by decide) (by decide) (by decide) (by decide)]
    have u_14_14 : (I_12 mo 14).toInt = (I mo 14).toInt := by rw [nf 14 (by decide) (by decide) (by decide) (by decide) (by decide)]
    have u_14_16 : (I_12 mo 16).toInt = (I mo 16).toInt := by rw [nf 16 (by decide) (by decide) (by decide) (by decide) (by decide)]
    have u_14_24 : (I_12 mo 24).toInt = (I mo 24).toInt := by rw [nf 24 (by decide) (by decide) (by decide) (by decide) (by decide)]
    have i8 : I_12 mo 8 = I mo 8 := (show I_12 mo 8 = I mo 8 by rw [eI_12, gup2_k _ _ (by decide)]).trans i8
    have i9 : I_12 mo 9 = I mo 9 := (show I_12 mo 9 = I mo 9 by rw [eI_12, gup2_k _ _ (by decide)]).trans i9
    have i10 : I_12 mo 10 = I mo 10 := (show I_12 mo 10 = I mo 10 by rw [eI_12, gup2_k _ _ (by decide)]).trans i10
    refine lv_aload_n F.1 F.2.1 dX7_movedAt_33 rfl (lv_at hl 0 rfl) ?_
    refine g_getI (ci := 7) (k := 17) F hH rfl (by decide) iX7 hm (by decide) rfl k60 dX7_movedAt_34 ?_
    refine z_if_ne (tgt := 53) F dX7_movedAt_37 (by decide) (zr_t _) (fun c_15 => ?_) (fun c_15 => ?_)
    · refine z_iconst F dX7_movedAt_53 ?_
      exact g_iret F hr hlk hH hS hz ⟨by decide, by decide⟩ ⟨rfl, rfl, rfl, rfl, hv, hT, nf, Or.inl ⟨by (try dsimp only); omega, rfl, (fun h9 => tIz_0 qtd (by omega) h9.1)⟩, fun _ _ => rfl, ⟨by (try dsimp only); exact i8, by (try dsimp only); exact i9, by (try dsimp only); exact i10⟩⟩ dX7_movedAt_54
    · refine lv_aload_n F.1 F.2.1 dX7_movedAt_40 rfl (lv_at hl 0 rfl) ?_
      obtain ⟨r_16a, r_16b⟩ : R mo 31 = some (gh 81 0) ∧ gAr g (gh 81 0) 9 1200 := mR hv hm (q := (31, 1200)) (by decide)
      refine g_getR (ci := 7) (k := 31) F hH rfl (by decide) iX7 hm (by decide) rfl (b := gh 81 0) r_16a k57 dX7_movedAt_41 ?_
      refine z_iconst F dX7_movedAt_44 ?_
      refine lv_iload_n F.1 F.2.1 dX7_movedAt_45 rfl (lv_at hl 2 rfl) ?_
      refine z_imul F dX7_movedAt_46 ?_
      refine lv_iload_n F.1 F.2.1 dX7_movedAt_47 rfl (lv_at hl 3 rfl) ?_
      refine z_iadd F dX7_movedAt_48 ?_
      have hx49 : 0 ≤ ((5 * ip) + wh) ∧ ((5 * ip) + wh) < ((1200 : Nat) : Int) ∧ ((5 * ip) + wh) ≤ 2147483647 := ⟨by omega, by omega, by omega⟩
      refine g_iald F hH r_16b hx49.1 hx49.2.1 hx49.2.2 dX7_movedAt_49 ?_
      refine z_name (fun v_17 ev_17 => ?_)
      have zv_17 : zr v_17 := by rw [ev_17]; exact zr_t _
      refine z_goto (tgt := 54) F dX7_movedAt_50 (by decide) ?_
      exact g_iret F hr hlk hH hS hz zv_17 ⟨rfl, rfl, rfl, rfl, hv, hT, nf, absurd trivial (by omega), fun _ _ => rfl, ⟨by (try dsimp only); exact i8, by (try dsimp only); exact i9, by (try dsimp only); exact i10⟩⟩ dX7_movedAt_54
  · have htd1 := (tIz_1 qtd (by omega)).1
    refine lv_iload_n F.1 F.2.1 dX7_movedAt_10 rfl (lv_at hl 2 rfl) ?_
    refine z_iconst F dX7_movedAt_11 ?_
    refine lv_aload_n F.1 F.2.1 dX7_movedAt_12 rfl (lv_at hl 0 rfl) ?_
    refine lv_iload_n F.1 F.2.1 dX7_movedAt_13 rfl (lv_at hl 1 rfl) ?_
    have eF0 : rfM gh AI 0 = rfM gh AI 0 := rfM_g h56 h57
    have eF9 : rfM gh AI 9 = rfM gh AI 9 := rfM_g h56 h57
    have hra := rfM_s (gh := gh) (AI := AI) (sd := 0) (a := rr) (n := (rfM gh AI 0 (rr).toNat).1) (f := (rfM gh AI 0 (rr).toNat).2) (by rw [eF0]) (by omega) (mSz1 hv hm (z := 16 * 0 + rr) (by omega) (by omega)).1
    have hrb := rfM_s (gh := gh) (AI := AI) (sd := 9) (a := rr) (n := (rfM gh AI 9 (rr).toNat).1) (f := (rfM gh AI 9 (rr).toNat).2) (by rw [eF9]) (by omega) (mSz1 hv hm (z := 16 * 9 + rr) (by omega) (by omega)).1
    refine g_calli (g_runV (As := [.int (iI rr)]) (rest := [.int (iI 0), .int (iI ip), .ref mo]) (ci := 7) F hl.1 hH hS hz (c_X7_laysMovedf l g gh T ((rfM gh AI 0 (rr).toNat).1) ((rfM gh AI 9 (rr).toNat).1) ((rfM gh AI 0 (rr).toNat).2) ((rfM gh AI 9 (rr).toNat).2) I R J AI AJ AR mo rr zrr hv hm hT (by omega) hra.1 hra.2 hrb.1 hrb.2 (hbg (rr).toNat (by omega)).1 (hb9 (rr).toNat (by omega)).1 ⟨(hbg (rr).toNat (by omega)).2.1, (hb9 (rr).toNat (by omega)).2.1⟩) (cwV 1 F.2.2.2.2.1 (good_up gT_X7_laysMoved) rfl rfl rfl hdX7_laysMoved ⟨Nat.le_of_ble_eq_true rfl, Nat.le_of_ble_eq_true rfl⟩) hm (by decide) rfl rfl rfl (Nat.le_of_ble_eq_true rfl) dX7_movedAt_14 ⟨Nat.zero_le _, Nat.zero_le _⟩) hS (fun v_24 I_18 R_19 J_20 AI_21 AJ_22 AR_23 H locs zv_24 hp_25 hH hS => ?_)
    dsimp only at hp_25
    obtain ⟨rfl, rfl, rfl, rfl, rfl, hv, hT, haq7, q_26, fMq, qmv⟩ := hp_25
    have hz14 : v_24 = ((bgN (mvF gh AI rr.toNat) : Nat) : Int) := by have h9 := bgN_e qmv; unfold mvF; rw [h9]; omega
    have hB9 : isB (w65 (AI_21 (gh 81 0))) (bgN (mvF gh AI rr.toNat)) (mvF gh AI rr.toNat) zM := by have h9 := bgN_e qmv; unfold mvF; rw [h9]; exact qmv
    clear qmv
    refine z_iconst F dX7_movedAt_17 ?_
    refine z_isub F dX7_movedAt_18 ?_
    refine g_calli (g_runS (As := [.int (iI ip), .int (iI 0), .int (iI (v_24 - 1))]) (rest := [.ref mo]) F hl.1 hH hS hz (c_X7_within l g  I R J AI_21 AJ AR ip 0 (v_24 - 1) zip ⟨by decide, by decide⟩ ⟨by omega, by omega⟩) (va_cwS 3 F.2.2.2.2.1 (good_up gT_X7_within) rfl rfl rfl hdX7_within.2 ⟨Nat.le_of_ble_eq_true rfl, Nat.le_of_ble_eq_true rfl⟩) rfl rfl (Nat.le_of_ble_eq_true rfl) dX7_movedAt_19 ⟨Nat.zero_le _, Nat.zero_le _⟩) hS (fun v_33 I_27 R_28 J_29 AI_30 AJ_31 AR_32 H locs zv_33 hp_34 hH hS => ?_)
    dsimp only at hp_34
    obtain ⟨rfl, rfl, rfl, rfl, rfl, rfl, q_35⟩ := hp_34
    refine z_if_eq (tgt := 29) F dX7_movedAt_22 (by decide) zv_33 (fun c_36 => ?_) (fun c_36 => ?_)
    · refine z_iconst F dX7_movedAt_29 ?_
      refine g_putI (ci := 7) (k := 17) F hH hS rfl (by decide) iX7 hm (by decide) tyX7 tyX7_ok nmX7 rfl rfl rfl k60 dX7_movedAt_30 (fun H locs hH hS => ?_)
      obtain ⟨I_37, eI_37⟩ : ∃ qQ, qQ = gup2 I mo 17 (iI (1)) := ⟨_, rfl⟩
      rw [← eI_37] at hH
      have kI_37 : ∀ b, b ≠ mo → I_37 b = I b := fun b hb => by rw [eI_37]; exact funext fun j => gup2_a _ _ hb
      have w_38 : (I_37 mo 17).toInt = 1 := by rw [eI_37, gup2_s]; exact iI_val ⟨by decide, by decide⟩
      have hv : mInv g gh R I_37 AI_21 := by rw [eI_37]; exact mP17 hv hm
      have nf : nF mo I I_37 := nF_t nf (by rw [eI_37]; exact nF_p (by decide))
      have u_39_2 : (I_37 mo 2).toInt = (I mo 2).toInt := by rw [nf 2 (by decide) (by decide) (by decide) (by decide) (by decide)]
      have u_39_5 : (I_37 mo 5).toInt = (I mo 5).toInt := by rw [nf 5 (by decide) (by decide) (by decide) (by decide) (by decide)]
      have u_39_14 : (I_37 mo 14).toInt = (I mo 14).toInt := by rw [nf 14 (by decide) (by decide) (by decide) (by decide) (by decide)]
      have u_39_16 : (I_37 mo 16).toInt = (I mo 16).toInt := by rw [nf 16 (by decide) (by decide) (by decide) (by decide) (by decide)]
      have u_39_24 : (I_37 mo 24).toInt = (I mo 24).toInt := by rw [nf 24 (by decide) (by decide) (by decide) (by decide) (by decide)]
      have i8 : I_37 mo 8 = I mo 8 := (show I_37 mo 8 = I mo 8 by rw [eI_37, gup2_k _ _ (by decide)]).trans i8
      have i9 : I_37 mo 9 = I mo 9 := (show I_37 mo 9 = I mo 9 by rw [eI_37, gup2_k _ _ (by decide)]).trans i9
      have i10 : I_37 mo 10 = I mo 10 := (show I_37 mo 10 = I mo 10 by rw [eI_37, gup2_k _ _ (by decide)]).trans i10
      refine lv_aload_n F.1 F.2.1 dX7_movedAt_33 rfl (lv_at hl 0 rfl) ?_
      refine g_getI (ci := 7) (k := 17) F hH rfl (by decide) iX7 hm (by decide) rfl k60 dX7_movedAt_34 ?_
      refine z_if_ne (tgt := 53) F dX7_movedAt_37 (by decide) (zr_t _) (fun c_40 => ?_) (fun c_40 => ?_)
      · refine z_iconst F dX7_movedAt_53 ?_
        exact g_iret F hr hlk hH hS hz ⟨by decide, by decide⟩ ⟨rfl, rfl, rfl, rfl, hv, hT, nf, Or.inl ⟨by (try dsimp only); omega, rfl, (fun h9 => by have h8 := h9.2; omega)⟩, fMq, ⟨by (try dsimp only); exact i8, by (try dsimp only); exact i9, by (try dsimp only); exact i10⟩⟩ dX7_movedAt_54
      · refine lv_aload_n F.1 F.2.1 dX7_movedAt_40 rfl (lv_at hl 0 rfl) ?_
        obtain ⟨r_41a, r_41b⟩ : R mo 31 = some (gh 81 0) ∧ gAr g (gh 81 0) 9 1200 := mR hv hm (q := (31, 1200)) (by decide)
        refine g_getR (ci := 7) (k := 31) F hH rfl (by decide) iX7 hm (by decide) rfl (b := gh 81 0) r_41a k57 dX7_movedAt_41 ?_
        refine z_iconst F dX7_movedAt_44 ?_
        refine lv_iload_n F.1 F.2.1 dX7_movedAt_45 rfl (lv_at hl 2 rfl) ?_
        refine z_imul F dX7_movedAt_46 ?_
        refine lv_iload_n F.1 F.2.1 dX7_movedAt_47 rfl (lv_at hl 3 rfl) ?_
        refine z_iadd F dX7_movedAt_48 ?_
        have hx49 : 0 ≤ ((5 * ip) + wh) ∧ ((5 * ip) + wh) < ((1200 : Nat) : Int) ∧ ((5 * ip) + wh) ≤ 2147483647 := ⟨by omega, by omega, by omega⟩
        refine g_iald F hH r_41b hx49.1 hx49.2.1 hx49.2.2 dX7_movedAt_49 ?_
        refine z_name (fun v_42 ev_42 => ?_)
        have zv_42 : zr v_42 := by rw [ev_42]; exact zr_t _
        refine z_goto (tgt := 54) F dX7_movedAt_50 (by decide) ?_
        exact g_iret F hr hlk hH hS hz zv_42 ⟨rfl, rfl, rfl, rfl, hv, hT, nf, absurd trivial (by omega), fMq, ⟨by (try dsimp only); exact i8, by (try dsimp only); exact i9, by (try dsimp only); exact i10⟩⟩ dX7_movedAt_54
    · refine z_iconst F dX7_movedAt_25 ?_
      refine z_goto (tgt := 30) F dX7_movedAt_26 (by decide) ?_
      refine g_putI (ci := 7) (k := 17) F hH hS rfl (by decide) iX7 hm (by decide) tyX7 tyX7_ok nmX7 rfl rfl rfl k60 dX7_movedAt_30 (fun H locs hH hS => ?_)
      obtain ⟨I_43, eI_43⟩ : ∃ qQ, qQ = gup2 I mo 17 (iI (0)) := ⟨_, rfl⟩
      rw [← eI_43] at hH
      have kI_43 : ∀ b, b ≠ mo → I_43 b = I b := fun b hb => by rw [eI_43]; exact funext fun j => gup2_a _ _ hb
      have w_44 : (I_43 mo 17).toInt = 0 := by rw [eI_43, gup2_s]; exact iI_val ⟨by decide, by decide⟩
      have hv : mInv g gh R I_43 AI_21 := by rw [eI_43]; exact mP17 hv hm
      have nf : nF mo I I_43 := nF_t nf (by rw [eI_43]; exact nF_p (by decide))
      have u_45_2 : (I_43 mo 2).toInt = (I mo 2).toInt := by rw [nf 2 (by decide) (by decide) (by decide) (by decide) (by decide)]
      have u_45_5 : (I_43 mo 5).toInt = (I mo 5).toInt := by rw [nf 5 (by decide) (by decide) (by decide) (by decide) (by decide)]
      have u_45_14 : (I_43 mo 14).toInt = (I mo 14).toInt := by rw [nf 14 (by decide) (by decide) (by decide) (by decide) (by decide)]
      have u_45_16 : (I_43 mo 16).toInt = (I mo 16).toInt := by rw [nf 16 (by decide) (by decide) (by decide) (by decide) (by decide)]
      have u_45_24 : (I_43 mo 24).toInt = (I mo 24).toInt := by rw [nf 24 (by decide) (by decide) (by decide) (by decide) (by decide)]
      have i8 : I_43 mo 8 = I mo 8 := (show I_43 mo 8 = I mo 8 by rw [eI_43, gup2_k _ _ (by decide)]).trans i8
      have i9 : I_43 mo 9 = I mo 9 := (show I_43 mo 9 = I mo 9 by rw [eI_43, gup2_k _ _ (by decide)]).trans i9
      have i10 : I_43 mo 10 = I mo 10 := (show I_43 mo 10 = I mo 10 by rw [eI_43, gup2_k _ _ (by decide)]).trans i10
      refine lv_aload_n F.1 F.2.1 dX7_movedAt_33 rfl (lv_at hl 0 rfl) ?_
      refine g_getI (ci := 7) (k := 17) F hH rfl (by decide) iX7 hm (by decide) rfl k60 dX7_movedAt_34 ?_
      refine z_if_ne (tgt := 53) F dX7_movedAt_37 (by decide) (zr_t _) (fun c_46 => ?_) (fun c_46 => ?_)
      · refine z_iconst F dX7_movedAt_53 ?_
        exact g_iret F hr hlk hH hS hz ⟨by decide, by decide⟩ ⟨rfl, rfl, rfl, rfl, hv, hT, nf, absurd trivial (by omega), fMq, ⟨by (try dsimp only); exact i8, by (try dsimp only); exact i9, by (try dsimp only); exact i10⟩⟩ dX7_movedAt_54
      · refine lv_aload_n F.1 F.2.1 dX7_movedAt_40 rfl (lv_at hl 0 rfl) ?_
        obtain ⟨r_47a, r_47b⟩ : R mo 31 = some (gh 81 0) ∧ gAr g (gh 81 0) 9 1200 := mR hv hm (q := (31, 1200)) (by decide)
        refine g_getR (ci := 7) (k := 31) F hH rfl (by decide) iX7 hm (by decide) rfl (b := gh 81 0) r_47a k57 dX7_movedAt_41 ?_
        refine z_iconst F dX7_movedAt_44 ?_
        refine lv_iload_n F.1 F.2.1 dX7_movedAt_45 rfl (lv_at hl 2 rfl) ?_
        refine z_imul F dX7_movedAt_46 ?_
        refine lv_iload_n F.1 F.2.1 dX7_movedAt_47 rfl (lv_at hl 3 rfl) ?_
        refine z_iadd F dX7_movedAt_48 ?_
        have hx49 : 0 ≤ ((5 * ip) + wh) ∧ ((5 * ip) + wh) < ((1200 : Nat) : Int) ∧ ((5 * ip) + wh) ≤ 2147483647 := ⟨by omega, by omega, by omega⟩
        refine g_iald F hH r_47b hx49.1 hx49.2.1 hx49.2.2 dX7_movedAt_49 ?_
        refine z_name (fun v_48 ev_48 => ?_)
        have zv_48 : zr v_48 := by rw [ev_48]; exact zr_t _
        have c49 : v_48 = (w65 (AI_21 (gh 81 0)) (6 * ip.toNat + wh.toNat)).toInt := by rw [w65_k (by omega), ev_48]; congr 2; omega
        refine z_goto (tgt := 54) F dX7_movedAt_50 (by decide) ?_
        exact g_iret F hr hlk hH hS hz zv_48 ⟨rfl, rfl, rfl, rfl, hv, hT, nf, Or.inr ⟨by (try dsimp only); omega, ⟨tIz_1 qtd (by omega), by omega, by omega⟩, _, hB9, c49⟩, fMq, ⟨by (try dsimp only); exact i8, by (try dsimp only); exact i9, by (try dsimp only); exact i10⟩⟩ dX7_movedAt_54

def rmX7_cameg : Room := { frames := 3, cells := 0, slots := 0, locals := 76 }
set_option maxHeartbeats 4000000 in
set_option maxRecDepth 100000 in
/-- came -/
theorem c_X7_cameg (l : Launch) (g : gG) (gh : gGh) (T : Nat → Int32) (tbs : Int) (nr : Nat) (cc : Nat → LC) (cl : Nat → Int) (I : gI) (R : gR) (J : gJ) (AI : gI) (AJ : gJ) (AR : gR) (mo : Nat) (rr : Int) (zrr : zr rr) (hv : mInv g gh R I AI) (hm : gO g mo 7) (hT : AI (gh 50 0) = T) (hmr : (I mo 2).toInt = (nr : Int)) (hpl : plM9 T tbs nr cc cl) (hbg : ∀ r : Nat, r < nr → bgOK (rfM gh AI 0) cl r) (hb9 : ∀ r : Nat, r < nr → bgOK (rfM gh AI 9) cl r) : gMet l g yX7_came tsX7_came rmX7_cameg [.ref mo, .int (iI rr)] (I, R, J, AI, AJ, AR) (gQi g (fun (z : Int) (w : gS) => R = w.2.1 ∧ J = w.2.2.1 ∧ AJ = w.2.2.2.2.1 ∧ AR = w.2.2.2.2.2 ∧ (mInv g gh R (w.1) (w.2.2.2.1)) ∧ ((w.2.2.2.1) (gh 50 0) = T) ∧ (nF mo I (w.1)) ∧ ((((rr < 0 ∨ (nr : Int) ≤ rr) ∨ tI T (40 * rr) = 0) ∧ z = -1) ∨ (((0 ≤ rr ∧ rr < (nr : Int)) ∧ tI T (40 * rr) ≠ 0) ∧ z = ((bgN (mvF gh AI ((cc rr.toNat).1 2).toNat) : Nat) : Int) + (if (cc rr.toNat).1 3 < 0 then 0 else ((bgN (mvF gh AI ((cc rr.toNat).1 3).toNat) : Nat) : Int)))) ∧ (∀ b, b ≠ gh 81 0 → (w.2.2.2.1) b = AI b) ∧ ((w.1) mo 8 = I mo 8 ∧ (w.1) mo 9 = I mo 9 ∧ (w.1) mo 10 = I mo 10))) := by
  refine gStart (cc := cX7_came) (maxL := 2) (ret := (some (.int))) (by decide) rfl (Nat.le_of_ble_eq_true rfl) ?_
  intro p e s m below meth c ls F hr hlk hH hz hS hl
  have hl : lv_has ls 2 [(0, .ref mo), (1, .int (iI rr))] := hl
  have hS : va_S (gA g) s.heap s.heap [] := hS
  obtain ⟨H, hHe⟩ : ∃ H : Heap, H = s.heap := ⟨_, rfl⟩
  obtain ⟨locs, hlo⟩ : ∃ k : List Loc, k = [] := ⟨_, rfl⟩
  have hH : gH g I R J AI AJ AR H := by rw [hHe]; exact hH
  have hS : va_S (gA g) s.heap H locs := by rw [hHe, hlo]; exact hS
  suffices hw : W p l e rmX7_cameg s m ([.ref mo, .int (iI rr)] : List Value).toArray below meth c H locs 0 0 (MQ below (gQi g (fun (z : Int) (w : gS) => R = w.2.1 ∧ J = w.2.2.1 ∧ AJ = w.2.2.2.2.1 ∧ AR = w.2.2.2.2.2 ∧ (mInv g gh R (w.1) (w.2.2.2.1)) ∧ ((w.2.2.2.1) (gh 50 0) = T) ∧ (nF mo I (w.1)) ∧ ((((rr < 0 ∨ (nr : Int) ≤ rr) ∨ tI T (40 * rr) = 0) ∧ z = -1) ∨ (((0 ≤ rr ∧ rr < (nr : Int)) ∧ tI T (40 * rr) ≠ 0) ∧ z = ((bgN (mvF gh AI ((cc rr.toNat).1 2).toNat) : Nat) : Int) + (if (cc rr.toNat).1 3 < 0 then 0 else ((bgN (mvF gh AI ((cc rr.toNat).1 3).toNat) : Nat) : Int)))) ∧ (∀ b, b ≠ gh 81 0 → (w.2.2.2.1) b = AI b) ∧ ((w.1) mo 8 = I mo 8 ∧ (w.1) mo 9 = I mo 9 ∧ (w.1) mo 10 = I mo 10))) ([.ref mo, .int (iI rr)] : List Value).toArray s 0 0 (gA g)) (F0 m 0 ls []) by
    rw [hHe, hlo] at hw; exact hw
  clear hHe hlo
  have nf : nF mo I I := nF_r
  have h56 : AI (gh 56 0) = AI (gh 56 0) := rfl
  have h57 : AI (gh 57 0) = AI (gh 57 0) := rfl
  have hb0 := mJ hv hm
  unfold mNum1 at hb0
  have i8 : I mo 8 = I mo 8 := rfl
  have i9 : I mo 9 = I mo 9 := rfl
  have i10 : I mo 10 = I mo 10 := rfl
  have iX7 : ∀ w ∈ u_ws RX7 TX7 32, w ∈ tsX7_came := fun w h => List.mem_cons_of_mem _ (inTB7 w h)
  have k60 : Cond.fieldLink RX7 60 (TX7 17).1 (TX7 17).2.1 (TX7 17).2.2.1 ∈ tsX7_came := List.mem_cons_of_mem _ fl_60
  refine lv_aload_n F.1 F.2.1 dX7_came_0 rfl (lv_at hl 0 rfl) ?_
  refine z_iconst F dX7_came_1 ?_
  refine g_putI (ci := 7) (k := 17) F hH hS rfl (by decide) iX7 hm (by decide) tyX7 tyX7_ok nmX7 rfl rfl rfl k60 dX7_came_2 (fun H locs hH hS => ?_)
  obtain ⟨I_1, eI_1⟩ : ∃ qQ, qQ = gup2 I mo 17 (iI (0)) := ⟨_, rfl⟩
  rw [← eI_1] at hH
  have kI_1 : ∀ b, b ≠ mo → I_1 b = I b := fun b hb => by rw [eI_1]; exact funext fun j => gup2_a _ _ hb
  have w_2 : (I_1 mo 17).toInt = 0 := by rw [eI_1, gup2_s]; exact iI_val ⟨by decide, by decide⟩
  have hv : mInv g gh R I_1 AI := by rw [eI_1]; exact mP17 hv hm
  have nf : nF mo I I_1 := nF_t nf (by rw [eI_1]; exact nF_p (by decide))
  have u_3_2 : (I_1 mo 2).toInt = (I mo 2).toInt := by rw [nf 2 (by decide) (by decide) (by decide) (by decide) (by decide)]
  have u_3_5 : (I_1 mo 5).toInt = (I mo 5).toInt := by rw [nf 5 (by decide) (by decide) (by decide) (by decide) (by decide)]
  have u_3_14 : (I_1 mo 14).toInt = (I mo 14).toInt := by rw [nf 14 (by decide) (by decide) (by decide) (by decide) (by decide)]
  have u_3_16 : (I_1 mo 16).toInt = (I mo 16).toInt := by rw [nf 16 (by decide) (by decide) (by decide) (by decide) (by decide)]
  have u_3_24 : (I_1 mo 24).toInt = (I mo 24).toInt := by rw [nf 24 (by decide) (by decide) (by decide) (by decide) (by decide)]
  have i8 : I_1 mo 8 = I mo 8 := (show I_1 mo 8 = I mo 8 by rw [eI_1, gup2_k _ _ (by decide)]).trans i8
  have i9 : I_1 mo 9 = I mo 9 := (show I_1 mo 9 = I mo 9 by rw [eI_1, gup2_k _ _ (by decide)]).trans i9
  have i10 : I_1 mo 10 = I mo 10 := (show I_1 mo 10 = I mo 10 by rw [eI_1, gup2_k _ _ (by decide)]).trans i10
  refine lv_aload_n F.1 F.2.1 dX7_came_5 rfl (lv_at hl 0 rfl) ?_
  refine lv_iload_n F.1 F.2.1 dX7_came_6 rfl (lv_at hl 1 rfl) ?_
  have b_4 := mJ hv hm
  unfold mNum1 at b_4
  refine g_calli (g_runV (As := [.int (iI rr)]) (rest := []) (ci := 7) F hl.1 hH hS hz (c_X7_isRelationf l g gh T I_1 R J AI AJ AR mo rr zrr hv hm hT) (cwV 1 F.2.2.2.2.1 (good_up gT_X7_isRelation) rfl rfl rfl hdX7_isRelation ⟨Nat.le_of_ble_eq_true rfl, Nat.le_of_ble_eq_true rfl⟩) hm (by decide) rfl rfl rfl (Nat.le_of_ble_eq_true rfl) dX7_came_7 ⟨Nat.zero_le _, Nat.zero_le _⟩) hS (fun v_11 I_5 R_6 J_7 AI_8 AJ_9 AR_10 H locs zv_11 hp_12 hH hS => ?_)
  dsimp only at hp_12
  obtain ⟨rfl, rfl, rfl, rfl, rfl, rfl, q_13, qis⟩ := hp_12
  refine z_if_eq (tgt := 29) F dX7_came_10 (by decide) zv_11 (fun c_14 => ?_) (fun c_14 => ?_)
  · refine z_iconst F dX7_came_29 ?_
    exact g_iret F hr hlk hH hS hz ⟨by decide, by decide⟩ ⟨rfl, rfl, rfl, rfl, hv, hT, nf, Or.inl ⟨Or.inl (by have h9 := qis (by omega); omega), rfl⟩, fun _ _ => rfl, ⟨by (try dsimp only); exact i8, by (try dsimp only); exact i9, by (try dsimp only); exact i10⟩⟩ dX7_came_30
  · refine lv_aload_n F.1 F.2.1 dX7_came_13 rfl (lv_at hl 0 rfl) ?_
    refine lv_iload_n F.1 F.2.1 dX7_came_14 rfl (lv_at hl 1 rfl) ?_
    refine g_calli (g_runV (As := [.int (iI rr)]) (rest := []) (ci := 7) F hl.1 hH hS hz (c_X7_kindOf l g gh T I_1 R J AI AJ AR mo rr zrr hv hm hT (by omega)) (cwV 1 F.2.2.2.2.1 (good_up gT_X7_kindOf) rfl rfl rfl hdX7_kindOf ⟨Nat.le_of_ble_eq_true rfl, Nat.le_of_ble_eq_true rfl⟩) hm (by decide) rfl rfl rfl (Nat.le_of_ble_eq_true rfl) dX7_came_15 ⟨Nat.zero_le _, Nat.zero_le _⟩) hS (fun v_21 I_15 R_16 J_17 AI_18 AJ_19 AR_20 H locs zv_21 hp_22 hH hS => ?_)
    dsimp only at hp_22
    obtain ⟨rfl, rfl, rfl, rfl, rfl, rfl, qk0⟩ := hp_22
    refine z_if_eq (tgt := 29) F dX7_came_18 (by decide) zv_21 (fun c_23 => ?_) (fun c_23 => ?_)
    · refine z_iconst F dX7_came_29 ?_
      exact g_iret F hr hlk hH hS hz ⟨by decide, by decide⟩ ⟨rfl, rfl, rfl, rfl, hv, hT, nf, Or.inl ⟨Or.inr (by omega), rfl⟩, fun _ _ => rfl, ⟨by (try dsimp only); exact i8, by (try dsimp only); exact i9, by (try dsimp only); exact i10⟩⟩ dX7_came_30
    · have hkv : tbs ≤ rr := Classical.byContradiction fun h9 => absurd (hpl.2.1 rr (by omega) (by omega)) (by omega)
      have hlv9 := hpl.2.2 rr.toNat (by omega) (by omega)
      rw [show ((rr.toNat : Nat) : Int) = rr by omega] at hlv9
      refine lv_aload_n F.1 F.2.1 dX7_came_21 rfl (lv_at hl 0 rfl) ?_
      refine lv_iload_n F.1 F.2.1 dX7_came_22 rfl (lv_at hl 1 rfl) ?_
      refine g_calli (g_runV (As := [.int (iI rr)]) (rest := []) (ci := 7) F hl.1 hH hS hz (c_X7_cameTof l g gh T (cc rr.toNat) nr cl I_1 R J AI AJ AR mo rr zrr hv hm hT (by omega) (by omega) (by omega) hlv9.1 hlv9.2.1 hbg hb9) (cwV 1 F.2.2.2.2.1 (good_up gT_X7_cameTo) rfl rfl rfl hdX7_cameTo ⟨Nat.le_of_ble_eq_true rfl, Nat.le_of_ble_eq_true rfl⟩) hm (by decide) rfl rfl rfl (Nat.le_of_ble_eq_true rfl) dX7_came_23 ⟨Nat.zero_le _, Nat.zero_le _⟩) hS (fun v_30 I_24 R_25 J_26 AI_27 AJ_28 AR_29 H locs zv_30 hp_31 hH hS => ?_)
      dsimp only at hp_31
      obtain ⟨rfl, rfl, rfl, rfl, rfl, hv, hT, q_32, fMq, qct⟩ := hp_31
      refine z_goto (tgt := 30) F dX7_came_26 (by decide) ?_
      exact g_iret F hr hlk hH hS hz zv_30 ⟨rfl, rfl, rfl, rfl, hv, hT, nf, Or.inr ⟨⟨by omega, by omega⟩, qct⟩, fMq, ⟨by (try dsimp only); exact i8, by (try dsimp only); exact i9, by (try dsimp only); exact i10⟩⟩ dX7_came_30

def rmX7_roundg : Room := { frames := 2, cells := 0, slots := 0, locals := 52 }
set_option maxHeartbeats 4000000 in
set_option maxRecDepth 100000 in
/-- round -/
theorem c_X7_roundg (l : Launch) (g : gG) (gh : gGh) (T : Nat → Int32) (nr : Nat) (cl : Nat → Int) (I : gI) (R : gR) (J : gJ) (AI : gI) (AJ : gJ) (AR : gR) (mo : Nat) (rr : Int) (a1 : Int) (b1 : Int) (c1 : Int) (d1 : Int) (zrr : zr rr) (za1 : zr a1) (zb1 : zr b1) (zc1 : zr c1) (zd1 : zr d1) (hv : mInv g gh R I AI) (hm : gO g mo 7) (hT : AI (gh 50 0) = T) (hmr : (I mo 2).toInt = (nr : Int)) (hbg : ∀ r : Nat, r < nr → bgOK (rfM gh AI 0) cl r) : gMet l g yX7_round tsX7_round rmX7_roundg [.ref mo, .int (iI rr), .int (iI a1), .int (iI b1), .int (iI c1), .int (iI d1)] (I, R, J, AI, AJ, AR) (gQi g (fun (z : Int) (w : gS) => R = w.2.1 ∧ J = w.2.2.1 ∧ AJ = w.2.2.2.2.1 ∧ AR = w.2.2.2.2.2 ∧ (mInv g gh R (w.1) (w.2.2.2.1)) ∧ ((w.2.2.2.1) (gh 50 0) = T) ∧ (nF mo I (w.1)) ∧ ((((rr < 0 ∨ (nr : Int) ≤ rr) ∨ tI T (40 * rr) ≠ 8) ∧ z = -1) ∨ (((0 ≤ rr ∧ rr < (nr : Int)) ∧ tI T (40 * rr) = 8) ∧ mkR (rfM gh AI 0 rr.toNat).2 (rfM gh AI 0 rr.toNat).1 (kyT (tI T (40 * rr + 1)) a1 b1 c1 d1) z)) ∧ ((w.1) mo 8 = I mo 8 ∧ (w.1) mo 9 = I mo 9 ∧ (w.1) mo 10 = I mo 10) ∧ (∀ b, b ≠ gh 77 0 → (w.2.2.2.1) b = AI b))) := by
  refine gStart (cc := cX7_round) (maxL := 7) (ret := (some (.int))) (by decide) rfl (Nat.le_of_ble_eq_true rfl) ?_
  intro p e s m below meth c ls F hr hlk hH hz hS hl
  have hl : lv_has ls 7 [(0, .ref mo), (1, .int (iI rr)), (2, .int (iI a1)), (3, .int (iI b1)), (4, .int (iI c1)), (5, .int (iI d1))] := hl
  have hS : va_S (gA g) s.heap s.heap [] := hS
  obtain ⟨H, hHe⟩ : ∃ H : Heap, H = s.heap := ⟨_, rfl⟩
  obtain ⟨locs, hlo⟩ : ∃ k : List Loc, k = [] := ⟨_, rfl⟩
  have hH : gH g I R J AI AJ AR H := by rw [hHe]; exact hH
  have hS : va_S (gA g) s.heap H locs := by rw [hHe, hlo]; exact hS
  suffices hw : W p l e rmX7_roundg s m ([.ref mo, .int (iI rr), .int (iI a1), .int (iI b1), .int (iI c1), .int (iI d1)] : List Value).toArray below meth c H locs 0 0 (MQ below (gQi g (fun (z : Int) (w : gS) => R = w.2.1 ∧ J = w.2.2.1 ∧ AJ = w.2.2.2.2.1 ∧ AR = w.2.2.2.2.2 ∧ (mInv g gh R (w.1) (w.2.2.2.1)) ∧ ((w.2.2.2.1) (gh 50 0) = T) ∧ (nF mo I (w.1)) ∧ ((((rr < 0 ∨ (nr : Int) ≤ rr) ∨ tI T (40 * rr) ≠ 8) ∧ z = -1) ∨ (((0 ≤ rr ∧ rr < (nr : Int)) ∧ tI T (40 * rr) = 8) ∧ mkR (rfM gh AI 0 rr.toNat).2 (rfM gh AI 0 rr.toNat).1 (kyT (tI T (40 * rr + 1)) a1 b1 c1 d1) z)) ∧ ((w.1) mo 8 = I mo 8 ∧ (w.1) mo 9 = I mo 9 ∧ (w.1) mo 10 = I mo 10) ∧ (∀ b, b ≠ gh 77 0 → (w.2.2.2.1) b = AI b))) ([.ref mo, .int (iI rr), .int (iI a1), .int (iI b1), .int (iI c1), .int (iI d1)] : List Value).toArray s 0 0 (gA g)) (F0 m 0 ls []) by
    rw [hHe, hlo] at hw; exact hw
  clear hHe hlo
  have nf : nF mo I I := nF_r
  have i8 : I mo 8 = I mo 8 := rfl
  have i9 : I mo 9 = I mo 9 := rfl
  have i10 : I mo 10 = I mo 10 := rfl
  have fAX : ∀ b, b ≠ gh 77 0 → AI b = AI b := fun _ _ => rfl
  have iX7 : ∀ w ∈ u_ws RX7 TX7 32, w ∈ tsX7_round := fun w h => List.mem_cons_of_mem _ (inTB7 w h)
  have k60 : Cond.fieldLink RX7 60 (TX7 17).1 (TX7 17).2.1 (TX7 17).2.2.1 ∈ tsX7_round := List.mem_cons_of_mem _ fl_60
  have k24 : Cond.fieldLink RX7 24 (TX7 6).1 (TX7 6).2.1 (TX7 6).2.2.1 ∈ tsX7_round := List.mem_cons_of_mem _ fl_24
  refine lv_aload_n F.1 F.2.1 dX7_round_0 rfl (lv_at hl 0 rfl) ?_
  refine z_iconst F dX7_round_1 ?_
  refine g_putI (ci := 7) (k := 17) F hH hS rfl (by decide) iX7 hm (by decide) tyX7 tyX7_ok nmX7 rfl rfl rfl k60 dX7_round_2 (fun H locs hH hS => ?_)
  obtain ⟨I_1, eI_1⟩ : ∃ qQ, qQ = gup2 I mo 17 (iI (0)) := ⟨_, rfl⟩
  rw [← eI_1] at hH
  have kI_1 : ∀ b, b ≠ mo → I_1 b = I b := fun b hb => by rw [eI_1]; exact funext fun j => gup2_a _ _ hb
  have w_2 : (I_1 mo 17).toInt = 0 := by rw [eI_1, gup2_s]; exact iI_val ⟨by decide, by decide⟩
  have hv : mInv g gh R I_1 AI := by rw [eI_1]; exact mP17 hv hm
  have nf : nF mo I I_1 := nF_t nf (by rw [eI_1]; exact nF_p (by decide))
  have u_3_2 : (I_1 mo 2).toInt = (I mo 2).toInt := by rw [nf 2 (by decide) (by decide) (by decide) (by decide) (by decide)]
  have u_3_5 : (I_1 mo 5).toInt = (I mo 5).toInt := by rw [nf 5 (by decide) (by decide) (by decide) (by decide) (by decide)]
  have u_3_14 : (I_1 mo 14).toInt = (I mo 14).toInt := by rw [nf 14 (by decide) (by decide) (by decide) (by decide) (by decide)]
  have u_3_16 : (I_1 mo 16).toInt = (I mo 16).toInt := by rw [nf 16 (by decide) (by decide) (by decide) (by decide) (by decide)]
  have u_3_24 : (I_1 mo 24).toInt = (I mo 24).toInt := by rw [nf 24 (by decide) (by decide) (by decide) (by decide) (by decide)]
  have i8 : I_1 mo 8 = I mo 8 := (show I_1 mo 8 = I mo 8 by rw [eI_1, gup2_k _ _ (by decide)]).trans i8
  have i9 : I_1 mo 9 = I mo 9 := (show I_1 mo 9 = I mo 9 by rw [eI_1, gup2_k _ _ (by decide)]).trans i9
  have i10 : I_1 mo 10 = I mo 10 := (show I_1 mo 10 = I mo 10 by rw [eI_1, gup2_k _ _ (by decide)]).trans i10
  refine lv_aload_n F.1 F.2.1 dX7_round_5 rfl (lv_at hl 0 rfl) ?_
  refine lv_iload_n F.1 F.2.1 dX7_round_6 rfl (lv_at hl 1 rfl) ?_
  have b_4 := mJ hv hm
  unfold mNum1 at b_4
  refine g_calli (g_runV (As := [.int (iI rr)]) (rest := []) (ci := 7) F hl.1 hH hS hz (c_X7_isRelationf l g gh T I_1 R J AI AJ AR mo rr zrr hv hm hT) (cwV 1 F.2.2.2.2.1 (good_up gT_X7_isRelation) rfl rfl rfl hdX7_isRelation ⟨Nat.le_of_ble_eq_true rfl, Nat.le_of_ble_eq_true rfl⟩) hm (by decide) rfl rfl rfl (Nat.le_of_ble_eq_true rfl) dX7_round_7 ⟨Nat.zero_le _, Nat.zero_le _⟩) hS (fun v_11 I_5 R_6 J_7 AI_8 AJ_9 AR_10 H locs zv_11 hp_12 hH hS => ?_)
  dsimp only at hp_12
  obtain ⟨rfl, rfl, rfl, rfl, rfl, rfl, q_13, qis⟩ := hp_12
  refine z_if_eq (tgt := 23) F dX7_round_10 (by decide) zv_11 (fun c_14 => ?_) (fun c_14 => ?_)
  · refine z_iconst F dX7_round_23 ?_
    exact g_iret F hr hlk hH hS hz ⟨by decide, by decide⟩ ⟨rfl, rfl, rfl, rfl, hv, hT, nf, Or.inl ⟨Or.inl (by have h9 := qis (by omega); omega), rfl⟩, ⟨by (try dsimp only); exact i8, by (try dsimp only); exact i9, by (try dsimp only); exact i10⟩, fAX⟩ dX7_round_24
  · refine lv_aload_n F.1 F.2.1 dX7_round_13 rfl (lv_at hl 0 rfl) ?_
    refine lv_iload_n F.1 F.2.1 dX7_round_14 rfl (lv_at hl 1 rfl) ?_
    refine g_calli (g_runV (As := [.int (iI rr)]) (rest := []) (ci := 7) F hl.1 hH hS hz (c_X7_kindOf l g gh T I_1 R J AI AJ AR mo rr zrr hv hm hT (by omega)) (cwV 1 F.2.2.2.2.1 (good_up gT_X7_kindOf) rfl rfl rfl hdX7_kindOf ⟨Nat.le_of_ble_eq_true rfl, Nat.le_of_ble_eq_true rfl⟩) hm (by decide) rfl rfl rfl (Nat.le_of_ble_eq_true rfl) dX7_round_15 ⟨Nat.zero_le _, Nat.zero_le _⟩) hS (fun v_21 I_15 R_16 J_17 AI_18 AJ_19 AR_20 H locs zv_21 hp_22 hH hS => ?_)
    dsimp only at hp_22
    obtain ⟨rfl, rfl, rfl, rfl, rfl, rfl, qk0⟩ := hp_22
    refine z_bipush F dX7_round_18 (by decide) ?_
    refine z_icmp_eq (tgt := 25) F dX7_round_20 (by decide) zv_21 ⟨by decide, by decide⟩ (fun c_23 => ?_) (fun c_23 => ?_)
    · have hr9 := rfM_s (gh := gh) (AI := AI) (sd := 0) (a := rr) (n := (rfM gh AI 0 rr.toNat).1) (f := (rfM gh AI 0 rr.toNat).2) rfl (by omega) (mSz1 hv hm (z := 16 * 0 + rr) (by omega) (by omega)).1
      refine lv_aload_n F.1 F.2.1 dX7_round_25 rfl (lv_at hl 0 rfl) ?_
      refine z_iconst F dX7_round_26 ?_
      refine lv_iload_n F.1 F.2.1 dX7_round_27 rfl (lv_at hl 1 rfl) ?_
      refine lv_iload_n F.1 F.2.1 dX7_round_28 rfl (lv_at hl 2 rfl) ?_
      refine lv_iload_n F.1 F.2.1 dX7_round_29 rfl (lv_at hl 3 rfl) ?_
      refine lv_iload F.1 F.2.1 dX7_round_30 (lv_at hl 4 rfl) ?_
      refine lv_iload F.1 F.2.1 dX7_round_32 (lv_at hl 5 rfl) ?_
      refine g_calli (g_runV (As := [.int (iI 0), .int (iI rr), .int (iI a1), .int (iI b1), .int (iI c1), .int (iI d1)]) (rest := []) (ci := 7) F hl.1 hH hS hz (c_X7_findf l g gh T ((rfM gh AI 0 rr.toNat).1) ((rfM gh AI 0 rr.toNat).2) I_1 R J AI AJ AR mo 0 rr a1 b1 c1 d1 ⟨by decide, by decide⟩ zrr za1 zb1 zc1 zd1 hv hm hT (by omega) (by omega) hr9.1 hr9.2 (hbg rr.toNat (by omega)).2.1) (cwV 6 F.2.2.2.2.1 (good_up gT_X7_find) rfl rfl rfl hdX7_find ⟨Nat.le_of_ble_eq_true rfl, Nat.le_of_ble_eq_true rfl⟩) hm (by decide) rfl rfl rfl (Nat.le_of_ble_eq_true rfl) dX7_round_34 ⟨Nat.zero_le _, Nat.zero_le _⟩) hS (fun v_30 I_24 R_25 J_26 AI_27 AJ_28 AR_29 H locs zv_30 hp_31 hH hS => ?_)
      dsimp only at hp_31
      obtain ⟨rfl, rfl, rfl, rfl, rfl, hv, hT, q_32, fWq, qfd⟩ := hp_31
      have fAX : ∀ b, b ≠ gh 77 0 → AI_27 b = AI b := fun b h77 => (fWq b h77).trans (fAX b h77)
      have hfr := fdM_r qfd
      refine lv_istore (lv' := [(6, .int (iI v_30)), (0, .ref mo), (1, .int (iI rr)), (2, .int (iI a1)), (3, .int (iI b1)), (4, .int (iI c1)), (5, .int (iI d1))]) F.1 F.2.1 dX7_round_37 hl (by decide) rfl (fun ls hl => ?_)
      refine lv_iload F.1 F.2.1 dX7_round_39 (lv_at hl 0 rfl) ?_
      refine z_if_ge (tgt := 48) F dX7_round_41 (by decide) zv_30 (fun c_33 => ?_) (fun c_33 => ?_)
      · refine lv_aload_n F.1 F.2.1 dX7_round_48 rfl (lv_at hl 1 rfl) ?_
        obtain ⟨r_34a, r_34b⟩ : R mo 6 = some (gh 56 0) ∧ gAr g (gh 56 0) 9 126720 := mR hv hm (q := (6, 126720)) (by decide)
        refine g_getR (ci := 7) (k := 6) F hH rfl (by decide) iX7 hm (by decide) rfl (b := gh 56 0) r_34a k24 dX7_round_49 ?_
        refine z_iconst F dX7_round_52 ?_
        refine lv_iload_n F.1 F.2.1 dX7_round_53 rfl (lv_at hl 2 rfl) ?_
        refine lv_iload F.1 F.2.1 dX7_round_54 (lv_at hl 0 rfl) ?_
        refine g_calli (g_runS (As := [.int (iI 0), .int (iI rr), .int (iI v_30)]) (rest := [.ref (gh 56 0)]) F hl.1 hH hS hz (c_X7_spot l g  I_1 R J AI_27 AJ AR 0 rr v_30 ⟨by decide, by decide⟩ zrr zv_30 (by omega) (by omega) (by omega)) (va_cwS 3 F.2.2.2.2.1 (good_up gT_X7_spot) rfl rfl rfl hdX7_spot.2 ⟨Nat.le_of_ble_eq_true rfl, Nat.le_of_ble_eq_true rfl⟩) rfl rfl (Nat.le_of_ble_eq_true rfl) dX7_round_56 ⟨Nat.zero_le _, Nat.zero_le _⟩) hS (fun v_41 I_35 R_36 J_37 AI_38 AJ_39 AR_40 H locs zv_41 hp_42 hH hS => ?_)
        dsimp only at hp_42
        obtain ⟨rfl, rfl, rfl, rfl, rfl, rfl, q_43⟩ := hp_42
        refine z_iconst F dX7_round_59 ?_
        refine z_iadd F dX7_round_60 ?_
        have hx61 : 0 ≤ (v_41 + 5) ∧ (v_41 + 5) < ((126720 : Nat) : Int) ∧ (v_41 + 5) ≤ 2147483647 := ⟨by omega, by omega, by omega⟩
        refine g_iald F hH r_34b hx61.1 hx61.2.1 hx61.2.2 dX7_round_61 ?_
        refine z_name (fun v_44 ev_44 => ?_)
        have zv_44 : zr v_44 := by rw [ev_44]; exact zr_t _
        have c61 : v_44 = ((rfM gh AI 0 rr.toNat).2 (6 * v_30.toNat + 5)).toInt := by rw [ev_44, fWq _ (show gh 56 0 ≠ gh 77 0 from mNe hv hm (p := (6, 126720)) (q := (27, 4)) (by decide) (by decide) (by decide)), ← hr9.2 _ (by omega)]; congr 2; omega
        exact g_iret F hr hlk hH hS hz zv_44 ⟨rfl, rfl, rfl, rfl, hv, hT, nf, Or.inr ⟨⟨by omega, by rw [← qk0]; omega⟩, Or.inl ⟨_, by omega, fdM_y qfd (by omega), c61⟩⟩, ⟨by (try dsimp only); exact i8, by (try dsimp only); exact i9, by (try dsimp only); exact i10⟩, fAX⟩ dX7_round_62
      · refine z_iconst F dX7_round_44 ?_
        refine z_goto (tgt := 62) F dX7_round_45 (by decide) ?_
        exact g_iret F hr hlk hH hS hz ⟨by decide, by decide⟩ ⟨rfl, rfl, rfl, rfl, hv, hT, nf, Or.inr ⟨⟨by omega, by rw [← qk0]; omega⟩, Or.inr ⟨fdM_n qfd (by omega), rfl⟩⟩, ⟨by (try dsimp only); exact i8, by (try dsimp only); exact i9, by (try dsimp only); exact i10⟩, fAX⟩ dX7_round_62
    · refine z_iconst F dX7_round_23 ?_
      exact g_iret F hr hlk hH hS hz ⟨by decide, by decide⟩ ⟨rfl, rfl, rfl, rfl, hv, hT, nf, Or.inl ⟨Or.inr (by rw [← qk0]; omega), rfl⟩, ⟨by (try dsimp only); exact i8, by (try dsimp only); exact i9, by (try dsimp only); exact i10⟩, fAX⟩ dX7_round_24

def rmX7_roundsg : Room := { frames := 2, cells := 0, slots := 0, locals := 43 }
set_option maxHeartbeats 4000000 in
set_option maxRecDepth 100000 in
/-- rounds -/
theorem c_X7_roundsg (l : Launch) (g : gG) (gh : gGh) (T : Nat → Int32) (nr : Nat) (I : gI) (R : gR) (J : gJ) (AI : gI) (AJ : gJ) (AR : gR) (mo : Nat) (rr : Int) (zrr : zr rr) (hv : mInv g gh R I AI) (hm : gO g mo 7) (hT : AI (gh 50 0) = T) (hmr : (I mo 2).toInt = (nr : Int)) : gMet l g yX7_rounds tsX7_rounds rmX7_roundsg [.ref mo, .int (iI rr)] (I, R, J, AI, AJ, AR) (gQi g (fun (z : Int) (w : gS) => R = w.2.1 ∧ J = w.2.2.1 ∧ AI = w.2.2.2.1 ∧ AJ = w.2.2.2.2.1 ∧ AR = w.2.2.2.2.2 ∧ (mInv g gh R (w.1) AI) ∧ (nF mo I (w.1)) ∧ ((((rr < 0 ∨ (nr : Int) ≤ rr) ∨ tI T (40 * rr) ≠ 8) ∧ z = -1) ∨ (((0 ≤ rr ∧ rr < (nr : Int)) ∧ tI T (40 * rr) = 8) ∧ z = (AI (gh 79 0) rr.toNat).toInt)) ∧ ((w.1) mo 8 = I mo 8 ∧ (w.1) mo 9 = I mo 9 ∧ (w.1) mo 10 = I mo 10))) := by
  refine gStart (cc := cX7_rounds) (maxL := 2) (ret := (some (.int))) (by decide) rfl (Nat.le_of_ble_eq_true rfl) ?_
  intro p e s m below meth c ls F hr hlk hH hz hS hl
  have hl : lv_has ls 2 [(0, .ref mo), (1, .int (iI rr))] := hl
  have hS : va_S (gA g) s.heap s.heap [] := hS
  obtain ⟨H, hHe⟩ : ∃ H : Heap, H = s.heap := ⟨_, rfl⟩
  obtain ⟨locs, hlo⟩ : ∃ k : List Loc, k = [] := ⟨_, rfl⟩
  have hH : gH g I R J AI AJ AR H := by rw [hHe]; exact hH
  have hS : va_S (gA g) s.heap H locs := by rw [hHe, hlo]; exact hS
  suffices hw : W p l e rmX7_roundsg s m ([.ref mo, .int (iI rr)] : List Value).toArray below meth c H locs 0 0 (MQ below (gQi g (fun (z : Int) (w : gS) => R = w.2.1 ∧ J = w.2.2.1 ∧ AI = w.2.2.2.1 ∧ AJ = w.2.2.2.2.1 ∧ AR = w.2.2.2.2.2 ∧ (mInv g gh R (w.1) AI) ∧ (nF mo I (w.1)) ∧ ((((rr < 0 ∨ (nr : Int) ≤ rr) ∨ tI T (40 * rr) ≠ 8) ∧ z = -1) ∨ (((0 ≤ rr ∧ rr < (nr : Int)) ∧ tI T (40 * rr) = 8) ∧ z = (AI (gh 79 0) rr.toNat).toInt)) ∧ ((w.1) mo 8 = I mo 8 ∧ (w.1) mo 9 = I mo 9 ∧ (w.1) mo 10 = I mo 10))) ([.ref mo, .int (iI rr)] : List Value).toArray s 0 0 (gA g)) (F0 m 0 ls []) by
    rw [hHe, hlo] at hw; exact hw
  clear hHe hlo
  have nf : nF mo I I := nF_r
  have hb0 := mJ hv hm
  unfold mNum1 at hb0
  have i8 : I mo 8 = I mo 8 := rfl
  have i9 : I mo 9 = I mo 9 := rfl
  have i10 : I mo 10 = I mo 10 := rfl
  have iX7 : ∀ w ∈ u_ws RX7 TX7 32, w ∈ tsX7_rounds := fun w h => List.mem_cons_of_mem _ (inTB7 w h)
  have k60 : Cond.fieldLink RX7 60 (TX7 17).1 (TX7 17).2.1 (TX7 17).2.2.1 ∈ tsX7_rounds := List.mem_cons_of_mem _ fl_60
  have k51 : Cond.fieldLink RX7 51 (TX7 29).1 (TX7 29).2.1 (TX7 29).2.2.1 ∈ tsX7_rounds := List.mem_cons_of_mem _ fl_51
  refine lv_aload_n F.1 F.2.1 dX7_rounds_0 rfl (lv_at hl 0 rfl) ?_
  refine z_iconst F dX7_rounds_1 ?_
  refine g_putI (ci := 7) (k := 17) F hH hS rfl (by decide) iX7 hm (by decide) tyX7 tyX7_ok nmX7 rfl rfl rfl k60 dX7_rounds_2 (fun H locs hH hS => ?_)
  obtain ⟨I_1, eI_1⟩ : ∃ qQ, qQ = gup2 I mo 17 (iI (0)) := ⟨_, rfl⟩
  rw [← eI_1] at hH
  have kI_1 : ∀ b, b ≠ mo → I_1 b = I b := fun b hb => by rw [eI_1]; exact funext fun j => gup2_a _ _ hb
  have w_2 : (I_1 mo 17).toInt = 0 := by rw [eI_1, gup2_s]; exact iI_val ⟨by decide, by decide⟩
  have hv : mInv g gh R I_1 AI := by rw [eI_1]; exact mP17 hv hm
  have nf : nF mo I I_1 := nF_t nf (by rw [eI_1]; exact nF_p (by decide))
  have u_3_2 : (I_1 mo 2).toInt = (I mo 2).toInt := by rw [nf 2 (by decide) (by decide) (by decide) (by decide) (by decide)]
  have u_3_5 : (I_1 mo 5).toInt = (I mo 5).toInt := by rw [nf 5 (by decide) (by decide) (by decide) (by decide) (by decide)]
  have u_3_14 : (I_1 mo 14).toInt = (I mo 14).toInt := by rw [nf 14 (by decide) (by decide) (by decide) (by decide) (by decide)]
  have u_3_16 : (I_1 mo 16).toInt = (I mo 16).toInt := by rw [nf 16 (by decide) (by decide) (by decide) (by decide) (by decide)]
  have u_3_24 : (I_1 mo 24).toInt = (I mo 24).toInt := by rw [nf 24 (by decide) (by decide) (by decide) (by decide) (by decide)]
  have i8 : I_1 mo 8 = I mo 8 := (show I_1 mo 8 = I mo 8 by rw [eI_1, gup2_k _ _ (by decide)]).trans i8
  have i9 : I_1 mo 9 = I mo 9 := (show I_1 mo 9 = I mo 9 by rw [eI_1, gup2_k _ _ (by decide)]).trans i9
  have i10 : I_1 mo 10 = I mo 10 := (show I_1 mo 10 = I mo 10 by rw [eI_1, gup2_k _ _ (by decide)]).trans i10
  refine lv_aload_n F.1 F.2.1 dX7_rounds_5 rfl (lv_at hl 0 rfl) ?_
  refine lv_iload_n F.1 F.2.1 dX7_rounds_6 rfl (lv_at hl 1 rfl) ?_
  have b_4 := mJ hv hm
  unfold mNum1 at b_4
  refine g_calli (g_runV (As := [.int (iI rr)]) (rest := []) (ci := 7) F hl.1 hH hS hz (c_X7_isRelationf l g gh T I_1 R J AI AJ AR mo rr zrr hv hm hT) (cwV 1 F.2.2.2.2.1 (good_up gT_X7_isRelation) rfl rfl rfl hdX7_isRelation ⟨Nat.le_of_ble_eq_true rfl, Nat.le_of_ble_eq_true rfl⟩) hm (by decide) rfl rfl rfl (Nat.le_of_ble_eq_true rfl) dX7_rounds_7 ⟨Nat.zero_le _, Nat.zero_le _⟩) hS (fun v_11 I_5 R_6 J_7 AI_8 AJ_9 AR_10 H locs zv_11 hp_12 hH hS => ?_)
  dsimp only at hp_12
  obtain ⟨rfl, rfl, rfl, rfl, rfl, rfl, q_13, qis⟩ := hp_12
  refine z_if_eq (tgt := 34) F dX7_rounds_10 (by decide) zv_11 (fun c_14 => ?_) (fun c_14 => ?_)
  · refine z_iconst F dX7_rounds_34 ?_
    exact g_iret F hr hlk hH hS hz ⟨by decide, by decide⟩ ⟨rfl, rfl, rfl, rfl, rfl, hv, nf, Or.inl ⟨Or.inl (by have h9 := qis (by omega); omega), rfl⟩, ⟨by (try dsimp only); exact i8, by (try dsimp only); exact i9, by (try dsimp only); exact i10⟩⟩ dX7_rounds_35
  · refine lv_aload_n F.1 F.2.1 dX7_rounds_13 rfl (lv_at hl 0 rfl) ?_
    refine lv_iload_n F.1 F.2.1 dX7_rounds_14 rfl (lv_at hl 1 rfl) ?_
    refine g_calli (g_runV (As := [.int (iI rr)]) (rest := []) (ci := 7) F hl.1 hH hS hz (c_X7_kindOf l g gh T I_1 R J AI AJ AR mo rr zrr hv hm hT (by omega)) (cwV 1 F.2.2.2.2.1 (good_up gT_X7_kindOf) rfl rfl rfl hdX7_kindOf ⟨Nat.le_of_ble_eq_true rfl, Nat.le_of_ble_eq_true rfl⟩) hm (by decide) rfl rfl rfl (Nat.le_of_ble_eq_true rfl) dX7_rounds_15 ⟨Nat.zero_le _, Nat.zero_le _⟩) hS (fun v_21 I_15 R_16 J_17 AI_18 AJ_19 AR_20 H locs zv_21 hp_22 hH hS => ?_)
    dsimp only at hp_22
    obtain ⟨rfl, rfl, rfl, rfl, rfl, rfl, qk0⟩ := hp_22
    refine z_bipush F dX7_rounds_18 (by decide) ?_
    refine z_icmp_ne (tgt := 34) F dX7_rounds_20 (by decide) zv_21 ⟨by decide, by decide⟩ (fun c_23 => ?_) (fun c_23 => ?_)
    · refine z_iconst F dX7_rounds_34 ?_
      exact g_iret F hr hlk hH hS hz ⟨by decide, by decide⟩ ⟨rfl, rfl, rfl, rfl, rfl, hv, nf, Or.inl ⟨Or.inr (by omega), rfl⟩, ⟨by (try dsimp only); exact i8, by (try dsimp only); exact i9, by (try dsimp only); exact i10⟩⟩ dX7_rounds_35
    · refine lv_aload_n F.1 F.2.1 dX7_rounds_23 rfl (lv_at hl 0 rfl) ?_
      obtain ⟨r_24a, r_24b⟩ : R mo 29 = some (gh 79 0) ∧ gAr g (gh 79 0) 9 176 := mR hv hm (q := (29, 176)) (by decide)
      refine g_getR (ci := 7) (k := 29) F hH rfl (by decide) iX7 hm (by decide) rfl (b := gh 79 0) r_24a k51 dX7_rounds_24 ?_
      refine z_iconst F dX7_rounds_27 ?_
      refine lv_iload_n F.1 F.2.1 dX7_rounds_28 rfl (lv_at hl 1 rfl) ?_
      refine z_iadd F dX7_rounds_29 ?_
      have hx30 : 0 ≤ (0 + rr) ∧ (0 + rr) < ((176 : Nat) : Int) ∧ (0 + rr) ≤ 2147483647 := ⟨by omega, by omega, by omega⟩
      refine g_iald F hH r_24b hx30.1 hx30.2.1 hx30.2.2 dX7_rounds_30 ?_
      refine z_name (fun v_25 ev_25 => ?_)
      have zv_25 : zr v_25 := by rw [ev_25]; exact zr_t _
      have c30 : v_25 = (AI (gh 79 0) rr.toNat).toInt := by rw [ev_25]; congr 2; omega
      refine z_goto (tgt := 35) F dX7_rounds_31 (by decide) ?_
      exact g_iret F hr hlk hH hS hz zv_25 ⟨rfl, rfl, rfl, rfl, rfl, hv, nf, Or.inr ⟨⟨by omega, by omega⟩, c30⟩, ⟨by (try dsimp only); exact i8, by (try dsimp only); exact i9, by (try dsimp only); exact i10⟩⟩ dX7_rounds_35

def rmX7_ofg : Room := { frames := 18, cells := 0, slots := 0, locals := 396 }
set_option maxHeartbeats 4000000 in
set_option maxRecDepth 100000 in
/-- of -/
theorem c_X7_ofg (l : Launch) (g : gG) (gh : gGh) (T : Nat → Int32) (I : gI) (R : gR) (J : gJ) (AI : gI) (AJ : gJ) (AR : gR) (mo : Nat) (rr : Int) (wh : Int) (zrr : zr rr) (zwh : zr wh) (hv : mInv g gh R I AI) (hm : gO g mo 7) (hT : AI (gh 50 0) = T) : gMet l g yX7_of tsX7_of rmX7_ofg [.ref mo, .int (iI rr), .int (iI wh)] (I, R, J, AI, AJ, AR) (gQi g (fun (z : Int) (w : gS) => R = w.2.1 ∧ J = w.2.2.1 ∧ AI = w.2.2.2.1 ∧ AJ = w.2.2.2.2.1 ∧ AR = w.2.2.2.2.2 ∧ (mInv g gh R (w.1) AI) ∧ (nF mo I (w.1)) ∧ ((w.1) mo 8 = I mo 8 ∧ (w.1) mo 9 = I mo 9 ∧ (w.1) mo 10 = I mo 10))) := by
  refine gStart (cc := cX7_of) (maxL := 5) (ret := (some (.int))) (by decide) rfl (Nat.le_of_ble_eq_true rfl) ?_
  intro p e s m below meth c ls F hr hlk hH hz hS hl
  have hl : lv_has ls 5 [(0, .ref mo), (1, .int (iI rr)), (2, .int (iI wh))] := hl
  have hS : va_S (gA g) s.heap s.heap [] := hS
  obtain ⟨H, hHe⟩ : ∃ H : Heap, H = s.heap := ⟨_, rfl⟩
  obtain ⟨locs, hlo⟩ : ∃ k : List Loc, k = [] := ⟨_, rfl⟩
  have hH : gH g I R J AI AJ AR H := by rw [hHe]; exact hH
  have hS : va_S (gA g) s.heap H locs := by rw [hHe, hlo]; exact hS
  suffices hw : W p l e rmX7_ofg s m ([.ref mo, .int (iI rr), .int (iI wh)] : List Value).toArray below meth c H locs 0 0 (MQ below (gQi g (fun (z : Int) (w : gS) => R = w.2.1 ∧ J = w.2.2.1 ∧ AI = w.2.2.2.1 ∧ AJ = w.2.2.2.2.1 ∧ AR = w.2.2.2.2.2 ∧ (mInv g gh R (w.1) AI) ∧ (nF mo I (w.1)) ∧ ((w.1) mo 8 = I mo 8 ∧ (w.1) mo 9 = I mo 9 ∧ (w.1) mo 10 = I mo 10))) ([.ref mo, .int (iI rr), .int (iI wh)] : List Value).toArray s 0 0 (gA g)) (F0 m 0 ls []) by
    rw [hHe, hlo] at hw; exact hw
  clear hHe hlo
  have nf : nF mo I I := nF_r
  have i8 : I mo 8 = I mo 8 := rfl
  have i9 : I mo 9 = I mo 9 := rfl
  have i10 : I mo 10 = I mo 10 := rfl
  have iX7 : ∀ w ∈ u_ws RX7 TX7 32, w ∈ tsX7_of := fun w h => List.mem_cons_of_mem _ (inTB7 w h)
  have k60 : Cond.fieldLink RX7 60 (TX7 17).1 (TX7 17).2.1 (TX7 17).2.2.1 ∈ tsX7_of := List.mem_cons_of_mem _ fl_60
  have k13 : Cond.fieldLink RX7 13 (TX7 1).1 (TX7 1).2.1 (TX7 1).2.2.1 ∈ tsX7_of := List.mem_cons_of_mem _ fl_13
  refine lv_aload_n F.1 F.2.1 dX7_of_0 rfl (lv_at hl 0 rfl) ?_
  refine z_iconst F dX7_of_1 ?_
  refine g_putI (ci := 7) (k := 17) F hH hS rfl (by decide) iX7 hm (by decide) tyX7 tyX7_ok nmX7 rfl rfl rfl k60 dX7_of_2 (fun H locs hH hS => ?_)
  obtain ⟨I_1, eI_1⟩ : ∃ qQ, qQ = gup2 I mo 17 (iI (0)) := ⟨_, rfl⟩
  rw [← eI_1] at hH
  have kI_1 : ∀ b, b ≠ mo → I_1 b = I b := fun b hb => by rw [eI_1]; exact funext fun j => gup2_a _ _ hb
  have w_2 : (I_1 mo 17).toInt = 0 := by rw [eI_1, gup2_s]; exact iI_val ⟨by decide, by decide⟩
  have hv : mInv g gh R I_1 AI := by rw [eI_1]; exact mP17 hv hm
  have nf : nF mo I I_1 := nF_t nf (by rw [eI_1]; exact nF_p (by decide))
  have u_3_2 : (I_1 mo 2).toInt = (I mo 2).toInt := by rw [nf 2 (by decide) (by decide) (by decide) (by decide) (by decide)]
  have u_3_5 : (I_1 mo 5).toInt = (I mo 5).toInt := by rw [nf 5 (by decide) (by decide) (by decide) (by decide) (by decide)]
  have u_3_14 : (I_1 mo 14).toInt = (I mo 14).toInt := by rw [nf 14 (by decide) (by decide) (by decide) (by decide) (by decide)]
  have u_3_16 : (I_1 mo 16).toInt = (I mo 16).toInt := by rw [nf 16 (by decide) (by decide) (by decide) (by decide) (by decide)]
  have u_3_24 : (I_1 mo 24).toInt = (I mo 24).toInt := by rw [nf 24 (by decide) (by decide) (by decide) (by decide) (by decide)]
  have i8 : I_1 mo 8 = I mo 8 := (show I_1 mo 8 = I mo 8 by rw [eI_1, gup2_k _ _ (by decide)]).trans i8
  have i9 : I_1 mo 9 = I mo 9 := (show I_1 mo 9 = I mo 9 by rw [eI_1, gup2_k _ _ (by decide)]).trans i9
  have i10 : I_1 mo 10 = I mo 10 := (show I_1 mo 10 = I mo 10 by rw [eI_1, gup2_k _ _ (by decide)]).trans i10
  refine lv_aload_n F.1 F.2.1 dX7_of_5 rfl (lv_at hl 0 rfl) ?_
  refine lv_iload_n F.1 F.2.1 dX7_of_6 rfl (lv_at hl 1 rfl) ?_
  have b_4 := mJ hv hm
  unfold mNum1 at b_4
  refine g_calli (g_runV (As := [.int (iI rr)]) (rest := []) (ci := 7) F hl.1 hH hS hz (c_X7_isRelationf l g gh T I_1 R J AI AJ AR mo rr zrr hv hm hT) (cwV 1 F.2.2.2.2.1 (good_up gT_X7_isRelation) rfl rfl rfl hdX7_isRelation ⟨Nat.le_of_ble_eq_true rfl, Nat.le_of_ble_eq_true rfl⟩) hm (by decide) rfl rfl rfl (Nat.le_of_ble_eq_true rfl) dX7_of_7 ⟨Nat.zero_le _, Nat.zero_le _⟩) hS (fun v_11 I_5 R_6 J_7 AI_8 AJ_9 AR_10 H locs zv_11 hp_12 hH hS => ?_)
  dsimp only at hp_12
  obtain ⟨rfl, rfl, rfl, rfl, rfl, rfl, q_13, q_14⟩ := hp_12
  refine z_if_ne (tgt := 15) F dX7_of_10 (by decide) zv_11 (fun c_15 => ?_) (fun c_15 => ?_)
  · refine lv_iload_n F.1 F.2.1 dX7_of_15 rfl (lv_at hl 2 rfl) ?_
    have ec_16 : (iI wh).toInt = wh := iI_val zwh
    by_cases c_16 : wh < 0 ∨ 8 < wh
    · refine lv_tableOut (tgt := 159) F.1 F.2.1 dX7_of_16 (by rw [ec_16]; exact c_16) (by decide) ?_
      refine z_iconst F dX7_of_159 ?_
      exact g_iret F hr hlk hH hS hz ⟨by decide, by decide⟩ ⟨rfl, rfl, rfl, rfl, rfl, hv, nf, ⟨by (try dsimp only); exact i8, by (try dsimp only); exact i9, by (try dsimp only); exact i10⟩⟩ dX7_of_160
    by_cases c_16_0 : wh = 0
    · refine lv_tableIn (tgt := 68) (off := 52) F.1 F.2.1 dX7_of_16 (by rw [ec_16]; omega) (by rw [ec_16]; omega) (by rw [ec_16, c_16_0]; rfl) (by decide) ?_
      refine lv_aload_n F.1 F.2.1 dX7_of_68 rfl (lv_at hl 0 rfl) ?_
      refine lv_iload_n F.1 F.2.1 dX7_of_69 rfl (lv_at hl 1 rfl) ?_
      refine g_calli (g_runV (As := [.int (iI rr)]) (rest := []) (ci := 7) F hl.1 hH hS hz (c_X7_kindOf l g gh T I_1 R J AI AJ AR mo rr zrr hv hm hT (by omega)) (cwV 1 F.2.2.2.2.1 (good_up gT_X7_kindOf) rfl rfl rfl hdX7_kindOf ⟨Nat.le_of_ble_eq_true rfl, Nat.le_of_ble_eq_true rfl⟩) hm (by decide) rfl rfl rfl (Nat.le_of_ble_eq_true rfl) dX7_of_70 ⟨Nat.zero_le _, Nat.zero_le _⟩) hS (fun v_23 I_17 R_18 J_19 AI_20 AJ_21 AR_22 H locs zv_23 hp_24 hH hS => ?_)
      dsimp only at hp_24
      obtain ⟨rfl, rfl, rfl, rfl, rfl, rfl, q_25⟩ := hp_24
      exact g_iret F hr hlk hH hS hz zv_23 ⟨rfl, rfl, rfl, rfl, rfl, hv, nf, ⟨by (try dsimp only); exact i8, by (try dsimp only); exact i9, by (try dsimp only); exact i10⟩⟩ dX7_of_73
    by_cases c_16_1 : wh = 1
    · refine lv_tableIn (tgt := 74) (off := 58) F.1 F.2.1 dX7_of_16 (by rw [ec_16]; omega) (by rw [ec_16]; omega) (by rw [ec_16, c_16_1]; rfl) (by decide) ?_
      refine lv_aload_n F.1 F.2.1 dX7_of_74 rfl (lv_at hl 0 rfl) ?_
      refine lv_iload_n F.1 F.2.1 dX7_of_75 rfl (lv_at hl 1 rfl) ?_
      refine g_calli (g_runV (As := [.int (iI rr)]) (rest := []) (ci := 7) F hl.1 hH hS hz (c_X7_columnsOf l g gh T I_1 R J AI AJ AR mo rr zrr hv hm hT (by omega)) (cwV 1 F.2.2.2.2.1 (good_up gT_X7_columnsOf) rfl rfl rfl hdX7_columnsOf ⟨Nat.le_of_ble_eq_true rfl, Nat.le_of_ble_eq_true rfl⟩) hm (by decide) rfl rfl rfl (Nat.le_of_ble_eq_true rfl) dX7_of_76 ⟨Nat.zero_le _, Nat.zero_le _⟩) hS (fun v_32 I_26 R_27 J_28 AI_29 AJ_30 AR_31 H locs zv_32 hp_33 hH hS => ?_)
      dsimp only at hp_33
      obtain ⟨rfl, rfl, rfl, rfl, rfl, rfl, q_34⟩ := hp_33
      exact g_iret F hr hlk hH hS hz zv_32 ⟨rfl, rfl, rfl, rfl, rfl, hv, nf, ⟨by (try dsimp only); exact i8, by (try dsimp only); exact i9, by (try dsimp only); exact i10⟩⟩ dX7_of_79
    by_cases c_16_2 : wh = 2
    · refine lv_tableIn (tgt := 80) (off := 64) F.1 F.2.1 dX7_of_16 (by rw [ec_16]; omega) (by rw [ec_16]; omega) (by rw [ec_16, c_16_2]; rfl) (by decide) ?_
      refine lv_aload_n F.1 F.2.1 dX7_of_80 rfl (lv_at hl 0 rfl) ?_
      refine lv_iload_n F.1 F.2.1 dX7_of_81 rfl (lv_at hl 1 rfl) ?_
      refine g_calli (g_runV (As := [.int (iI rr)]) (rest := []) (ci := 7) F hl.1 hH hS hz (c_X7_firstOf l g gh T I_1 R J AI AJ AR mo rr zrr hv hm hT (by omega)) (cwV 1 F.2.2.2.2.1 (good_up gT_X7_firstOf) rfl rfl rfl hdX7_firstOf ⟨Nat.le_of_ble_eq_true rfl, Nat.le_of_ble_eq_true rfl⟩) hm (by decide) rfl rfl rfl (Nat.le_of_ble_eq_true rfl) dX7_of_82 ⟨Nat.zero_le _, Nat.zero_le _⟩) hS (fun v_41 I_35 R_36 J_37 AI_38 AJ_39 AR_40 H locs zv_41 hp_42 hH hS => ?_)
      dsimp only at hp_42
      obtain ⟨rfl, rfl, rfl, rfl, rfl, rfl, q_43⟩ := hp_42
      exact g_iret F hr hlk hH hS hz zv_41 ⟨rfl, rfl, rfl, rfl, rfl, hv, nf, ⟨by (try dsimp only); exact i8, by (try dsimp only); exact i9, by (try dsimp only); exact i10⟩⟩ dX7_of_85
    by_cases c_16_3 : wh = 3
    · refine lv_tableIn (tgt := 86) (off := 70) F.1 F.2.1 dX7_of_16 (by rw [ec_16]; omega) (by rw [ec_16]; omega) (by rw [ec_16, c_16_3]; rfl) (by decide) ?_
      refine lv_aload_n F.1 F.2.1 dX7_of_86 rfl (lv_at hl 0 rfl) ?_
      refine lv_iload_n F.1 F.2.1 dX7_of_87 rfl (lv_at hl 1 rfl) ?_
      refine g_calli (g_runV (As := [.int (iI rr)]) (rest := []) (ci := 7) F hl.1 hH hS hz (c_X7_secondOf l g gh T I_1 R J AI AJ AR mo rr zrr hv hm hT (by omega)) (cwV 1 F.2.2.2.2.1 (good_up gT_X7_secondOf) rfl rfl rfl hdX7_secondOf ⟨Nat.le_of_ble_eq_true rfl, Nat.le_of_ble_eq_true rfl⟩) hm (by decide) rfl rfl rfl (Nat.le_of_ble_eq_true rfl) dX7_of_88 ⟨Nat.zero_le _, Nat.zero_le _⟩) hS (fun v_50 I_44 R_45 J_46 AI_47 AJ_48 AR_49 H locs zv_50 hp_51 hH hS => ?_)
      dsimp only at hp_51
      obtain ⟨rfl, rfl, rfl, rfl, rfl, rfl, q_52⟩ := hp_51
      exact g_iret F hr hlk hH hS hz zv_50 ⟨rfl, rfl, rfl, rfl, rfl, hv, nf, ⟨by (try dsimp only); exact i8, by (try dsimp only); exact i9, by (try dsimp only); exact i10⟩⟩ dX7_of_91
    by_cases c_16_4 : wh = 4
    · refine lv_tableIn (tgt := 92) (off := 76) F.1 F.2.1 dX7_of_16 (by rw [ec_16]; omega) (by rw [ec_16]; omega) (by rw [ec_16, c_16_4]; rfl) (by decide) ?_
      refine lv_aload_n F.1 F.2.1 dX7_of_92 rfl (lv_at hl 0 rfl) ?_
      refine lv_iload_n F.1 F.2.1 dX7_of_93 rfl (lv_at hl 1 rfl) ?_
      refine g_calli (g_runV (As := [.int (iI rr)]) (rest := []) (ci := 7) F hl.1 hH hS hz (c_X7_hangsOn16 l g gh T I_1 R J AI AJ AR mo rr zrr hv hm hT (by omega)) (cwV 1 F.2.2.2.2.1 (good_up gT_X7_hangsOn) rfl rfl rfl hdX7_hangsOn ⟨Nat.le_of_ble_eq_true rfl, Nat.le_of_ble_eq_true rfl⟩) hm (by decide) rfl rfl rfl (Nat.le_of_ble_eq_true rfl) dX7_of_94 ⟨Nat.zero_le _, Nat.zero_le _⟩) hS (fun v_59 I_53 R_54 J_55 AI_56 AJ_57 AR_58 H locs zv_59 hp_60 hH hS => ?_)
      dsimp only at hp_60
      obtain ⟨rfl, rfl, rfl, rfl, rfl, rfl⟩ := hp_60
      exact g_iret F hr hlk hH hS hz zv_59 ⟨rfl, rfl, rfl, rfl, rfl, hv, nf, ⟨by (try dsimp only); exact i8, by (try dsimp only); exact i9, by (try dsimp only); exact i10⟩⟩ dX7_of_97
    by_cases c_16_5 : wh = 5
    · refine lv_tableIn (tgt := 98) (off := 82) F.1 F.2.1 dX7_of_16 (by rw [ec_16]; omega) (by rw [ec_16]; omega) (by rw [ec_16, c_16_5]; rfl) (by decide) ?_
      refine lv_aload_n F.1 F.2.1 dX7_of_98 rfl (lv_at hl 0 rfl) ?_
      refine lv_iload_n F.1 F.2.1 dX7_of_99 rfl (lv_at hl 1 rfl) ?_
      refine g_calli (g_runV (As := [.int (iI rr)]) (rest := []) (ci := 7) F hl.1 hH hS hz (c_X7_hangOn l g gh T I_1 R J AI AJ AR mo rr zrr hv hm hT) (cwV 1 F.2.2.2.2.1 (good_up gT_X7_hangOn) rfl rfl rfl hdX7_hangOn ⟨Nat.le_of_ble_eq_true rfl, Nat.le_of_ble_eq_true rfl⟩) hm (by decide) rfl rfl rfl (Nat.le_of_ble_eq_true rfl) dX7_of_100 ⟨Nat.zero_le _, Nat.zero_le _⟩) hS (fun v_67 I_61 R_62 J_63 AI_64 AJ_65 AR_66 H locs zv_67 hp_68 hH hS => ?_)
      dsimp only at hp_68
      obtain ⟨rfl, rfl, rfl, rfl, rfl, rfl⟩ := hp_68
      exact g_iret F hr hlk hH hS hz zv_67 ⟨rfl, rfl, rfl, rfl, rfl, hv, nf, ⟨by (try dsimp only); exact i8, by (try dsimp only); exact i9, by (try dsimp only); exact i10⟩⟩ dX7_of_103
    by_cases c_16_6 : wh = 6
    · refine lv_tableIn (tgt := 104) (off := 88) F.1 F.2.1 dX7_of_16 (by rw [ec_16]; omega) (by rw [ec_16]; omega) (by rw [ec_16, c_16_6]; rfl) (by decide) ?_
      refine lv_aload_n F.1 F.2.1 dX7_of_104 rfl (lv_at hl 0 rfl) ?_
      refine lv_iload_n F.1 F.2.1 dX7_of_105 rfl (lv_at hl 1 rfl) ?_
      refine g_calli (g_runV (As := [.int (iI rr)]) (rest := []) (ci := 7) F hl.1 hH hS hz (c_X7_farOf16 l g gh T I_1 R J AI AJ AR mo rr zrr hv hm hT (by omega)) (cwV 1 F.2.2.2.2.1 (good_up gT_X7_farOf) rfl rfl rfl hdX7_farOf ⟨Nat.le_of_ble_eq_true rfl, Nat.le_of_ble_eq_true rfl⟩) hm (by decide) rfl rfl rfl (Nat.le_of_ble_eq_true rfl) dX7_of_106 ⟨Nat.zero_le _, Nat.zero_le _⟩) hS (fun v_75 I_69 R_70 J_71 AI_72 AJ_73 AR_74 H locs zv_75 hp_76 hH hS => ?_)
      dsimp only at hp_76
      obtain ⟨rfl, rfl, rfl, rfl, rfl, rfl, q_77⟩ := hp_76
      exact g_iret F hr hlk hH hS hz zv_75 ⟨rfl, rfl, rfl, rfl, rfl, hv, nf, ⟨by (try dsimp only); exact i8, by (try dsimp only); exact i9, by (try dsimp only); exact i10⟩⟩ dX7_of_109
    by_cases c_16_7 : wh = 7
    · refine lv_tableIn (tgt := 110) (off := 94) F.1 F.2.1 dX7_of_16 (by rw [ec_16]; omega) (by rw [ec_16]; omega) (by rw [ec_16, c_16_7]; rfl) (by decide) ?_
      refine lv_aload_n F.1 F.2.1 dX7_of_110 rfl (lv_at hl 0 rfl) ?_
      refine g_getR (ci := 7) (k := 1) F hH rfl (by decide) iX7 hm (by decide) rfl (b := gh 51 0) (hv.1 mo hm).2.2.1.1 k13 dX7_of_111 ?_
      refine lv_iload_n F.1 F.2.1 dX7_of_114 rfl (lv_at hl 1 rfl) ?_
      have hx115 : 0 ≤ rr ∧ rr < ((16 : Nat) : Int) ∧ rr ≤ 2147483647 := ⟨by omega, by omega, by omega⟩
      refine g_lald F hH (hv.1 mo hm).2.2.1.2 hx115.1 hx115.2.1 hx115.2.2 dX7_of_115 ?_
      refine lv_topl (fun j_78 ej_78 => ?_)
      refine lv_lstore_n (lv' := [(3, .long j_78), (0, .ref mo), (1, .int (iI rr)), (2, .int (iI wh))]) F.1 F.2.1 dX7_of_116 rfl hl (by decide) rfl (fun ls hl => ?_)
      have cut_117_78 : ∀ (NN : Nat) (lw : Int64) (H : Heap) (locs : List Loc) (ls : Array Slot), ((lw.toInt).toNat : Int) < ((NN : Nat) : Int) → gH g I_1 R J AI AJ AR H → va_S (gA g) s.heap H locs → lv_has ls 5 [(3, .long lw), (0, .ref mo), (1, .int (iI rr)), (2, .int (iI wh))] → W p l e rmX7_ofg s m ([.ref mo, .int (iI rr), .int (iI wh)] : List Value).toArray below meth c H locs 0 0 (MQ below (gQi g (fun (z : Int) (w : gS) => R = w.2.1 ∧ J = w.2.2.1 ∧ AI = w.2.2.2.1 ∧ AJ = w.2.2.2.2.1 ∧ AR = w.2.2.2.2.2 ∧ (mInv g gh R (w.1) AI) ∧ (nF mo I (w.1)) ∧ ((w.1) mo 8 = I mo 8 ∧ (w.1) mo 9 = I mo 9 ∧ (w.1) mo 10 = I mo 10))) ([.ref mo, .int (iI rr), .int (iI wh)] : List Value).toArray s 0 0 (gA g)) (F0 m 117 ls []) := by
        intro NN117
        induction NN117 with
        | zero =>
          intro lw H locs ls hm117 hH hS hl
          exact absurd hm117 (by omega)
        | succ NN117 ih117 =>
          intro lw H locs ls hm117 hH hS hl
          refine lv_lload_n F.1 F.2.1 dX7_of_117 rfl (lv_at hl 0 rfl) ?_
          refine lv_ldc2 (v := 256) F.1 F.2.1 F.2.2.2.1 (F.2.2.2.2.1 _ (List.mem_cons_of_mem _ cl_115)) dX7_of_118 ?_
          refine W.lcmp F.1 F.2.1 dX7_of_121 ?_
          refine z_top (fun v_80 zv_80 ev_80 => ?_)
          have lv_80 : v_80 = 0 ↔ lw = (256) := by rw [ev_80]; exact z_lcmp
          have hc9 : v_80 < 0 ↔ lw.toInt < (256 : Int64).toInt := by rw [ev_80]; exact z_lcmp_lt
          have hc8 : (256 : Int64).toInt = 256 := by decide
          refine z_if_lt (tgt := 134) F dX7_of_122 (by decide) zv_80 (fun c_81 => ?_) (fun c_81 => ?_)
          · refine lv_lload_n F.1 F.2.1 dX7_of_134 rfl (lv_at hl 0 rfl) ?_
            refine lv_l2i F.1 F.2.1 dX7_of_135 rfl ?_
            refine z_top (fun v_82 zv_82 ev_82 => ?_)
            refine z_bipush F dX7_of_136 (by decide) ?_
            refine z_isub F dX7_of_138 ?_
            refine z_norm (fun v_83 zv_83 ev_83 => ?_)
            refine z_iconst F dX7_of_139 ?_
            refine z_iadd F dX7_of_140 ?_
            refine z_norm (fun v_84 zv_84 ev_84 => ?_)
            exact g_iret F hr hlk hH hS hz zv_84 ⟨rfl, rfl, rfl, rfl, rfl, hv, nf, ⟨by (try dsimp only); exact i8, by (try dsimp only); exact i9, by (try dsimp only); exact i10⟩⟩ dX7_of_141
          · refine lv_lload_n F.1 F.2.1 dX7_of_125 rfl (lv_at hl 0 rfl) ?_
            refine lv_ldc2 (v := 256) F.1 F.2.1 F.2.2.2.1 (F.2.2.2.2.1 _ (List.mem_cons_of_mem _ cl_115)) dX7_of_126 ?_
            refine lv_ldiv F.1 F.2.1 dX7_of_129 (by decide) ?_
            refine lv_topl (fun j_85 ej_85 => ?_)
            have hd9 : (j_85).toInt < lw.toInt := by rw [ej_85]; exact z_ldiv256 (by omega)
            refine lv_lstore_n (lv' := [(3, .long j_85), (0, .ref mo), (1, .int (iI rr)), (2, .int (iI wh))]) F.1 F.2.1 dX7_of_130 rfl hl (by decide) rfl (fun ls hl => ?_)
            refine z_goto (tgt := 117) F dX7_of_131 (by decide) ?_
            exact ih117 j_85 H locs ls (by omega) hH hS (lv_sub hl [0, 1, 2, 3] rfl)
      exact cut_117_78 ((((j_78.toInt).toNat : Int) + 1 : Int).toNat) j_78 H locs ls (by omega) hH hS (lv_sub hl [0, 1, 2, 3] rfl)
    have c_16_8 : wh = 8 := by omega
    refine lv_tableIn (tgt := 142) (off := 126) F.1 F.2.1 dX7_of_16 (by rw [ec_16]; omega) (by rw [ec_16]; omega) (by rw [ec_16, c_16_8]; rfl) (by decide) ?_
    refine lv_aload_n F.1 F.2.1 dX7_of_142 rfl (lv_at hl 0 rfl) ?_
    refine g_getR (ci := 7) (k := 1) F hH rfl (by decide) iX7 hm (by decide) rfl (b := gh 51 0) (hv.1 mo hm).2.2.1.1 k13 dX7_of_143 ?_
    refine lv_iload_n F.1 F.2.1 dX7_of_146 rfl (lv_at hl 1 rfl) ?_
    have hx147 : 0 ≤ rr ∧ rr < ((16 : Nat) : Int) ∧ rr ≤ 2147483647 := ⟨by omega, by omega, by omega⟩
    refine g_lald F hH (hv.1 mo hm).2.2.1.2 hx147.1 hx147.2.1 hx147.2.2 dX7_of_147 ?_
    refine lv_topl (fun j_86 ej_86 => ?_)
    refine lv_ldc2 (v := 256) F.1 F.2.1 F.2.2.2.1 (F.2.2.2.2.1 _ (List.mem_cons_of_mem _ cl_115)) dX7_of_148 ?_
    refine lv_lrem F.1 F.2.1 dX7_of_151 (by decide) ?_
    refine lv_topl (fun j_87 ej_87 => ?_)
    refine lv_l2i F.1 F.2.1 dX7_of_152 rfl ?_
    refine z_top (fun v_88 zv_88 ev_88 => ?_)
    refine z_bipush F dX7_of_153 (by decide) ?_
    refine z_isub F dX7_of_155 ?_
    refine z_norm (fun v_89 zv_89 ev_89 => ?_)
    refine z_iconst F dX7_of_156 ?_
    refine z_iadd F dX7_of_157 ?_
    refine z_norm (fun v_90 zv_90 ev_90 => ?_)
    exact g_iret F hr hlk hH hS hz zv_90 ⟨rfl, rfl, rfl, rfl, rfl, hv, nf, ⟨by (try dsimp only); exact i8, by (try dsimp only); exact i9, by (try dsimp only); exact i10⟩⟩ dX7_of_158
  · refine z_iconst F dX7_of_13 ?_
    exact g_iret F hr hlk hH hS hz ⟨by decide, by decide⟩ ⟨rfl, rfl, rfl, rfl, rfl, hv, nf, ⟨by (try dsimp only); exact i8, by (try dsimp only); exact i9, by (try dsimp only); exact i10⟩⟩ dX7_of_14

def rmX7_column_g : Room := { frames := 2, cells := 0, slots := 0, locals := 43 }
set_option maxHeartbeats 4000000 in
set_option maxRecDepth 100000 in
/-- column -/
theorem c_X7_column_g (l : Launch) (g : gG) (gh : gGh) (T : Nat → Int32) (nr : Nat) (I : gI) (R : gR) (J : gJ) (AI : gI) (AJ : gJ) (AR : gR) (mo : Nat) (rr : Int) (cl : Int) (wh : Int) (zrr : zr rr) (zcl : zr cl) (zwh : zr wh) (hv : mInv g gh R I AI) (hm : gO g mo 7) (hT : AI (gh 50 0) = T) (hmr : (I mo 2).toInt = (nr : Int)) : gMet l g yX7_column_ tsX7_column_ rmX7_column_g [.ref mo, .int (iI rr), .int (iI cl), .int (iI wh)] (I, R, J, AI, AJ, AR) (gQi g (fun (z : Int) (w : gS) => R = w.2.1 ∧ J = w.2.2.1 ∧ AI = w.2.2.2.1 ∧ AJ = w.2.2.2.2.1 ∧ AR = w.2.2.2.2.2 ∧ (mInv g gh R (w.1) AI) ∧ (nF mo I (w.1)) ∧ ((((w.1) mo 17).toInt = 1 ∧ z = 0 ∧ ¬ clM T nr (rfM gh AI 0 rr.toNat).1 rr cl wh) ∨ (((w.1) mo 17).toInt = 0 ∧ clM T nr (rfM gh AI 0 rr.toNat).1 rr cl wh ∧ clP (rfM gh AI 0 rr.toNat).2 (rfM gh AI 0 rr.toNat).1 cl wh z)) ∧ ((w.1) mo 8 = I mo 8 ∧ (w.1) mo 9 = I mo 9 ∧ (w.1) mo 10 = I mo 10))) := by
  refine gStart (cc := cX7_column_) (maxL := 11) (ret := (some (.int))) (by decide) rfl (Nat.le_of_ble_eq_true rfl) ?_
  intro p e s m below meth c ls F hr hlk hH hz hS hl
  have hl : lv_has ls 11 [(0, .ref mo), (1, .int (iI rr)), (2, .int (iI cl)), (3, .int (iI wh))] := hl
  have hS : va_S (gA g) s.heap s.heap [] := hS
  obtain ⟨H, hHe⟩ : ∃ H : Heap, H = s.heap := ⟨_, rfl⟩
  obtain ⟨locs, hlo⟩ : ∃ k : List Loc, k = [] := ⟨_, rfl⟩
  have hH : gH g I R J AI AJ AR H := by rw [hHe]; exact hH
  have hS : va_S (gA g) s.heap H locs := by rw [hHe, hlo]; exact hS
  suffices hw : W p l e rmX7_column_g s m ([.ref mo, .int (iI rr), .int (iI cl), .int (iI wh)] : List Value).toArray below meth c H locs 0 0 (MQ below (gQi g (fun (z : Int) (w : gS) => R = w.2.1 ∧ J = w.2.2.1 ∧ AI = w.2.2.2.1 ∧ AJ = w.2.2.2.2.1 ∧ AR = w.2.2.2.2.2 ∧ (mInv g gh R (w.1) AI) ∧ (nF mo I (w.1)) ∧ ((((w.1) mo 17).toInt = 1 ∧ z = 0 ∧ ¬ clM T nr (rfM gh AI 0 rr.toNat).1 rr cl wh) ∨ (((w.1) mo 17).toInt = 0 ∧ clM T nr (rfM gh AI 0 rr.toNat).1 rr cl wh ∧ clP (rfM gh AI 0 rr.toNat).2 (rfM gh AI 0 rr.toNat).1 cl wh z)) ∧ ((w.1) mo 8 = I mo 8 ∧ (w.1) mo 9 = I mo 9 ∧ (w.1) mo 10 = I mo 10))) ([.ref mo, .int (iI rr), .int (iI cl), .int (iI wh)] : List Value).toArray s 0 0 (gA g)) (F0 m 0 ls []) by
    rw [hHe, hlo] at hw; exact hw
  clear hHe hlo
  have nf : nF mo I I := nF_r
  have hb0 := mJ hv hm
  unfold mNum1 at hb0
  have i8 : I mo 8 = I mo 8 := rfl
  have i9 : I mo 9 = I mo 9 := rfl
  have i10 : I mo 10 = I mo 10 := rfl
  have iX7 : ∀ w ∈ u_ws RX7 TX7 32, w ∈ tsX7_column_ := fun w h => List.mem_cons_of_mem _ (inTB7 w h)
  have k60 : Cond.fieldLink RX7 60 (TX7 17).1 (TX7 17).2.1 (TX7 17).2.2.1 ∈ tsX7_column_ := List.mem_cons_of_mem _ fl_60
  have k24 : Cond.fieldLink RX7 24 (TX7 6).1 (TX7 6).2.1 (TX7 6).2.2.1 ∈ tsX7_column_ := List.mem_cons_of_mem _ fl_24
  refine lv_aload_n F.1 F.2.1 dX7_column__0 rfl (lv_at hl 0 rfl) ?_
  have cut_52_0 : ∀ (th : Int) (H : Heap) (locs : List Loc) (ls : Array Slot), zr th → ((th = 0 ∧ 0 ≤ rr ∧ rr ≤ 15 ∧ 0 ≤ cl ∧ cl ≤ 3) ∨ th = 1) → ((th = 0 ∧ clM T nr (rfM gh AI 0 rr.toNat).1 rr cl wh) ∨ (th = 1 ∧ ¬ clM T nr (rfM gh AI 0 rr.toNat).1 rr cl wh)) → gH g I R J AI AJ AR H → va_S (gA g) s.heap H locs → lv_has ls 11 [(0, .ref mo), (1, .int (iI rr)), (2, .int (iI cl)), (3, .int (iI wh))] → W p l e rmX7_column_g s m ([.ref mo, .int (iI rr), .int (iI cl), .int (iI wh)] : List Value).toArray below meth c H locs 0 0 (MQ below (gQi g (fun (z : Int) (w : gS) => R = w.2.1 ∧ J = w.2.2.1 ∧ AI = w.2.2.2.1 ∧ AJ = w.2.2.2.2.1 ∧ AR = w.2.2.2.2.2 ∧ (mInv g gh R (w.1) AI) ∧ (nF mo I (w.1)) ∧ ((((w.1) mo 17).toInt = 1 ∧ z = 0 ∧ ¬ clM T nr (rfM gh AI 0 rr.toNat).1 rr cl wh) ∨ (((w.1) mo 17).toInt = 0 ∧ clM T nr (rfM gh AI 0 rr.toNat).1 rr cl wh ∧ clP (rfM gh AI 0 rr.toNat).2 (rfM gh AI 0 rr.toNat).1 cl wh z)) ∧ ((w.1) mo 8 = I mo 8 ∧ (w.1) mo 9 = I mo 9 ∧ (w.1) mo 10 = I mo 10))) ([.ref mo, .int (iI rr), .int (iI cl), .int (iI wh)] : List Value).toArray s 0 0 (gA g)) (F0 m 52 ls [.int (iI th), .ref mo]) := by
    intro th H locs ls zth hth hcm hH hS hl
    refine g_putI (ci := 7) (k := 17) F hH hS rfl (by decide) iX7 hm (by decide) tyX7 tyX7_ok nmX7 rfl rfl rfl k60 dX7_column__52 (fun H locs hH hS => ?_)
    obtain ⟨I_2, eI_2⟩ : ∃ qQ, qQ = gup2 I mo 17 (iI (th)) := ⟨_, rfl⟩
    rw [← eI_2] at hH
    have kI_2 : ∀ b, b ≠ mo → I_2 b = I b := fun b hb => by rw [eI_2]; exact funext fun j => gup2_a _ _ hb
    have w_3 : (I_2 mo 17).toInt = th := by rw [eI_2, gup2_s]; exact iI_val zth
    have hv : mInv g gh R I_2 AI := by rw [eI_2]; exact mP17 hv hm
    have nf : nF mo I I_2 := nF_t nf (by rw [eI_2]; exact nF_p (by decide))
    have u_4_2 : (I_2 mo 2).toInt = (I mo 2).toInt := by rw [nf 2 (by decide) (by decide) (by decide) (by decide) (by decide)]
    have u_4_5 : (I_2 mo 5).toInt = (I mo 5).toInt := by rw [nf 5 (by decide) (by decide) (by decide) (by decide) (by decide)]
    have u_4_14 : (I_2 mo 14).toInt = (I mo 14).toInt := by rw [nf 14 (by decide) (by decide) (by decide) (by decide) (by decide)]
    have u_4_16 : (I_2 mo 16).toInt = (I mo 16).toInt := by rw [nf 16 (by decide) (by decide) (by decide) (by decide) (by decide)]
    have u_4_24 : (I_2 mo 24).toInt = (I mo 24).toInt := by rw [nf 24 (by decide) (by decide) (by decide) (by decide) (by decide)]
    have i8 : I_2 mo 8 = I mo 8 := (show I_2 mo 8 = I mo 8 by rw [eI_2, gup2_k _ _ (by decide)]).trans i8
    have i9 : I_2 mo 9 = I mo 9 := (show I_2 mo 9 = I mo 9 by rw [eI_2, gup2_k _ _ (by decide)]).trans i9
    have i10 : I_2 mo 10 = I mo 10 := (show I_2 mo 10 = I mo 10 by rw [eI_2, gup2_k _ _ (by decide)]).trans i10
    refine lv_aload_n F.1 F.2.1 dX7_column__55 rfl (lv_at hl 0 rfl) ?_
    refine g_getI (ci := 7) (k := 17) F hH rfl (by decide) iX7 hm (by decide) rfl k60 dX7_column__56 ?_
    refine z_iconst F dX7_column__59 ?_
    refine z_icmp_ne (tgt := 65) F dX7_column__60 (by decide) (zr_t _) ⟨by decide, by decide⟩ (fun c_5 => ?_) (fun c_5 => ?_)
    · refine lv_ldcw (v := iI (2147483647)) F.1 F.2.1 F.2.2.2.1 (F.2.2.2.2.1 _ (List.mem_cons_of_mem _ cc_388)) dX7_column__65 ?_
      refine lv_istore (lv' := [(4, .int (iI 2147483647)), (0, .ref mo), (1, .int (iI rr)), (2, .int (iI cl)), (3, .int (iI wh))]) F.1 F.2.1 dX7_column__68 hl (by decide) rfl (fun ls hl => ?_)
      refine lv_ldcw (v := iI (-2147483648)) F.1 F.2.1 F.2.2.2.1 (F.2.2.2.2.1 _ (List.mem_cons_of_mem _ cc_389)) dX7_column__70 ?_
      refine lv_istore (lv' := [(5, .int (iI (-2147483648))), (4, .int (iI 2147483647)), (0, .ref mo), (1, .int (iI rr)), (2, .int (iI cl)), (3, .int (iI wh))]) F.1 F.2.1 dX7_column__73 hl (by decide) rfl (fun ls hl => ?_)
      refine z_iconst F dX7_column__75 ?_
      refine lv_istore (lv' := [(6, .int (iI 0)), (5, .int (iI (-2147483648))), (4, .int (iI 2147483647)), (0, .ref mo), (1, .int (iI rr)), (2, .int (iI cl)), (3, .int (iI wh))]) F.1 F.2.1 dX7_column__76 hl (by decide) rfl (fun ls hl => ?_)
      refine z_iconst F dX7_column__78 ?_
      refine lv_istore (lv' := [(7, .int (iI 0)), (6, .int (iI 0)), (5, .int (iI (-2147483648))), (4, .int (iI 2147483647)), (0, .ref mo), (1, .int (iI rr)), (2, .int (iI cl)), (3, .int (iI wh))]) F.1 F.2.1 dX7_column__79 hl (by decide) rfl (fun ls hl => ?_)
      have cut_81_5 : ∀ (NN : Nat) (le mst un i : Int) (H : Heap) (locs : List Loc) (ls : Array Slot), zr le → zr mst → zr un → zr i → (0 ≤ un ∧ un ≤ i ∧ i ≤ 120) → (leI (rfM gh AI 0 rr.toNat).2 cl.toNat i.toNat le) → (moI (rfM gh AI 0 rr.toNat).2 cl.toNat i.toNat mst) → (un = ((unC (rfM gh AI 0 rr.toNat).2 cl.toNat i.toNat : Nat) : Int) ∧ i ≤ (((rfM gh AI 0 rr.toNat).1 : Nat) : Int)) → (120 - i) < ((NN : Nat) : Int) → gH g I_2 R J AI AJ AR H → va_S (gA g) s.heap H locs → lv_has ls 11 [(7, .int (iI i)), (6, .int (iI un)), (5, .int (iI mst)), (4, .int (iI le)), (0, .ref mo), (1, .int (iI rr)), (2, .int (iI cl)), (3, .int (iI wh))] → W p l e rmX7_column_g s m ([.ref mo, .int (iI rr), .int (iI cl), .int (iI wh)] : List Value).toArray below meth c H locs 0 0 (MQ below (gQi g (fun (z : Int) (w : gS) => R = w.2.1 ∧ J = w.2.2.1 ∧ AI = w.2.2.2.1 ∧ AJ = w.2.2.2.2.1 ∧ AR = w.2.2.2.2.2 ∧ (mInv g gh R (w.1) AI) ∧ (nF mo I (w.1)) ∧ ((((w.1) mo 17).toInt = 1 ∧ z = 0 ∧ ¬ clM T nr (rfM gh AI 0 rr.toNat).1 rr cl wh) ∨ (((w.1) mo 17).toInt = 0 ∧ clM T nr (rfM gh AI 0 rr.toNat).1 rr cl wh ∧ clP (rfM gh AI 0 rr.toNat).2 (rfM gh AI 0 rr.toNat).1 cl wh z)) ∧ ((w.1) mo 8 = I mo 8 ∧ (w.1) mo 9 = I mo 9 ∧ (w.1) mo 10 = I mo 10))) ([.ref mo, .int (iI rr), .int (iI cl), .int (iI wh)] : List Value).toArray s 0 0 (gA g)) (F0 m 81 ls []) := by
        intro NN81
        induction NN81 with
        | zero =>
          intro le mst un i H locs ls zle zmst zun zi hi hle hmo hun hm81 hH hS hl
          exact absurd hm81 (by omega)
        | succ NN81 ih81 =>
          intro le mst un i H locs ls zle zmst zun zi hi hle hmo hun hm81 hH hS hl
          refine lv_iload F.1 F.2.1 dX7_column__81 (lv_at hl 0 rfl) ?_
          refine lv_aload_n F.1 F.2.1 dX7_column__83 rfl (lv_at hl 4 rfl) ?_
          refine z_iconst F dX7_column__84 ?_
          refine lv_iload_n F.1 F.2.1 dX7_column__85 rfl (lv_at hl 5 rfl) ?_
          have b_7 := mJ hv hm
          unfold mNum1 at b_7
          refine g_calli (g_runV (As := [.int (iI 0), .int (iI rr)]) (rest := [.int (iI i)]) (ci := 7) F hl.1 hH hS hz (c_X7_sizeOf l g gh T I_2 R J AI AJ AR mo 0 rr ⟨by decide, by decide⟩ zrr hv hm hT (by omega) (by omega)) (cwV 2 F.2.2.2.2.1 (good_up gT_X7_sizeOf) rfl rfl rfl hdX7_sizeOf ⟨Nat.le_of_ble_eq_true rfl, Nat.le_of_ble_eq_true rfl⟩) hm (by decide) rfl rfl rfl (Nat.le_of_ble_eq_true rfl) dX7_column__86 ⟨Nat.zero_le _, Nat.zero_le _⟩) hS (fun v_14 I_8 R_9 J_10 AI_11 AJ_12 AR_13 H locs zv_14 hp_15 hH hS => ?_)
          dsimp only at hp_15
          obtain ⟨rfl, rfl, rfl, rfl, rfl, rfl, q_16, qsz86⟩ := hp_15
          have hs86 : v_14 = (((rfM gh AI 0 rr.toNat).1 : Nat) : Int) := by rw [rfM_1 (by omega), qsz86]; unfold tI; have h8 := (mSz hv hm (z := 16 * 0 + rr) (by omega) (by omega)).1; omega
          refine z_icmp_ge (tgt := 194) F dX7_column__89 (by decide) zi zv_14 (fun c_17 => ?_) (fun c_17 => ?_)
          · refine lv_iload_n F.1 F.2.1 dX7_column__194 rfl (lv_at hl 7 rfl) ?_
            refine z_if_ne (tgt := 203) F dX7_column__195 (by decide) zwh (fun c_18 => ?_) (fun c_18 => ?_)
            · refine lv_iload_n F.1 F.2.1 dX7_column__203 rfl (lv_at hl 7 rfl) ?_
              refine z_iconst F dX7_column__204 ?_
              refine z_icmp_ne (tgt := 213) F dX7_column__205 (by decide) zwh ⟨by decide, by decide⟩ (fun c_19 => ?_) (fun c_19 => ?_)
              · refine lv_iload F.1 F.2.1 dX7_column__213 (lv_at hl 1 rfl) ?_
                exact g_iret F hr hlk hH hS hz zun ⟨rfl, rfl, rfl, rfl, rfl, hv, nf, Or.inr ⟨by (try dsimp only); omega, (hcm.resolve_right (fun h9 => by have h8 := h9.1; omega)).2, Or.inr (Or.inr ⟨by have h9 := (hcm.resolve_right (fun h9 => by have h8 := h9.1; omega)).2.2.2.1; omega, by rw [← show i.toNat = (rfM gh AI 0 rr.toNat).1 by omega]; omega⟩)⟩, ⟨by (try dsimp only); exact i8, by (try dsimp only); exact i9, by (try dsimp only); exact i10⟩⟩ dX7_column__215
              · refine lv_iload F.1 F.2.1 dX7_column__208 (lv_at hl 2 rfl) ?_
                refine z_goto (tgt := 215) F dX7_column__210 (by decide) ?_
                exact g_iret F hr hlk hH hS hz zmst ⟨rfl, rfl, rfl, rfl, rfl, hv, nf, Or.inr ⟨by (try dsimp only); omega, (hcm.resolve_right (fun h9 => by have h8 := h9.1; omega)).2, Or.inr (Or.inl ⟨by omega, by rw [← show i.toNat = (rfM gh AI 0 rr.toNat).1 by omega]; exact moI_e hmo (by have h9 := (hcm.resolve_right (fun h9 => by have h8 := h9.1; omega)).2.2.2.2; omega)⟩)⟩, ⟨by (try dsimp only); exact i8, by (try dsimp only); exact i9, by (try dsimp only); exact i10⟩⟩ dX7_column__215
            · refine lv_iload F.1 F.2.1 dX7_column__198 (lv_at hl 3 rfl) ?_
              refine z_goto (tgt := 215) F dX7_column__200 (by decide) ?_
              exact g_iret F hr hlk hH hS hz zle ⟨rfl, rfl, rfl, rfl, rfl, hv, nf, Or.inr ⟨by (try dsimp only); omega, (hcm.resolve_right (fun h9 => by have h8 := h9.1; omega)).2, Or.inl ⟨by omega, by rw [← show i.toNat = (rfM gh AI 0 rr.toNat).1 by omega]; exact leI_e hle (by have h9 := (hcm.resolve_right (fun h9 => by have h8 := h9.1; omega)).2.2.2.2; omega)⟩⟩, ⟨by (try dsimp only); exact i8, by (try dsimp only); exact i9, by (try dsimp only); exact i10⟩⟩ dX7_column__215
          · refine lv_aload_n F.1 F.2.1 dX7_column__92 rfl (lv_at hl 4 rfl) ?_
            obtain ⟨r_20a, r_20b⟩ : R mo 6 = some (gh 56 0) ∧ gAr g (gh 56 0) 9 126720 := mR hv hm (q := (6, 126720)) (by decide)
            refine g_getR (ci := 7) (k := 6) F hH rfl (by decide) iX7 hm (by decide) rfl (b := gh 56 0) r_20a k24 dX7_column__93 ?_
            refine z_iconst F dX7_column__96 ?_
            refine lv_iload_n F.1 F.2.1 dX7_column__97 rfl (lv_at hl 5 rfl) ?_
            refine lv_iload F.1 F.2.1 dX7_column__98 (lv_at hl 0 rfl) ?_
            refine g_calli (g_runS (As := [.int (iI 0), .int (iI rr), .int (iI i)]) (rest := [.ref (gh 56 0)]) F hl.1 hH hS hz (c_X7_spot l g  I_2 R J AI AJ AR 0 rr i ⟨by decide, by decide⟩ zrr zi (by omega) (by omega) (by omega)) (va_cwS 3 F.2.2.2.2.1 (good_up gT_X7_spot) rfl rfl rfl hdX7_spot.2 ⟨Nat.le_of_ble_eq_true rfl, Nat.le_of_ble_eq_true rfl⟩) rfl rfl (Nat.le_of_ble_eq_true rfl) dX7_column__100 ⟨Nat.zero_le _, Nat.zero_le _⟩) hS (fun v_27 I_21 R_22 J_23 AI_24 AJ_25 AR_26 H locs zv_27 hp_28 hH hS => ?_)
            dsimp only at hp_28
            obtain ⟨rfl, rfl, rfl, rfl, rfl, rfl, q_29⟩ := hp_28
            refine lv_iload_n F.1 F.2.1 dX7_column__103 rfl (lv_at hl 6 rfl) ?_
            refine z_iadd F dX7_column__104 ?_
            have hx105 : 0 ≤ (v_27 + cl) ∧ (v_27 + cl) < ((126720 : Nat) : Int) ∧ (v_27 + cl) ≤ 2147483647 := ⟨by omega, by omega, by omega⟩
            refine g_iald F hH r_20b hx105.1 hx105.2.1 hx105.2.2 dX7_column__105 ?_
            refine z_name (fun v_30 ev_30 => ?_)
            have zv_30 : zr v_30 := by rw [ev_30]; exact zr_t _
            have c105 : v_30 = cvM (rfM gh AI 0 rr.toNat).2 cl.toNat i.toNat := by unfold cvM; rw [rfM_2 (by omega) (by omega), ev_30]; congr 2; omega
            refine lv_istore (lv' := [(8, .int (iI v_30)), (7, .int (iI i)), (6, .int (iI un)), (5, .int (iI mst)), (4, .int (iI le)), (0, .ref mo), (1, .int (iI rr)), (2, .int (iI cl)), (3, .int (iI wh))]) F.1 F.2.1 dX7_column__106 hl (by decide) rfl (fun ls hl => ?_)
            have cut_119_30 : ∀ (le2 : Int) (H : Heap) (locs : List Loc) (ls : Array Slot), zr le2 → (leI (rfM gh AI 0 rr.toNat).2 cl.toNat (i.toNat + 1) le2) → gH g I_2 R J AI AJ AR H → va_S (gA g) s.heap H locs → lv_has ls 11 [(8, .int (iI v_30)), (7, .int (iI i)), (6, .int (iI un)), (5, .int (iI mst)), (4, .int (iI le2)), (0, .ref mo), (1, .int (iI rr)), (2, .int (iI cl)), (3, .int (iI wh))] → W p l e rmX7_column_g s m ([.ref mo, .int (iI rr), .int (iI cl), .int (iI wh)] : List Value).toArray below meth c H locs 0 0 (MQ below (gQi g (fun (z : Int) (w : gS) => R = w.2.1 ∧ J = w.2.2.1 ∧ AI = w.2.2.2.1 ∧ AJ = w.2.2.2.2.1 ∧ AR = w.2.2.2.2.2 ∧ (mInv g gh R (w.1) AI) ∧ (nF mo I (w.1)) ∧ ((((w.1) mo 17).toInt = 1 ∧ z = 0 ∧ ¬ clM T nr (rfM gh AI 0 rr.toNat).1 rr cl wh) ∨ (((w.1) mo 17).toInt = 0 ∧ clM T nr (rfM gh AI 0 rr.toNat).1 rr cl wh ∧ clP (rfM gh AI 0 rr.toNat).2 (rfM gh AI 0 rr.toNat).1 cl wh z)) ∧ ((w.1) mo 8 = I mo 8 ∧ (w.1) mo 9 = I mo 9 ∧ (w.1) mo 10 = I mo 10))) ([.ref mo, .int (iI rr), .int (iI cl), .int (iI wh)] : List Value).toArray s 0 0 (gA g)) (F0 m 119 ls []) := by
              intro le2 H locs ls zle2 hle2 hH hS hl
              have cut_130_31 : ∀ (ms2 : Int) (H : Heap) (locs : List Loc) (ls : Array Slot), zr ms2 → (moI (rfM gh AI 0 rr.toNat).2 cl.toNat (i.toNat + 1) ms2) → gH g I_2 R J AI AJ AR H → va_S (gA g) s.heap H locs → lv_has ls 11 [(8, .int (iI v_30)), (7, .int (iI i)), (6, .int (iI un)), (5, .int (iI ms2)), (4, .int (iI le2)), (0, .ref mo), (1, .int (iI rr)), (2, .int (iI cl)), (3, .int (iI wh))] → W p l e rmX7_column_g s m ([.ref mo, .int (iI rr), .int (iI cl), .int (iI wh)] : List Value).toArray below meth c H locs 0 0 (MQ below (gQi g (fun (z : Int) (w : gS) => R = w.2.1 ∧ J = w.2.2.1 ∧ AI = w.2.2.2.1 ∧ AJ = w.2.2.2.2.1 ∧ AR = w.2.2.2.2.2 ∧ (mInv g gh R (w.1) AI) ∧ (nF mo I (w.1)) ∧ ((((w.1) mo 17).toInt = 1 ∧ z = 0 ∧ ¬ clM T nr (rfM gh AI 0 rr.toNat).1 rr cl wh) ∨ (((w.1) mo 17).toInt = 0 ∧ clM T nr (rfM gh AI 0 rr.toNat).1 rr cl wh ∧ clP (rfM gh AI 0 rr.toNat).2 (rfM gh AI 0 rr.toNat).1 cl wh z)) ∧ ((w.1) mo 8 = I mo 8 ∧ (w.1) mo 9 = I mo 9 ∧ (w.1) mo 10 = I mo 10))) ([.ref mo, .int (iI rr), .int (iI cl), .int (iI wh)] : List Value).toArray s 0 0 (gA g)) (F0 m 130 ls []) := by
                intro ms2 H locs ls zms2 hmo2 hH hS hl
                refine z_iconst F dX7_column__130 ?_
                refine lv_istore (lv' := [(9, .int (iI 1)), (8, .int (iI v_30)), (7, .int (iI i)), (6, .int (iI un)), (5, .int (iI ms2)), (4, .int (iI le2)), (0, .ref mo), (1, .int (iI rr)), (2, .int (iI cl)), (3, .int (iI wh))]) F.1 F.2.1 dX7_column__131 hl (by decide) rfl (fun ls hl => ?_)
                refine z_iconst F dX7_column__133 ?_
                refine lv_istore (lv' := [(10, .int (iI 0)), (9, .int (iI 1)), (8, .int (iI v_30)), (7, .int (iI i)), (6, .int (iI un)), (5, .int (iI ms2)), (4, .int (iI le2)), (0, .ref mo), (1, .int (iI rr)), (2, .int (iI cl)), (3, .int (iI wh))]) F.1 F.2.1 dX7_column__134 hl (by decide) rfl (fun ls hl => ?_)
                have cut_136_32 : ∀ (NN : Nat) (is jj : Int) (H : Heap) (locs : List Loc) (ls : Array Slot), zr is → zr jj → (0 ≤ jj ∧ jj ≤ i) → (unI (rfM gh AI 0 rr.toNat).2 cl.toNat i.toNat is jj) → (i - jj) < ((NN : Nat) : Int) → gH g I_2 R J AI AJ AR H → va_S (gA g) s.heap H locs → lv_has ls 11 [(10, .int (iI jj)), (9, .int (iI is)), (8, .int (iI v_30)), (7, .int (iI i)), (6, .int (iI un)), (5, .int (iI ms2)), (4, .int (iI le2)), (0, .ref mo), (1, .int (iI rr)), (2, .int (iI cl)), (3, .int (iI wh))] → W p l e rmX7_column_g s m ([.ref mo, .int (iI rr), .int (iI cl), .int (iI wh)] : List Value).toArray below meth c H locs 0 0 (MQ below (gQi g (fun (z : Int) (w : gS) => R = w.2.1 ∧ J = w.2.2.1 ∧ AI = w.2.2.2.1 ∧ AJ = w.2.2.2.2.1 ∧ AR = w.2.2.2.2.2 ∧ (mInv g gh R (w.1) AI) ∧ (nF mo I (w.1)) ∧ ((((w.1) mo 17).toInt = 1 ∧ z = 0 ∧ ¬ clM T nr (rfM gh AI 0 rr.toNat).1 rr cl wh) ∨ (((w.1) mo 17).toInt = 0 ∧ clM T nr (rfM gh AI 0 rr.toNat).1 rr cl wh ∧ clP (rfM gh AI 0 rr.toNat).2 (rfM gh AI 0 rr.toNat).1 cl wh z)) ∧ ((w.1) mo 8 = I mo 8 ∧ (w.1) mo 9 = I mo 9 ∧ (w.1) mo 10 = I mo 10))) ([.ref mo, .int (iI rr), .int (iI cl), .int (iI wh)] : List Value).toArray s 0 0 (gA g)) (F0 m 136 ls []) := by
                  intro NN136
                  induction NN136 with
                  | zero =>
                    intro is jj H locs ls zis zjj hj hui hm136 hH hS hl
                    exact absurd hm136 (by omega)
                  | succ NN136 ih136 =>
                    intro is jj H locs ls zis zjj hj hui hm136 hH hS hl
                    refine lv_iload F.1 F.2.1 dX7_column__136 (lv_at hl 0 rfl) ?_
                    refine lv_iload F.1 F.2.1 dX7_column__138 (lv_at hl 3 rfl) ?_
                    refine z_icmp_ge (tgt := 180) F dX7_column__140 (by decide) zjj zi (fun c_34 => ?_) (fun c_34 => ?_)
                    · refine lv_iload F.1 F.2.1 dX7_column__180 (lv_at hl 1 rfl) ?_
                      refine z_if_eq (tgt := 188) F dX7_column__182 (by decide) zis (fun c_35 => ?_) (fun c_35 => ?_)
                      · have hi01 := unI_r hui
                        have hue := unI_e hui (by omega)
                        rw [show i.toNat + 1 = (i + 1).toNat by omega] at hue
                        refine z_iinc (lv' := [(7, .int (iI (i + 1))), (10, .int (iI jj)), (9, .int (iI is)), (8, .int (iI v_30)), (6, .int (iI un)), (5, .int (iI ms2)), (4, .int (iI le2)), (0, .ref mo), (1, .int (iI rr)), (2, .int (iI cl)), (3, .int (iI wh))]) F dX7_column__188 hl (k := 3) rfl (by decide) rfl (fun ls hl => ?_)
                        refine z_goto (tgt := 81) F dX7_column__191 (by decide) ?_
                        exact ih81 le2 ms2 un (i + 1) H locs ls zle2 zms2 zun ⟨by omega, by omega⟩ (by omega) (by rw [show (i + 1).toNat = i.toNat + 1 by omega]; exact hle2) (by rw [show (i + 1).toNat = i.toNat + 1 by omega]; exact hmo2) ⟨by omega, by omega⟩ (by omega) hH hS (lv_sub hl [0, 4, 5, 6, 7, 8, 9, 10] rfl)
                      · refine z_iinc (lv' := [(6, .int (iI (un + 1))), (10, .int (iI jj)), (9, .int (iI is)), (8, .int (iI v_30)), (7, .int (iI i)), (5, .int (iI ms2)), (4, .int (iI le2)), (0, .ref mo), (1, .int (iI rr)), (2, .int (iI cl)), (3, .int (iI wh))]) F dX7_column__185 hl (k := 4) rfl (by decide) rfl (fun ls hl => ?_)
                        have hi01 := unI_r hui
                        have hue := unI_e hui (by omega)
                        rw [show i.toNat + 1 = (i + 1).toNat by omega] at hue
                        refine z_iinc (lv' := [(7, .int (iI (i + 1))), (6, .int (iI (un + 1))), (10, .int (iI jj)), (9, .int (iI is)), (8, .int (iI v_30)), (5, .int (iI ms2)), (4, .int (iI le2)), (0, .ref mo), (1, .int (iI rr)), (2, .int (iI cl)), (3, .int (iI wh))]) F dX7_column__188 hl (k := 4) rfl (by decide) rfl (fun ls hl => ?_)
                        refine z_goto (tgt := 81) F dX7_column__191 (by decide) ?_
                        exact ih81 le2 ms2 (un + 1) (i + 1) H locs ls zle2 zms2 ⟨by omega, by omega⟩ ⟨by omega, by omega⟩ (by omega) (by rw [show (i + 1).toNat = i.toNat + 1 by omega]; exact hle2) (by rw [show (i + 1).toNat = i.toNat + 1 by omega]; exact hmo2) ⟨by omega, by omega⟩ (by omega) hH hS (lv_sub hl [0, 1, 5, 6, 7, 8, 9, 10] rfl)
                    · refine lv_iload F.1 F.2.1 dX7_column__143 (lv_at hl 1 rfl) ?_
                      refine z_if_eq (tgt := 171) F dX7_column__145 (by decide) zis (fun c_36 => ?_) (fun c_36 => ?_)
                      · refine z_iconst F dX7_column__171 ?_
                        refine lv_istore (lv' := [(9, .int (iI 0)), (10, .int (iI jj)), (8, .int (iI v_30)), (7, .int (iI i)), (6, .int (iI un)), (5, .int (iI ms2)), (4, .int (iI le2)), (0, .ref mo), (1, .int (iI rr)), (2, .int (iI cl)), (3, .int (iI wh))]) F.1 F.2.1 dX7_column__172 hl (by decide) rfl (fun ls hl => ?_)
                        refine z_iinc (lv' := [(10, .int (iI (jj + 1))), (9, .int (iI 0)), (8, .int (iI v_30)), (7, .int (iI i)), (6, .int (iI un)), (5, .int (iI ms2)), (4, .int (iI le2)), (0, .ref mo), (1, .int (iI rr)), (2, .int (iI cl)), (3, .int (iI wh))]) F dX7_column__174 hl (k := 1) rfl (by decide) rfl (fun ls hl => ?_)
                        refine z_goto (tgt := 136) F dX7_column__177 (by decide) ?_
                        exact ih136 0 (jj + 1) H locs ls ⟨by decide, by decide⟩ ⟨by omega, by omega⟩ (by omega) (unI_z hui (by omega)) (by omega) hH hS (lv_sub hl [0, 1, 2, 3, 4, 5, 6, 7, 8, 9, 10] rfl)
                      · refine lv_aload_n F.1 F.2.1 dX7_column__148 rfl (lv_at hl 7 rfl) ?_
                        refine g_getR (ci := 7) (k := 6) F hH rfl (by decide) iX7 hm (by decide) rfl (b := gh 56 0) r_20a k24 dX7_column__149 ?_
                        refine z_iconst F dX7_column__152 ?_
                        refine lv_iload_n F.1 F.2.1 dX7_column__153 rfl (lv_at hl 8 rfl) ?_
                        refine lv_iload F.1 F.2.1 dX7_column__154 (lv_at hl 0 rfl) ?_
                        refine g_calli (g_runS (As := [.int (iI 0), .int (iI rr), .int (iI jj)]) (rest := [.ref (gh 56 0)]) F hl.1 hH hS hz (c_X7_spot l g  I_2 R J AI AJ AR 0 rr jj ⟨by decide, by decide⟩ zrr zjj (by omega) (by omega) (by omega)) (va_cwS 3 F.2.2.2.2.1 (good_up gT_X7_spot) rfl rfl rfl hdX7_spot.2 ⟨Nat.le_of_ble_eq_true rfl, Nat.le_of_ble_eq_true rfl⟩) rfl rfl (Nat.le_of_ble_eq_true rfl) dX7_column__156 ⟨Nat.zero_le _, Nat.zero_le _⟩) hS (fun v_43 I_37 R_38 J_39 AI_40 AJ_41 AR_42 H locs zv_43 hp_44 hH hS => ?_)
                        dsimp only at hp_44
                        obtain ⟨rfl, rfl, rfl, rfl, rfl, rfl, q_45⟩ := hp_44
                        refine lv_iload_n F.1 F.2.1 dX7_column__159 rfl (lv_at hl 9 rfl) ?_
                        refine z_iadd F dX7_column__160 ?_
                        have hx161 : 0 ≤ (v_43 + cl) ∧ (v_43 + cl) < ((126720 : Nat) : Int) ∧ (v_43 + cl) ≤ 2147483647 := ⟨by omega, by omega, by omega⟩
                        refine g_iald F hH r_20b hx161.1 hx161.2.1 hx161.2.2 dX7_column__161 ?_
                        refine z_name (fun v_46 ev_46 => ?_)
                        have zv_46 : zr v_46 := by rw [ev_46]; exact zr_t _
                        have c161 : v_46 = cvM (rfM gh AI 0 rr.toNat).2 cl.toNat jj.toNat := by unfold cvM; rw [rfM_2 (by omega) (by omega), ev_46]; congr 2; omega
                        refine lv_iload F.1 F.2.1 dX7_column__162 (lv_at hl 2 rfl) ?_
                        refine z_icmp_eq (tgt := 171) F dX7_column__164 (by decide) zv_46 zv_30 (fun c_47 => ?_) (fun c_47 => ?_)
                        · refine z_iconst F dX7_column__171 ?_
                          refine lv_istore (lv' := [(9, .int (iI 0)), (10, .int (iI jj)), (8, .int (iI v_30)), (7, .int (iI i)), (6, .int (iI un)), (5, .int (iI ms2)), (4, .int (iI le2)), (0, .ref mo), (1, .int (iI rr)), (2, .int (iI cl)), (3, .int (iI wh))]) F.1 F.2.1 dX7_column__172 hl (by decide) rfl (fun ls hl => ?_)
                          refine z_iinc (lv' := [(10, .int (iI (jj + 1))), (9, .int (iI 0)), (8, .int (iI v_30)), (7, .int (iI i)), (6, .int (iI un)), (5, .int (iI ms2)), (4, .int (iI le2)), (0, .ref mo), (1, .int (iI rr)), (2, .int (iI cl)), (3, .int (iI wh))]) F dX7_column__174 hl (k := 1) rfl (by decide) rfl (fun ls hl => ?_)
                          refine z_goto (tgt := 136) F dX7_column__177 (by decide) ?_
                          exact ih136 0 (jj + 1) H locs ls ⟨by decide, by decide⟩ ⟨by omega, by omega⟩ (by omega) (unI_n (by omega) (by omega) (by rw [← c161, ← c105]; omega)) (by omega) hH hS (lv_sub hl [0, 1, 2, 3, 4, 5, 6, 7, 8, 9, 10] rfl)
                        · refine z_iconst F dX7_column__167 ?_
                          refine z_goto (tgt := 172) F dX7_column__168 (by decide) ?_
                          refine lv_istore (lv' := [(9, .int (iI 1)), (10, .int (iI jj)), (8, .int (iI v_30)), (7, .int (iI i)), (6, .int (iI un)), (5, .int (iI ms2)), (4, .int (iI le2)), (0, .ref mo), (1, .int (iI rr)), (2, .int (iI cl)), (3, .int (iI wh))]) F.1 F.2.1 dX7_column__172 hl (by decide) rfl (fun ls hl => ?_)
                          refine z_iinc (lv' := [(10, .int (iI (jj + 1))), (9, .int (iI 1)), (8, .int (iI v_30)), (7, .int (iI i)), (6, .int (iI un)), (5, .int (iI ms2)), (4, .int (iI le2)), (0, .ref mo), (1, .int (iI rr)), (2, .int (iI cl)), (3, .int (iI wh))]) F dX7_column__174 hl (k := 1) rfl (by decide) rfl (fun ls hl => ?_)
                          refine z_goto (tgt := 136) F dX7_column__177 (by decide) ?_
                          exact ih136 1 (jj + 1) H locs ls ⟨by decide, by decide⟩ ⟨by omega, by omega⟩ (by omega) (unI_y hui (by omega) (by omega) (by rw [← c161, ← c105]; omega)) (by omega) hH hS (lv_sub hl [0, 1, 2, 3, 4, 5, 6, 7, 8, 9, 10] rfl)
                exact cut_136_32 (((i - 0) + 1 : Int).toNat) 1 0 H locs ls ⟨by decide, by decide⟩ ⟨by decide, by decide⟩ (by omega) unI_0 (by omega) hH hS (lv_sub hl [0, 1, 2, 3, 4, 5, 6, 7, 8, 9, 10] rfl)
              refine lv_iload F.1 F.2.1 dX7_column__119 (lv_at hl 0 rfl) ?_
              refine lv_iload F.1 F.2.1 dX7_column__121 (lv_at hl 3 rfl) ?_
              refine z_icmp_le (tgt := 130) F dX7_column__123 (by decide) zv_30 zmst (fun c_48 => ?_) (fun c_48 => ?_)
              · exact cut_130_31 mst H locs ls zmst (moI_k hmo (by rw [← c105]; omega)) hH hS (lv_sub hl [0, 1, 2, 3, 4, 5, 6, 7, 8] rfl)
              · refine lv_iload F.1 F.2.1 dX7_column__126 (lv_at hl 0 rfl) ?_
                refine lv_istore (lv' := [(5, .int (iI v_30)), (8, .int (iI v_30)), (7, .int (iI i)), (6, .int (iI un)), (4, .int (iI le2)), (0, .ref mo), (1, .int (iI rr)), (2, .int (iI cl)), (3, .int (iI wh))]) F.1 F.2.1 dX7_column__128 hl (by decide) rfl (fun ls hl => ?_)
                exact cut_130_31 v_30 H locs ls zv_30 (by rw [c105]; exact moI_n hmo (by rw [← c105]; omega)) hH hS (lv_sub hl [1, 2, 3, 0, 4, 5, 6, 7, 8] rfl)
            refine lv_iload F.1 F.2.1 dX7_column__108 (lv_at hl 0 rfl) ?_
            refine lv_iload F.1 F.2.1 dX7_column__110 (lv_at hl 4 rfl) ?_
            refine z_icmp_ge (tgt := 119) F dX7_column__112 (by decide) zv_30 zle (fun c_49 => ?_) (fun c_49 => ?_)
            · exact cut_119_30 le H locs ls zle (leI_k hle (by rw [← c105]; omega)) hH hS (lv_sub hl [0, 1, 2, 3, 4, 5, 6, 7, 8] rfl)
            · refine lv_iload F.1 F.2.1 dX7_column__115 (lv_at hl 0 rfl) ?_
              refine lv_istore (lv' := [(4, .int (iI v_30)), (8, .int (iI v_30)), (7, .int (iI i)), (6, .int (iI un)), (5, .int (iI mst)), (0, .ref mo), (1, .int (iI rr)), (2, .int (iI cl)), (3, .int (iI wh))]) F.1 F.2.1 dX7_column__117 hl (by decide) rfl (fun ls hl => ?_)
              exact cut_119_30 v_30 H locs ls zv_30 (by rw [c105]; exact leI_n hle (by rw [← c105]; omega)) hH hS (lv_sub hl [1, 2, 3, 4, 0, 5, 6, 7, 8] rfl)
      exact cut_81_5 (((120 - 0) + 1 : Int).toNat) 2147483647 (-2147483648) 0 0 H locs ls ⟨by decide, by decide⟩ ⟨by decide, by decide⟩ ⟨by decide, by decide⟩ ⟨by decide, by decide⟩ (by omega) leI_0 moI_0 ⟨rfl, by omega⟩ (by omega) hH hS (lv_sub hl [0, 1, 2, 3, 4, 5, 6, 7] rfl)
    · refine z_iconst F dX7_column__63 ?_
      exact g_iret F hr hlk hH hS hz ⟨by decide, by decide⟩ ⟨rfl, rfl, rfl, rfl, rfl, hv, nf, Or.inl ⟨by (try dsimp only); omega, rfl, (hcm.resolve_left (fun h9 => by have h8 := h9.1; omega)).2⟩, ⟨by (try dsimp only); exact i8, by (try dsimp only); exact i9, by (try dsimp only); exact i10⟩⟩ dX7_column__64
  refine lv_aload_n F.1 F.2.1 dX7_column__1 rfl (lv_at hl 0 rfl) ?_
  refine lv_iload_n F.1 F.2.1 dX7_column__2 rfl (lv_at hl 1 rfl) ?_
  have b_50 := mJ hv hm
  unfold mNum1 at b_50
  refine g_calli (g_runV (As := [.int (iI rr)]) (rest := [.ref mo]) (ci := 7) F hl.1 hH hS hz (c_X7_isRelationf l g gh T I R J AI AJ AR mo rr zrr hv hm hT) (cwV 1 F.2.2.2.2.1 (good_up gT_X7_isRelation) rfl rfl rfl hdX7_isRelation ⟨Nat.le_of_ble_eq_true rfl, Nat.le_of_ble_eq_true rfl⟩) hm (by decide) rfl rfl rfl (Nat.le_of_ble_eq_true rfl) dX7_column__3 ⟨Nat.zero_le _, Nat.zero_le _⟩) hS (fun v_57 I_51 R_52 J_53 AI_54 AJ_55 AR_56 H locs zv_57 hp_58 hH hS => ?_)
  dsimp only at hp_58
  obtain ⟨rfl, rfl, rfl, rfl, rfl, rfl, q_59, qis⟩ := hp_58
  refine z_if_eq (tgt := 51) F dX7_column__6 (by decide) zv_57 (fun c_60 => ?_) (fun c_60 => ?_)
  · refine z_iconst F dX7_column__51 ?_
    exact cut_52_0 1 H locs ls ⟨by decide, by decide⟩ (by omega) (Or.inr ⟨rfl, fun h9 => by have h8 := h9.1; have h7 := qis (by omega); omega⟩) hH hS (lv_sub hl [0, 1, 2, 3] rfl)
  · refine lv_iload_n F.1 F.2.1 dX7_column__9 rfl (lv_at hl 2 rfl) ?_
    refine z_iconst F dX7_column__10 ?_
    have x := mRow hv hm hT (z := rr) (by omega) (by omega)
    have xa := x.1
    refine lv_aload_n F.1 F.2.1 dX7_column__11 rfl (lv_at hl 0 rfl) ?_
    refine lv_iload_n F.1 F.2.1 dX7_column__12 rfl (lv_at hl 1 rfl) ?_
    refine g_calli (g_runV (As := [.int (iI rr)]) (rest := [.int (iI 0), .int (iI cl), .ref mo]) (ci := 7) F hl.1 hH hS hz (c_X7_columnsOf l g gh T I R J AI AJ AR mo rr zrr hv hm hT (by omega)) (cwV 1 F.2.2.2.2.1 (good_up gT_X7_columnsOf) rfl rfl rfl hdX7_columnsOf ⟨Nat.le_of_ble_eq_true rfl, Nat.le_of_ble_eq_true rfl⟩) hm (by decide) rfl rfl rfl (Nat.le_of_ble_eq_true rfl) dX7_column__13 ⟨Nat.zero_le _, Nat.zero_le _⟩) hS (fun v_67 I_61 R_62 J_63 AI_64 AJ_65 AR_66 H locs zv_67 hp_68 hH hS => ?_)
    dsimp only at hp_68
    obtain ⟨rfl, rfl, rfl, rfl, rfl, rfl, qc13⟩ := hp_68
    refine z_iconst F dX7_column__16 ?_
    refine z_isub F dX7_column__17 ?_
    refine g_calli (g_runS (As := [.int (iI cl), .int (iI 0), .int (iI (v_67 - 1))]) (rest := [.ref mo]) F hl.1 hH hS hz (c_X7_within l g  I R J AI AJ AR cl 0 (v_67 - 1) zcl ⟨by decide, by decide⟩ ⟨by omega, by omega⟩) (va_cwS 3 F.2.2.2.2.1 (good_up gT_X7_within) rfl rfl rfl hdX7_within.2 ⟨Nat.le_of_ble_eq_true rfl, Nat.le_of_ble_eq_true rfl⟩) rfl rfl (Nat.le_of_ble_eq_true rfl) dX7_column__18 ⟨Nat.zero_le _, Nat.zero_le _⟩) hS (fun v_75 I_69 R_70 J_71 AI_72 AJ_73 AR_74 H locs zv_75 hp_76 hH hS => ?_)
    dsimp only at hp_76
    obtain ⟨rfl, rfl, rfl, rfl, rfl, rfl, qw18⟩ := hp_76
    refine z_if_eq (tgt := 51) F dX7_column__21 (by decide) zv_75 (fun c_77 => ?_) (fun c_77 => ?_)
    · refine z_iconst F dX7_column__51 ?_
      exact cut_52_0 1 H locs ls ⟨by decide, by decide⟩ (by omega) (Or.inr ⟨rfl, fun h9 => by have h8 := h9.2.1; rw [← qc13] at h8; omega⟩) hH hS (lv_sub hl [0, 1, 2, 3] rfl)
    · refine lv_iload_n F.1 F.2.1 dX7_column__24 rfl (lv_at hl 3 rfl) ?_
      refine z_iconst F dX7_column__25 ?_
      refine z_iconst F dX7_column__26 ?_
      refine g_calli (g_runS (As := [.int (iI wh), .int (iI 0), .int (iI 2)]) (rest := [.ref mo]) F hl.1 hH hS hz (c_X7_within l g  I R J AI AJ AR wh 0 2 zwh ⟨by decide, by decide⟩ ⟨by decide, by decide⟩) (va_cwS 3 F.2.2.2.2.1 (good_up gT_X7_within) rfl rfl rfl hdX7_within.2 ⟨Nat.le_of_ble_eq_true rfl, Nat.le_of_ble_eq_true rfl⟩) rfl rfl (Nat.le_of_ble_eq_true rfl) dX7_column__27 ⟨Nat.zero_le _, Nat.zero_le _⟩) hS (fun v_84 I_78 R_79 J_80 AI_81 AJ_82 AR_83 H locs zv_84 hp_85 hH hS => ?_)
      dsimp only at hp_85
      obtain ⟨rfl, rfl, rfl, rfl, rfl, rfl, qw27⟩ := hp_85
      refine z_if_eq (tgt := 51) F dX7_column__30 (by decide) zv_84 (fun c_86 => ?_) (fun c_86 => ?_)
      · refine z_iconst F dX7_column__51 ?_
        exact cut_52_0 1 H locs ls ⟨by decide, by decide⟩ (by omega) (Or.inr ⟨rfl, fun h9 => by have h8 := h9.2.2.1; omega⟩) hH hS (lv_sub hl [0, 1, 2, 3] rfl)
      · refine lv_iload_n F.1 F.2.1 dX7_column__33 rfl (lv_at hl 3 rfl) ?_
        refine z_iconst F dX7_column__34 ?_
        refine z_icmp_eq (tgt := 47) F dX7_column__35 (by decide) zwh ⟨by decide, by decide⟩ (fun c_87 => ?_) (fun c_87 => ?_)
        · refine z_iconst F dX7_column__47 ?_
          refine z_goto (tgt := 52) F dX7_column__48 (by decide) ?_
          exact cut_52_0 0 H locs ls ⟨by decide, by decide⟩ (by omega) (Or.inl ⟨rfl, ⟨by omega, by omega⟩, ⟨by omega, by omega⟩, ⟨by omega, by omega⟩, by omega⟩) hH hS (lv_sub hl [0, 1, 2, 3] rfl)
        · refine lv_aload_n F.1 F.2.1 dX7_column__38 rfl (lv_at hl 0 rfl) ?_
          refine z_iconst F dX7_column__39 ?_
          refine lv_iload_n F.1 F.2.1 dX7_column__40 rfl (lv_at hl 1 rfl) ?_
          refine g_calli (g_runV (As := [.int (iI 0), .int (iI rr)]) (rest := [.ref mo]) (ci := 7) F hl.1 hH hS hz (c_X7_sizeOf l g gh T I R J AI AJ AR mo 0 rr ⟨by decide, by decide⟩ zrr hv hm hT (by omega) (by omega)) (cwV 2 F.2.2.2.2.1 (good_up gT_X7_sizeOf) rfl rfl rfl hdX7_sizeOf ⟨Nat.le_of_ble_eq_true rfl, Nat.le_of_ble_eq_true rfl⟩) hm (by decide) rfl rfl rfl (Nat.le_of_ble_eq_true rfl) dX7_column__41 ⟨Nat.zero_le _, Nat.zero_le _⟩) hS (fun v_94 I_88 R_89 J_90 AI_91 AJ_92 AR_93 H locs zv_94 hp_95 hH hS => ?_)
          dsimp only at hp_95
          obtain ⟨rfl, rfl, rfl, rfl, rfl, rfl, q_96, qsz41⟩ := hp_95
          have hs41 : v_94 = (((rfM gh AI 0 rr.toNat).1 : Nat) : Int) := by rw [rfM_1 (by omega), qsz41]; unfold tI; have h8 := (mSz hv hm (z := 16 * 0 + rr) (by omega) (by omega)).1; omega
          refine z_if_le (tgt := 51) F dX7_column__44 (by decide) zv_94 (fun c_97 => ?_) (fun c_97 => ?_)
          · refine z_iconst F dX7_column__51 ?_
            exact cut_52_0 1 H locs ls ⟨by decide, by decide⟩ (by omega) (Or.inr ⟨rfl, fun h9 => by have h8 := h9.2.2.2; omega⟩) hH hS (lv_sub hl [0, 1, 2, 3] rfl)
          · refine z_iconst F dX7_column__47 ?_
            refine z_goto (tgt := 52) F dX7_column__48 (by decide) ?_
            exact cut_52_0 0 H locs ls ⟨by decide, by decide⟩ (by omega) (Or.inl ⟨rfl, ⟨by omega, by omega⟩, ⟨by omega, by omega⟩, ⟨by omega, by omega⟩, by omega⟩) hH hS (lv_sub hl [0, 1, 2, 3] rfl)

def rmX7_toldg : Room := { frames := 3, cells := 0, slots := 0, locals := 76 }
set_option maxHeartbeats 4000000 in
set_option maxRecDepth 100000 in
/-- told -/
theorem c_X7_toldg (l : Launch) (g : gG) (gh : gGh) (T : Nat → Int32) (tbs : Int) (nr : Nat) (cc : Nat → LC) (cl : Nat → Int) (I : gI) (R : gR) (J : gJ) (AI : gI) (AJ : gJ) (AR : gR) (mo : Nat) (wh : Int) (zwh : zr wh) (hv : mInv g gh R I AI) (hm : gO g mo 7) (hT : AI (gh 50 0) = T) (hmr : (I mo 2).toInt = (nr : Int)) (hpl : plM9 T tbs nr cc cl) (hbg : ∀ r : Nat, r < nr → bgOK (rfM gh AI 0) cl r) (hb9 : ∀ r : Nat, r < nr → bgOK (rfM gh AI 9) cl r) : gMet l g yX7_told tsX7_told rmX7_toldg [.ref mo, .int (iI wh)] (I, R, J, AI, AJ, AR) (gQi g (fun (z : Int) (w : gS) => R = w.2.1 ∧ J = w.2.2.1 ∧ AJ = w.2.2.2.2.1 ∧ AR = w.2.2.2.2.2 ∧ (mInv g gh R (w.1) (w.2.2.2.1)) ∧ ((w.2.2.2.1) (gh 50 0) = T) ∧ (nF mo I (w.1)) ∧ (wh = 9 → z = (I mo 16).toInt) ∧ ((wh = 0 ∧ z = tbs) ∨ (wh = 1 ∧ z = (nr : Int) - tbs) ∨ (wh = 2 ∧ iI z = I mo 9) ∨ (wh = 3 ∧ iI z = I mo 10) ∨ (wh = 4 ∧ z = (I mo 8).toInt) ∨ (wh = 5 ∧ z = (I mo 14).toInt) ∨ (wh = 6 ∧ z = smL (fun r => (((rfM gh AI 0 r).1 : Nat) : Int)) tbs.toNat (nr - tbs.toNat)) ∨ (wh = 7 ∧ z = smL (fun r => ((bgN (mvF gh AI r) : Nat) : Int)) tbs.toNat (nr - tbs.toNat)) ∨ (wh = 8 ∧ z = smL (ctF gh AI cc) tbs.toNat (nr - tbs.toNat)) ∨ (wh = 9 ∧ z = (I mo 16).toInt) ∨ ((wh < 0 ∨ 9 < wh) ∧ z = -1)) ∧ (∀ b, b ≠ gh 81 0 → (w.2.2.2.1) b = AI b) ∧ ((w.1) mo 8 = I mo 8 ∧ (w.1) mo 9 = I mo 9 ∧ (w.1) mo 10 = I mo 10))) := by
  refine gStart (cc := cX7_told) (maxL := 4) (ret := (some (.int))) (by decide) rfl (Nat.le_of_ble_eq_true rfl) ?_
  intro p e s m below meth c ls F hr hlk hH hz hS hl
  have hl : lv_has ls 4 [(0, .ref mo), (1, .int (iI wh))] := hl
  have hS : va_S (gA g) s.heap s.heap [] := hS
  obtain ⟨H, hHe⟩ : ∃ H : Heap, H = s.heap := ⟨_, rfl⟩
  obtain ⟨locs, hlo⟩ : ∃ k : List Loc, k = [] := ⟨_, rfl⟩
  have hH : gH g I R J AI AJ AR H := by rw [hHe]; exact hH
  have hS : va_S (gA g) s.heap H locs := by rw [hHe, hlo]; exact hS
  suffices hw : W p l e rmX7_toldg s m ([.ref mo, .int (iI wh)] : List Value).toArray below meth c H locs 0 0 (MQ below (gQi g (fun (z : Int) (w : gS) => R = w.2.1 ∧ J = w.2.2.1 ∧ AJ = w.2.2.2.2.1 ∧ AR = w.2.2.2.2.2 ∧ (mInv g gh R (w.1) (w.2.2.2.1)) ∧ ((w.2.2.2.1) (gh 50 0) = T) ∧ (nF mo I (w.1)) ∧ (wh = 9 → z = (I mo 16).toInt) ∧ ((wh = 0 ∧ z = tbs) ∨ (wh = 1 ∧ z = (nr : Int) - tbs) ∨ (wh = 2 ∧ iI z = I mo 9) ∨ (wh = 3 ∧ iI z = I mo 10) ∨ (wh = 4 ∧ z = (I mo 8).toInt) ∨ (wh = 5 ∧ z = (I mo 14).toInt) ∨ (wh = 6 ∧ z = smL (fun r => (((rfM gh AI 0 r).1 : Nat) : Int)) tbs.toNat (nr - tbs.toNat)) ∨ (wh = 7 ∧ z = smL (fun r => ((bgN (mvF gh AI r) : Nat) : Int)) tbs.toNat (nr - tbs.toNat)) ∨ (wh = 8 ∧ z = smL (ctF gh AI cc) tbs.toNat (nr - tbs.toNat)) ∨ (wh = 9 ∧ z = (I mo 16).toInt) ∨ ((wh < 0 ∨ 9 < wh) ∧ z = -1)) ∧ (∀ b, b ≠ gh 81 0 → (w.2.2.2.1) b = AI b) ∧ ((w.1) mo 8 = I mo 8 ∧ (w.1) mo 9 = I mo 9 ∧ (w.1) mo 10 = I mo 10))) ([.ref mo, .int (iI wh)] : List Value).toArray s 0 0 (gA g)) (F0 m 0 ls []) by
    rw [hHe, hlo] at hw; exact hw
  clear hHe hlo
  have nf : nF mo I I := nF_r
  have hp1 := hpl.1
  have hb0 := mJ hv hm
  unfold mNum1 at hb0
  have i8 : I mo 8 = I mo 8 := rfl
  have i9 : I mo 9 = I mo 9 := rfl
  have i10 : I mo 10 = I mo 10 := rfl
  have iX7 : ∀ w ∈ u_ws RX7 TX7 32, w ∈ tsX7_told := fun w h => List.mem_cons_of_mem _ (inTB7 w h)
  have k60 : Cond.fieldLink RX7 60 (TX7 17).1 (TX7 17).2.1 (TX7 17).2.2.1 ∈ tsX7_told := List.mem_cons_of_mem _ fl_60
  have k64 : Cond.fieldLink RX7 64 (TX7 2).1 (TX7 2).2.1 (TX7 2).2.2.1 ∈ tsX7_told := List.mem_cons_of_mem _ fl_64
  have k260 : Cond.fieldLink RX7 260 (TX7 9).1 (TX7 9).2.1 (TX7 9).2.2.1 ∈ tsX7_told := List.mem_cons_of_mem _ fl_260
  have k263 : Cond.fieldLink RX7 263 (TX7 10).1 (TX7 10).2.1 (TX7 10).2.2.1 ∈ tsX7_told := List.mem_cons_of_mem _ fl_263
  have k257 : Cond.fieldLink RX7 257 (TX7 8).1 (TX7 8).2.1 (TX7 8).2.2.1 ∈ tsX7_told := List.mem_cons_of_mem _ fl_257
  have k266 : Cond.fieldLink RX7 266 (TX7 14).1 (TX7 14).2.1 (TX7 14).2.2.1 ∈ tsX7_told := List.mem_cons_of_mem _ fl_266
  have k71 : Cond.fieldLink RX7 71 (TX7 16).1 (TX7 16).2.1 (TX7 16).2.2.1 ∈ tsX7_told := List.mem_cons_of_mem _ fl_71
  refine lv_aload_n F.1 F.2.1 dX7_told_0 rfl (lv_at hl 0 rfl) ?_
  refine z_iconst F dX7_told_1 ?_
  refine g_putI (ci := 7) (k := 17) F hH hS rfl (by decide) iX7 hm (by decide) tyX7 tyX7_ok nmX7 rfl rfl rfl k60 dX7_told_2 (fun H locs hH hS => ?_)
  obtain ⟨I_1, eI_1⟩ : ∃ qQ, qQ = gup2 I mo 17 (iI (0)) := ⟨_, rfl⟩
  rw [← eI_1] at hH
  have kI_1 : ∀ b, b ≠ mo → I_1 b = I b := fun b hb => by rw [eI_1]; exact funext fun j => gup2_a _ _ hb
  have w_2 : (I_1 mo 17).toInt = 0 := by rw [eI_1, gup2_s]; exact iI_val ⟨by decide, by decide⟩
  have hv : mInv g gh R I_1 AI := by rw [eI_1]; exact mP17 hv hm
  have nf : nF mo I I_1 := nF_t nf (by rw [eI_1]; exact nF_p (by decide))
  have u_3_2 : (I_1 mo 2).toInt = (I mo 2).toInt := by rw [nf 2 (by decide) (by decide) (by decide) (by decide) (by decide)]
  have u_3_5 : (I_1 mo 5).toInt = (I mo 5).toInt := by rw [nf 5 (by decide) (by decide) (by decide) (by decide) (by decide)]
  have u_3_14 : (I_1 mo 14).toInt = (I mo 14).toInt := by rw [nf 14 (by decide) (by decide) (by decide) (by decide) (by decide)]
  have u_3_16 : (I_1 mo 16).toInt = (I mo 16).toInt := by rw [nf 16 (by decide) (by decide) (by decide) (by decide) (by decide)]
  have u_3_24 : (I_1 mo 24).toInt = (I mo 24).toInt := by rw [nf 24 (by decide) (by decide) (by decide) (by decide) (by decide)]
  have i8 : I mo 8 = I mo 8 := rfl
  have i9 : I mo 9 = I mo 9 := rfl
  have i10 : I mo 10 = I mo 10 := rfl
  have i14 : I mo 14 = I mo 14 := rfl
  have i8 : I_1 mo 8 = I mo 8 := (show I_1 mo 8 = I mo 8 by rw [eI_1, gup2_k _ _ (by decide)]).trans i8
  have i9 : I_1 mo 9 = I mo 9 := (show I_1 mo 9 = I mo 9 by rw [eI_1, gup2_k _ _ (by decide)]).trans i9
  have i10 : I_1 mo 10 = I mo 10 := (show I_1 mo 10 = I mo 10 by rw [eI_1, gup2_k _ _ (by decide)]).trans i10
  have i14 : I_1 mo 14 = I mo 14 := (show I_1 mo 14 = I mo 14 by rw [eI_1, gup2_k _ _ (by decide)]).trans i14
  refine z_iconst F dX7_told_5 ?_
  refine lv_istore_n (lv' := [(2, .int (iI 0)), (0, .ref mo), (1, .int (iI wh))]) F.1 F.2.1 dX7_told_6 rfl hl (by decide) rfl (fun ls hl => ?_)
  refine lv_iload_n F.1 F.2.1 dX7_told_7 rfl (lv_at hl 2 rfl) ?_
  have ec_4 : (iI wh).toInt = wh := iI_val zwh
  by_cases c_4 : wh < 0 ∨ 9 < wh
  · refine lv_tableOut (tgt := 168) F.1 F.2.1 dX7_told_8 (by rw [ec_4]; exact c_4) (by decide) ?_
    refine z_iconst F dX7_told_168 ?_
    exact g_iret F hr hlk hH hS hz ⟨by decide, by decide⟩ ⟨rfl, rfl, rfl, rfl, hv, hT, nf, fun _ => by omega, Or.inr (Or.inr (Or.inr (Or.inr (Or.inr (Or.inr (Or.inr (Or.inr (Or.inr (Or.inr (⟨by omega, rfl⟩)))))))))), fun _ _ => rfl, ⟨by (try dsimp only); exact i8, by (try dsimp only); exact i9, by (try dsimp only); exact i10⟩⟩ dX7_told_169
  by_cases c_4_0 : wh = 0
  · refine lv_tableIn (tgt := 64) (off := 56) F.1 F.2.1 dX7_told_8 (by rw [ec_4]; omega) (by rw [ec_4]; omega) (by rw [ec_4, c_4_0]; rfl) (by decide) ?_
    refine lv_aload_n F.1 F.2.1 dX7_told_64 rfl (lv_at hl 1 rfl) ?_
    have b_5 := mJ hv hm
    unfold mNum1 at b_5
    refine g_calli (g_runV (As := []) (rest := []) (ci := 7) F hl.1 hH hS hz (c_X7_tablesf l g gh T I_1 R J AI AJ AR mo hv hm hT) (cwV 0 F.2.2.2.2.1 (good_up gT_X7_tables) rfl rfl rfl hdX7_tables ⟨Nat.le_of_ble_eq_true rfl, Nat.le_of_ble_eq_true rfl⟩) hm (by decide) rfl rfl rfl (Nat.le_of_ble_eq_true rfl) dX7_told_65 ⟨Nat.zero_le _, Nat.zero_le _⟩) hS (fun v_12 I_6 R_7 J_8 AI_9 AJ_10 AR_11 H locs zv_12 hp_13 hH hS => ?_)
    dsimp only at hp_13
    obtain ⟨rfl, rfl, rfl, rfl, rfl, rfl, q_14, hvw, qtt⟩ := hp_13
    have ht65 : v_12 = tbs := tb_eq (many := (I mo 2).toInt) (by omega) (fun r h1 h2 => hvw r h1 (by omega)) qtt (by omega) hpl.2.1 (pl_6 hpl hmr)
    exact g_iret F hr hlk hH hS hz zv_12 ⟨rfl, rfl, rfl, rfl, hv, hT, nf, fun _ => by omega, Or.inl ⟨by omega, ht65⟩, fun _ _ => rfl, ⟨by (try dsimp only); exact i8, by (try dsimp only); exact i9, by (try dsimp only); exact i10⟩⟩ dX7_told_68
  by_cases c_4_1 : wh = 1
  · refine lv_tableIn (tgt := 69) (off := 61) F.1 F.2.1 dX7_told_8 (by rw [ec_4]; omega) (by rw [ec_4]; omega) (by rw [ec_4, c_4_1]; rfl) (by decide) ?_
    refine lv_aload_n F.1 F.2.1 dX7_told_69 rfl (lv_at hl 1 rfl) ?_
    refine g_getI (ci := 7) (k := 2) F hH rfl (by decide) iX7 hm (by decide) rfl k64 dX7_told_70 ?_
    have b_15 := mJ hv hm
    unfold mNum1 at b_15
    refine lv_aload_n F.1 F.2.1 dX7_told_73 rfl (lv_at hl 1 rfl) ?_
    refine g_calli (g_runV (As := []) (rest := [.int (iI ((I_1 mo 2).toInt))]) (ci := 7) F hl.1 hH hS hz (c_X7_tablesf l g gh T I_1 R J AI AJ AR mo hv hm hT) (cwV 0 F.2.2.2.2.1 (good_up gT_X7_tables) rfl rfl rfl hdX7_tables ⟨Nat.le_of_ble_eq_true rfl, Nat.le_of_ble_eq_true rfl⟩) hm (by decide) rfl rfl rfl (Nat.le_of_ble_eq_true rfl) dX7_told_74 ⟨Nat.zero_le _, Nat.zero_le _⟩) hS (fun v_22 I_16 R_17 J_18 AI_19 AJ_20 AR_21 H locs zv_22 hp_23 hH hS => ?_)
    dsimp only at hp_23
    obtain ⟨rfl, rfl, rfl, rfl, rfl, rfl, q_24, hvw, qtt⟩ := hp_23
    have ht74 : v_22 = tbs := tb_eq (many := (I mo 2).toInt) (by omega) (fun r h1 h2 => hvw r h1 (by omega)) qtt (by omega) hpl.2.1 (pl_6 hpl hmr)
    refine z_isub F dX7_told_77 ?_
    exact g_iret F hr hlk hH hS hz ⟨by omega, by omega⟩ ⟨rfl, rfl, rfl, rfl, hv, hT, nf, fun _ => by omega, Or.inr (Or.inl ⟨by omega, by omega⟩), fun _ _ => rfl, ⟨by (try dsimp only); exact i8, by (try dsimp only); exact i9, by (try dsimp only); exact i10⟩⟩ dX7_told_78
  by_cases c_4_2 : wh = 2
  · refine lv_tableIn (tgt := 79) (off := 71) F.1 F.2.1 dX7_told_8 (by rw [ec_4]; omega) (by rw [ec_4]; omega) (by rw [ec_4, c_4_2]; rfl) (by decide) ?_
    refine lv_aload_n F.1 F.2.1 dX7_told_79 rfl (lv_at hl 1 rfl) ?_
    refine g_getI (ci := 7) (k := 9) F hH rfl (by decide) iX7 hm (by decide) rfl k260 dX7_told_80 ?_
    refine z_norm (fun v_25 zv_25 ev_25 => ?_)
    exact g_iret F hr hlk hH hS hz zv_25 ⟨rfl, rfl, rfl, rfl, hv, hT, nf, fun _ => by omega, Or.inr (Or.inr (Or.inl ⟨by omega, by rw [ev_25, iI_self]; exact i9⟩)), fun _ _ => rfl, ⟨by (try dsimp only); exact i8, by (try dsimp only); exact i9, by (try dsimp only); exact i10⟩⟩ dX7_told_83
  by_cases c_4_3 : wh = 3
  · refine lv_tableIn (tgt := 84) (off := 76) F.1 F.2.1 dX7_told_8 (by rw [ec_4]; omega) (by rw [ec_4]; omega) (by rw [ec_4, c_4_3]; rfl) (by decide) ?_
    refine lv_aload_n F.1 F.2.1 dX7_told_84 rfl (lv_at hl 1 rfl) ?_
    refine g_getI (ci := 7) (k := 10) F hH rfl (by decide) iX7 hm (by decide) rfl k263 dX7_told_85 ?_
    refine z_norm (fun v_26 zv_26 ev_26 => ?_)
    exact g_iret F hr hlk hH hS hz zv_26 ⟨rfl, rfl, rfl, rfl, hv, hT, nf, fun _ => by omega, Or.inr (Or.inr (Or.inr (Or.inl ⟨by omega, by rw [ev_26, iI_self]; exact i10⟩))), fun _ _ => rfl, ⟨by (try dsimp only); exact i8, by (try dsimp only); exact i9, by (try dsimp only); exact i10⟩⟩ dX7_told_88
  by_cases c_4_4 : wh = 4
  · refine lv_tableIn (tgt := 89) (off := 81) F.1 F.2.1 dX7_told_8 (by rw [ec_4]; omega) (by rw [ec_4]; omega) (by rw [ec_4, c_4_4]; rfl) (by decide) ?_
    refine lv_aload_n F.1 F.2.1 dX7_told_89 rfl (lv_at hl 1 rfl) ?_
    refine g_getI (ci := 7) (k := 8) F hH rfl (by decide) iX7 hm (by decide) rfl k257 dX7_told_90 ?_
    have b_27 := mJ hv hm
    unfold mNum1 at b_27
    exact g_iret F hr hlk hH hS hz (zr_t _) ⟨rfl, rfl, rfl, rfl, hv, hT, nf, fun _ => by omega, Or.inr (Or.inr (Or.inr (Or.inr (Or.inl ⟨by omega, by rw [← i8]⟩)))), fun _ _ => rfl, ⟨by (try dsimp only); exact i8, by (try dsimp only); exact i9, by (try dsimp only); exact i10⟩⟩ dX7_told_93
  by_cases c_4_5 : wh = 5
  · refine lv_tableIn (tgt := 94) (off := 86) F.1 F.2.1 dX7_told_8 (by rw [ec_4]; omega) (by rw [ec_4]; omega) (by rw [ec_4, c_4_5]; rfl) (by decide) ?_
    refine lv_aload_n F.1 F.2.1 dX7_told_94 rfl (lv_at hl 1 rfl) ?_
    refine g_getI (ci := 7) (k := 14) F hH rfl (by decide) iX7 hm (by decide) rfl k266 dX7_told_95 ?_
    have b_28 := mJ hv hm
    unfold mNum1 at b_28
    exact g_iret F hr hlk hH hS hz (zr_t _) ⟨rfl, rfl, rfl, rfl, hv, hT, nf, fun _ => by omega, Or.inr (Or.inr (Or.inr (Or.inr (Or.inr (Or.inl ⟨by omega, by omega⟩))))), fun _ _ => rfl, ⟨by (try dsimp only); exact i8, by (try dsimp only); exact i9, by (try dsimp only); exact i10⟩⟩ dX7_told_98
  by_cases c_4_6 : wh = 6
  · refine lv_tableIn (tgt := 99) (off := 91) F.1 F.2.1 dX7_told_8 (by rw [ec_4]; omega) (by rw [ec_4]; omega) (by rw [ec_4, c_4_6]; rfl) (by decide) ?_
    refine lv_aload_n F.1 F.2.1 dX7_told_99 rfl (lv_at hl 1 rfl) ?_
    have b_29 := mJ hv hm
    unfold mNum1 at b_29
    refine g_calli (g_runV (As := []) (rest := []) (ci := 7) F hl.1 hH hS hz (c_X7_tablesf l g gh T I_1 R J AI AJ AR mo hv hm hT) (cwV 0 F.2.2.2.2.1 (good_up gT_X7_tables) rfl rfl rfl hdX7_tables ⟨Nat.le_of_ble_eq_true rfl, Nat.le_of_ble_eq_true rfl⟩) hm (by decide) rfl rfl rfl (Nat.le_of_ble_eq_true rfl) dX7_told_100 ⟨Nat.zero_le _, Nat.zero_le _⟩) hS (fun v_36 I_30 R_31 J_32 AI_33 AJ_34 AR_35 H locs zv_36 hp_37 hH hS => ?_)
    dsimp only at hp_37
    obtain ⟨rfl, rfl, rfl, rfl, rfl, rfl, q_38, hvw, qtt⟩ := hp_37
    have ht100 : v_36 = tbs := tb_eq (many := (I mo 2).toInt) (by omega) (fun r h1 h2 => hvw r h1 (by omega)) qtt (by omega) hpl.2.1 (pl_6 hpl hmr)
    refine lv_istore_n (lv' := [(3, .int (iI v_36)), (2, .int (iI 0)), (0, .ref mo), (1, .int (iI wh))]) F.1 F.2.1 dX7_told_103 rfl hl (by decide) rfl (fun ls hl => ?_)
    have cut_104_38 : ∀ (NN : Nat) (n k : Int) (H : Heap) (locs : List Loc) (ls : Array Slot), zr n → zr k → (0 ≤ k ∧ k ≤ 16 ∧ 0 ≤ n ∧ n ≤ 120 * k) → (n = smL (fun r => (((rfM gh AI 0 r).1 : Nat) : Int)) tbs.toNat (k - tbs).toNat ∧ tbs ≤ k ∧ k ≤ (nr : Int)) → (16 - k) < ((NN : Nat) : Int) → gH g I_1 R J AI AJ AR H → va_S (gA g) s.heap H locs → lv_has ls 4 [(3, .int (iI k)), (2, .int (iI n)), (0, .ref mo), (1, .int (iI wh))] → W p l e rmX7_toldg s m ([.ref mo, .int (iI wh)] : List Value).toArray below meth c H locs 0 0 (MQ below (gQi g (fun (z : Int) (w : gS) => R = w.2.1 ∧ J = w.2.2.1 ∧ AJ = w.2.2.2.2.1 ∧ AR = w.2.2.2.2.2 ∧ (mInv g gh R (w.1) (w.2.2.2.1)) ∧ ((w.2.2.2.1) (gh 50 0) = T) ∧ (nF mo I (w.1)) ∧ (wh = 9 → z = (I mo 16).toInt) ∧ ((wh = 0 ∧ z = tbs) ∨ (wh = 1 ∧ z = (nr : Int) - tbs) ∨ (wh = 2 ∧ iI z = I mo 9) ∨ (wh = 3 ∧ iI z = I mo 10) ∨ (wh = 4 ∧ z = (I mo 8).toInt) ∨ (wh = 5 ∧ z = (I mo 14).toInt) ∨ (wh = 6 ∧ z = smL (fun r => (((rfM gh AI 0 r).1 : Nat) : Int)) tbs.toNat (nr - tbs.toNat)) ∨ (wh = 7 ∧ z = smL (fun r => ((bgN (mvF gh AI r) : Nat) : Int)) tbs.toNat (nr - tbs.toNat)) ∨ (wh = 8 ∧ z = smL (ctF gh AI cc) tbs.toNat (nr - tbs.toNat)) ∨ (wh = 9 ∧ z = (I mo 16).toInt) ∨ ((wh < 0 ∨ 9 < wh) ∧ z = -1)) ∧ (∀ b, b ≠ gh 81 0 → (w.2.2.2.1) b = AI b) ∧ ((w.1) mo 8 = I mo 8 ∧ (w.1) mo 9 = I mo 9 ∧ (w.1) mo 10 = I mo 10))) ([.ref mo, .int (iI wh)] : List Value).toArray s 0 0 (gA g)) (F0 m 104 ls []) := by
      intro NN104
      induction NN104 with
      | zero =>
        intro n k H locs ls zn zk hk hsm hm104 hH hS hl
        exact absurd hm104 (by omega)
      | succ NN104 ih104 =>
        intro n k H locs ls zn zk hk hsm hm104 hH hS hl
        have hsk := hsm.2
        have hsm := hsm.1
        refine lv_iload_n F.1 F.2.1 dX7_told_104 rfl (lv_at hl 0 rfl) ?_
        refine lv_aload_n F.1 F.2.1 dX7_told_105 rfl (lv_at hl 2 rfl) ?_
        refine g_getI (ci := 7) (k := 2) F hH rfl (by decide) iX7 hm (by decide) rfl k64 dX7_told_106 ?_
        refine z_icmp_ge (tgt := 127) F dX7_told_109 (by decide) zk (zr_t _) (fun c_40 => ?_) (fun c_40 => ?_)
        · refine lv_iload_n F.1 F.2.1 dX7_told_127 rfl (lv_at hl 1 rfl) ?_
          exact g_iret F hr hlk hH hS hz zn ⟨rfl, rfl, rfl, rfl, hv, hT, nf, fun _ => by omega, Or.inr (Or.inr (Or.inr (Or.inr (Or.inr (Or.inr (Or.inl ⟨by omega, by rw [show nr - tbs.toNat = (k - tbs).toNat by omega]; exact hsm⟩)))))), fun _ _ => rfl, ⟨by (try dsimp only); exact i8, by (try dsimp only); exact i9, by (try dsimp only); exact i10⟩⟩ dX7_told_128
        · refine lv_iload_n F.1 F.2.1 dX7_told_112 rfl (lv_at hl 1 rfl) ?_
          refine lv_aload_n F.1 F.2.1 dX7_told_113 rfl (lv_at hl 2 rfl) ?_
          refine z_iconst F dX7_told_114 ?_
          refine lv_iload_n F.1 F.2.1 dX7_told_115 rfl (lv_at hl 0 rfl) ?_
          refine g_calli (g_runV (As := [.int (iI 0), .int (iI k)]) (rest := [.int (iI n)]) (ci := 7) F hl.1 hH hS hz (c_X7_sizeOf l g gh T I_1 R J AI AJ AR mo 0 k ⟨by decide, by decide⟩ zk hv hm hT (by omega) (by omega)) (cwV 2 F.2.2.2.2.1 (good_up gT_X7_sizeOf) rfl rfl rfl hdX7_sizeOf ⟨Nat.le_of_ble_eq_true rfl, Nat.le_of_ble_eq_true rfl⟩) hm (by decide) rfl rfl rfl (Nat.le_of_ble_eq_true rfl) dX7_told_116 ⟨Nat.zero_le _, Nat.zero_le _⟩) hS (fun v_47 I_41 R_42 J_43 AI_44 AJ_45 AR_46 H locs zv_47 hp_48 hH hS => ?_)
          dsimp only at hp_48
          obtain ⟨rfl, rfl, rfl, rfl, rfl, rfl, q_49, qsz⟩ := hp_48
          have hs116 : v_47 = (((rfM gh AI 0 k.toNat).1 : Nat) : Int) := by rw [rfM_1 (by omega), qsz]; unfold tI; have h8 := (mSz hv hm (z := 16 * 0 + k) (by omega) (by omega)).1; omega
          have hsm9 := smL_s (f := (fun r => (((rfM gh AI 0 r).1 : Nat) : Int))) (by omega) (by omega) hsm
          refine z_iadd F dX7_told_119 ?_
          refine lv_istore_n (lv' := [(2, .int (iI (n + v_47))), (3, .int (iI k)), (0, .ref mo), (1, .int (iI wh))]) F.1 F.2.1 dX7_told_120 rfl hl (by decide) rfl (fun ls hl => ?_)
          refine z_iinc (lv' := [(3, .int (iI (k + 1))), (2, .int (iI (n + v_47))), (0, .ref mo), (1, .int (iI wh))]) F dX7_told_121 hl (k := 1) rfl (by decide) rfl (fun ls hl => ?_)
          refine z_goto (tgt := 104) F dX7_told_124 (by decide) ?_
          exact ih104 (n + v_47) (k + 1) H locs ls ⟨by omega, by omega⟩ ⟨by omega, by omega⟩ (by omega) ⟨by rw [hs116]; exact hsm9, by omega, by omega⟩ (by omega) hH hS (lv_sub hl [0, 1, 2, 3] rfl)
    exact cut_104_38 (((16 - v_36) + 1 : Int).toNat) 0 v_36 H locs ls ⟨by decide, by decide⟩ zv_36 (by omega) ⟨by rw [show (v_36 - tbs).toNat = 0 by omega]; rfl, by omega, by omega⟩ (by omega) hH hS (lv_sub hl [0, 1, 2, 3] rfl)
  by_cases c_4_7 : wh = 7
  · refine lv_tableIn (tgt := 129) (off := 121) F.1 F.2.1 dX7_told_8 (by rw [ec_4]; omega) (by rw [ec_4]; omega) (by rw [ec_4, c_4_7]; rfl) (by decide) ?_
    refine lv_aload_n F.1 F.2.1 dX7_told_129 rfl (lv_at hl 1 rfl) ?_
    have b_50 := mJ hv hm
    unfold mNum1 at b_50
    refine g_calli (g_runV (As := []) (rest := []) (ci := 7) F hl.1 hH hS hz (c_X7_movedInViewsf l g gh T tbs nr cc cl I_1 R J AI AJ AR mo hv hm hT (by omega) hpl hbg hb9) (cwV 0 F.2.2.2.2.1 (good_up gT_X7_movedInViews) rfl rfl rfl hdX7_movedInViews ⟨Nat.le_of_ble_eq_true rfl, Nat.le_of_ble_eq_true rfl⟩) hm (by decide) rfl rfl rfl (Nat.le_of_ble_eq_true rfl) dX7_told_130 ⟨Nat.zero_le _, Nat.zero_le _⟩) hS (fun v_57 I_51 R_52 J_53 AI_54 AJ_55 AR_56 H locs zv_57 hp_58 hH hS => ?_)
    dsimp only at hp_58
    obtain ⟨rfl, rfl, rfl, rfl, rfl, hv, hT, fMq, qsm⟩ := hp_58
    exact g_iret F hr hlk hH hS hz zv_57 ⟨rfl, rfl, rfl, rfl, hv, hT, nf, fun _ => by omega, Or.inr (Or.inr (Or.inr (Or.inr (Or.inr (Or.inr (Or.inr (Or.inl ⟨by omega, qsm⟩))))))), fMq, ⟨by (try dsimp only); exact i8, by (try dsimp only); exact i9, by (try dsimp only); exact i10⟩⟩ dX7_told_133
  by_cases c_4_8 : wh = 8
  · refine lv_tableIn (tgt := 134) (off := 126) F.1 F.2.1 dX7_told_8 (by rw [ec_4]; omega) (by rw [ec_4]; omega) (by rw [ec_4, c_4_8]; rfl) (by decide) ?_
    refine lv_aload_n F.1 F.2.1 dX7_told_134 rfl (lv_at hl 1 rfl) ?_
    have b_59 := mJ hv hm
    unfold mNum1 at b_59
    refine g_calli (g_runV (As := []) (rest := []) (ci := 7) F hl.1 hH hS hz (c_X7_tablesf l g gh T I_1 R J AI AJ AR mo hv hm hT) (cwV 0 F.2.2.2.2.1 (good_up gT_X7_tables) rfl rfl rfl hdX7_tables ⟨Nat.le_of_ble_eq_true rfl, Nat.le_of_ble_eq_true rfl⟩) hm (by decide) rfl rfl rfl (Nat.le_of_ble_eq_true rfl) dX7_told_135 ⟨Nat.zero_le _, Nat.zero_le _⟩) hS (fun v_66 I_60 R_61 J_62 AI_63 AJ_64 AR_65 H locs zv_66 hp_67 hH hS => ?_)
    dsimp only at hp_67
    obtain ⟨rfl, rfl, rfl, rfl, rfl, rfl, q_68, hvw, qtt⟩ := hp_67
    obtain ⟨tb, etb⟩ : ∃ q, q = v_66 := ⟨_, rfl⟩
    have ht135 : v_66 = tbs := tb_eq (many := (I mo 2).toInt) (by omega) (fun r h1 h2 => hvw r h1 (by omega)) qtt (by omega) hpl.2.1 (pl_6 hpl hmr)
    refine lv_istore_n (lv' := [(3, .int (iI v_66)), (2, .int (iI 0)), (0, .ref mo), (1, .int (iI wh))]) F.1 F.2.1 dX7_told_138 rfl hl (by decide) rfl (fun ls hl => ?_)
    have cut_139_69 : ∀ (NN : Nat) (n k : Int) (AI_69 : gI) (H : Heap) (locs : List Loc) (ls : Array Slot), zr n → zr k → (mInv g gh R I_1 AI_69) → (AI_69 (gh 50 0) = T) → (tb ≤ k ∧ 0 ≤ k ∧ k ≤ 16 ∧ 0 ≤ n ∧ n ≤ 480 * k) → (∀ b, b ≠ gh 81 0 → AI_69 b = AI b) → (n = smL (ctF gh AI cc) tbs.toNat (k - tbs).toNat ∧ tbs ≤ k ∧ k ≤ (nr : Int)) → (16 - k) < ((NN : Nat) : Int) → gH g I_1 R J AI_69 AJ AR H → va_S (gA g) s.heap H locs → lv_has ls 4 [(3, .int (iI k)), (2, .int (iI n)), (0, .ref mo), (1, .int (iI wh))] → W p l e rmX7_toldg s m ([.ref mo, .int (iI wh)] : List Value).toArray below meth c H locs 0 0 (MQ below (gQi g (fun (z : Int) (w : gS) => R = w.2.1 ∧ J = w.2.2.1 ∧ AJ = w.2.2.2.2.1 ∧ AR = w.2.2.2.2.2 ∧ (mInv g gh R (w.1) (w.2.2.2.1)) ∧ ((w.2.2.2.1) (gh 50 0) = T) ∧ (nF mo I (w.1)) ∧ (wh = 9 → z = (I mo 16).toInt) ∧ ((wh = 0 ∧ z = tbs) ∨ (wh = 1 ∧ z = (nr : Int) - tbs) ∨ (wh = 2 ∧ iI z = I mo 9) ∨ (wh = 3 ∧ iI z = I mo 10) ∨ (wh = 4 ∧ z = (I mo 8).toInt) ∨ (wh = 5 ∧ z = (I mo 14).toInt) ∨ (wh = 6 ∧ z = smL (fun r => (((rfM gh AI 0 r).1 : Nat) : Int)) tbs.toNat (nr - tbs.toNat)) ∨ (wh = 7 ∧ z = smL (fun r => ((bgN (mvF gh AI r) : Nat) : Int)) tbs.toNat (nr - tbs.toNat)) ∨ (wh = 8 ∧ z = smL (ctF gh AI cc) tbs.toNat (nr - tbs.toNat)) ∨ (wh = 9 ∧ z = (I mo 16).toInt) ∨ ((wh < 0 ∨ 9 < wh) ∧ z = -1)) ∧ (∀ b, b ≠ gh 81 0 → (w.2.2.2.1) b = AI b) ∧ ((w.1) mo 8 = I mo 8 ∧ (w.1) mo 9 = I mo 9 ∧ (w.1) mo 10 = I mo 10))) ([.ref mo, .int (iI wh)] : List Value).toArray s 0 0 (gA g)) (F0 m 139 ls []) := by
      intro NN139
      induction NN139 with
      | zero =>
        intro n k AI_69 H locs ls zn zk hv hT hk fM hsm hm139 hH hS hl
        exact absurd hm139 (by omega)
      | succ NN139 ih139 =>
        intro n k AI_69 H locs ls zn zk hv hT hk fM hsm hm139 hH hS hl
        have h56 : AI_69 (gh 56 0) = AI (gh 56 0) := fM _ (show gh 56 0 ≠ gh 81 0 from mNe hv hm (p := (6, 126720)) (q := (31, 1200)) (by decide) (by decide) (by decide))
        have h57 : AI_69 (gh 57 0) = AI (gh 57 0) := fM _ (show gh 57 0 ≠ gh 81 0 from mNe hv hm (p := (7, 176)) (q := (31, 1200)) (by decide) (by decide) (by decide))
        have hsk := hsm.2
        have hsm := hsm.1
        refine lv_iload_n F.1 F.2.1 dX7_told_139 rfl (lv_at hl 0 rfl) ?_
        refine lv_aload_n F.1 F.2.1 dX7_told_140 rfl (lv_at hl 2 rfl) ?_
        refine g_getI (ci := 7) (k := 2) F hH rfl (by decide) iX7 hm (by decide) rfl k64 dX7_told_141 ?_
        refine z_icmp_ge (tgt := 161) F dX7_told_144 (by decide) zk (zr_t _) (fun c_71 => ?_) (fun c_71 => ?_)
        · refine lv_iload_n F.1 F.2.1 dX7_told_161 rfl (lv_at hl 1 rfl) ?_
          exact g_iret F hr hlk hH hS hz zn ⟨rfl, rfl, rfl, rfl, hv, hT, nf, fun _ => by omega, Or.inr (Or.inr (Or.inr (Or.inr (Or.inr (Or.inr (Or.inr (Or.inr (Or.inl ⟨by omega, by rw [show nr - tbs.toNat = (k - tbs).toNat by omega]; exact hsm⟩)))))))), fM, ⟨by (try dsimp only); exact i8, by (try dsimp only); exact i9, by (try dsimp only); exact i10⟩⟩ dX7_told_162
        · have hlv9 := hpl.2.2 k.toNat (by omega) (by omega)
          rw [show ((k.toNat : Nat) : Int) = k by omega] at hlv9
          refine lv_iload_n F.1 F.2.1 dX7_told_147 rfl (lv_at hl 1 rfl) ?_
          refine lv_aload_n F.1 F.2.1 dX7_told_148 rfl (lv_at hl 2 rfl) ?_
          refine lv_iload_n F.1 F.2.1 dX7_told_149 rfl (lv_at hl 0 rfl) ?_
          refine g_calli (g_runV (As := [.int (iI k)]) (rest := [.int (iI n)]) (ci := 7) F hl.1 hH hS hz (c_X7_cameTof l g gh T (cc k.toNat) nr cl I_1 R J AI_69 AJ AR mo k zk hv hm hT (by omega) (hvw k (by omega) (by omega)) (by omega) hlv9.1 hlv9.2.1 (by rw [rfM_g h56 h57]; exact hbg) (by rw [rfM_g h56 h57]; exact hb9)) (cwV 1 F.2.2.2.2.1 (good_up gT_X7_cameTo) rfl rfl rfl hdX7_cameTo ⟨Nat.le_of_ble_eq_true rfl, Nat.le_of_ble_eq_true rfl⟩) hm (by decide) rfl rfl rfl (Nat.le_of_ble_eq_true rfl) dX7_told_150 ⟨Nat.zero_le _, Nat.zero_le _⟩) hS (fun v_78 I_72 R_73 J_74 AI_75 AJ_76 AR_77 H locs zv_78 hp_79 hH hS => ?_)
          dsimp only at hp_79
          obtain ⟨rfl, rfl, rfl, rfl, rfl, hv, hT, q_80, fMq, qct⟩ := hp_79
          have hz150 : v_78 = ctF gh AI cc k.toNat := by rw [qct]; unfold ctF mvF; rw [rfM_g h56 h57, rfM_g h56 h57]
          have hsm9 := smL_s (f := (ctF gh AI cc)) (by omega) (by omega) hsm
          have fM : ∀ b, b ≠ gh 81 0 → AI_75 b = AI b := fun b h1 => (fMq b h1).trans (fM b h1)
          refine z_iadd F dX7_told_153 ?_
          refine lv_istore_n (lv' := [(2, .int (iI (n + v_78))), (3, .int (iI k)), (0, .ref mo), (1, .int (iI wh))]) F.1 F.2.1 dX7_told_154 rfl hl (by decide) rfl (fun ls hl => ?_)
          refine z_iinc (lv' := [(3, .int (iI (k + 1))), (2, .int (iI (n + v_78))), (0, .ref mo), (1, .int (iI wh))]) F dX7_told_155 hl (k := 1) rfl (by decide) rfl (fun ls hl => ?_)
          refine z_goto (tgt := 139) F dX7_told_158 (by decide) ?_
          exact ih139 (n + v_78) (k + 1) AI_75 H locs ls ⟨by omega, by omega⟩ ⟨by omega, by omega⟩ hv hT (by omega) fM ⟨by rw [hz150]; exact hsm9, by omega, by omega⟩ (by omega) hH hS (lv_sub hl [0, 1, 2, 3] rfl)
    exact cut_139_69 (((16 - v_66) + 1 : Int).toNat) 0 v_66 AI H locs ls ⟨by decide, by decide⟩ zv_66 hv hT (by omega) (fun _ _ => rfl) ⟨by rw [show (v_66 - tbs).toNat = 0 by omega]; rfl, by omega, by omega⟩ (by omega) hH hS (lv_sub hl [0, 1, 2, 3] rfl)
  have c_4_9 : wh = 9 := by omega
  refine lv_tableIn (tgt := 163) (off := 155) F.1 F.2.1 dX7_told_8 (by rw [ec_4]; omega) (by rw [ec_4]; omega) (by rw [ec_4, c_4_9]; rfl) (by decide) ?_
  refine lv_aload_n F.1 F.2.1 dX7_told_163 rfl (lv_at hl 1 rfl) ?_
  refine g_getI (ci := 7) (k := 16) F hH rfl (by decide) iX7 hm (by decide) rfl k71 dX7_told_164 ?_
  have b_81 := mJ hv hm
  unfold mNum1 at b_81
  exact g_iret F hr hlk hH hS hz (zr_t _) ⟨rfl, rfl, rfl, rfl, hv, hT, nf, fun _ => by omega, Or.inr (Or.inr (Or.inr (Or.inr (Or.inr (Or.inr (Or.inr (Or.inr (Or.inr (Or.inl ⟨by omega, by omega⟩))))))))), fun _ _ => rfl, ⟨by (try dsimp only); exact i8, by (try dsimp only); exact i9, by (try dsimp only); exact i10⟩⟩ dX7_told_167

def rmX7_differsg : Room := { frames := 6, cells := 0, slots := 0, locals := 159 }
set_option maxHeartbeats 4000000 in
set_option maxRecDepth 100000 in
/-- differs -/
theorem c_X7_differsg (l : Launch) (g : gG) (gh : gGh) (T : Nat → Int32) (tbs : Int) (nr : Nat) (cc : Nat → LC) (cl : Nat → Int) (I : gI) (R : gR) (J : gJ) (AI : gI) (AJ : gJ) (AR : gR) (mo : Nat) (rr : Int) (zrr : zr rr) (hv : mInv g gh R I AI) (hm : gO g mo 7) (hT : AI (gh 50 0) = T) (hmr : (I mo 2).toInt = (nr : Int)) (hpl : plM9 T tbs nr cc cl) (hbg : ∀ r : Nat, r < nr → bgOK (rfM gh AI 0) cl r) (hvw0 : ∀ r : Nat, r < nr → tbs ≤ (r : Int) → vwP (cc r) (rfM gh AI 0) 0 (rfM gh AI 0 r).2 (rfM gh AI 0 r).1) : gMet l g yX7_differs tsX7_differs rmX7_differsg [.ref mo, .int (iI rr)] (I, R, J, AI, AJ, AR) (gQi g (fun (z : Int) (w : gS) => R = w.2.1 ∧ J = w.2.2.1 ∧ AJ = w.2.2.2.2.1 ∧ AR = w.2.2.2.2.2 ∧ (mInv g gh R (w.1) (w.2.2.2.1)) ∧ ((w.2.2.2.1) (gh 50 0) = T) ∧ (nF mo I (w.1)) ∧ (((rr < 0 ∨ (nr : Int) ≤ rr) ∧ z = -1 ∧ (w.2.2.2.1) = AI) ∨ ((0 ≤ rr ∧ rr < (nr : Int)) ∧ z = 0 ∧ sdK gh AI (w.2.2.2.1) ∧ noZ gh AI (w.2.2.2.1))) ∧ ((w.1) mo 8 = I mo 8 ∧ (w.1) mo 9 = I mo 9 ∧ (w.1) mo 10 = I mo 10))) := by
  refine gStart (cc := cX7_differs) (maxL := 7) (ret := (some (.int))) (by decide) rfl (Nat.le_of_ble_eq_true rfl) ?_
  intro p e s m below meth c ls F hr hlk hH hz hS hl
  have hl : lv_has ls 7 [(0, .ref mo), (1, .int (iI rr))] := hl
  have hS : va_S (gA g) s.heap s.heap [] := hS
  obtain ⟨H, hHe⟩ : ∃ H : Heap, H = s.heap := ⟨_, rfl⟩
  obtain ⟨locs, hlo⟩ : ∃ k : List Loc, k = [] := ⟨_, rfl⟩
  have hH : gH g I R J AI AJ AR H := by rw [hHe]; exact hH
  have hS : va_S (gA g) s.heap H locs := by rw [hHe, hlo]; exact hS
  suffices hw : W p l e rmX7_differsg s m ([.ref mo, .int (iI rr)] : List Value).toArray below meth c H locs 0 0 (MQ below (gQi g (fun (z : Int) (w : gS) => R = w.2.1 ∧ J = w.2.2.1 ∧ AJ = w.2.2.2.2.1 ∧ AR = w.2.2.2.2.2 ∧ (mInv g gh R (w.1) (w.2.2.2.1)) ∧ ((w.2.2.2.1) (gh 50 0) = T) ∧ (nF mo I (w.1)) ∧ (((rr < 0 ∨ (nr : Int) ≤ rr) ∧ z = -1 ∧ (w.2.2.2.1) = AI) ∨ ((0 ≤ rr ∧ rr < (nr : Int)) ∧ z = 0 ∧ sdK gh AI (w.2.2.2.1) ∧ noZ gh AI (w.2.2.2.1))) ∧ ((w.1) mo 8 = I mo 8 ∧ (w.1) mo 9 = I mo 9 ∧ (w.1) mo 10 = I mo 10))) ([.ref mo, .int (iI rr)] : List Value).toArray s 0 0 (gA g)) (F0 m 0 ls []) by
    rw [hHe, hlo] at hw; exact hw
  clear hHe hlo
  have nf : nF mo I I := nF_r
  have hp1 := hpl.1
  have hb0 := mJ hv hm
  unfold mNum1 at hb0
  have i8 : I mo 8 = I mo 8 := rfl
  have i9 : I mo 9 = I mo 9 := rfl
  have i10 : I mo 10 = I mo 10 := rfl
  have iX7 : ∀ w ∈ u_ws RX7 TX7 32, w ∈ tsX7_differs := fun w h => List.mem_cons_of_mem _ (inTB7 w h)
  have k60 : Cond.fieldLink RX7 60 (TX7 17).1 (TX7 17).2.1 (TX7 17).2.2.1 ∈ tsX7_differs := List.mem_cons_of_mem _ fl_60
  have k24 : Cond.fieldLink RX7 24 (TX7 6).1 (TX7 6).2.1 (TX7 6).2.2.1 ∈ tsX7_differs := List.mem_cons_of_mem _ fl_24
  refine lv_aload_n F.1 F.2.1 dX7_differs_0 rfl (lv_at hl 0 rfl) ?_
  refine z_iconst F dX7_differs_1 ?_
  refine g_putI (ci := 7) (k := 17) F hH hS rfl (by decide) iX7 hm (by decide) tyX7 tyX7_ok nmX7 rfl rfl rfl k60 dX7_differs_2 (fun H locs hH hS => ?_)
  obtain ⟨I_1, eI_1⟩ : ∃ qQ, qQ = gup2 I mo 17 (iI (0)) := ⟨_, rfl⟩
  rw [← eI_1] at hH
  have kI_1 : ∀ b, b ≠ mo → I_1 b = I b := fun b hb => by rw [eI_1]; exact funext fun j => gup2_a _ _ hb
  have w_2 : (I_1 mo 17).toInt = 0 := by rw [eI_1, gup2_s]; exact iI_val ⟨by decide, by decide⟩
  have hv : mInv g gh R I_1 AI := by rw [eI_1]; exact mP17 hv hm
  have nf : nF mo I I_1 := nF_t nf (by rw [eI_1]; exact nF_p (by decide))
  have u_3_2 : (I_1 mo 2).toInt = (I mo 2).toInt := by rw [nf 2 (by decide) (by decide) (by decide) (by decide) (by decide)]
  have u_3_5 : (I_1 mo 5).toInt = (I mo 5).toInt := by rw [nf 5 (by decide) (by decide) (by decide) (by decide) (by decide)]
  have u_3_14 : (I_1 mo 14).toInt = (I mo 14).toInt := by rw [nf 14 (by decide) (by decide) (by decide) (by decide) (by decide)]
  have u_3_16 : (I_1 mo 16).toInt = (I mo 16).toInt := by rw [nf 16 (by decide) (by decide) (by decide) (by decide) (by decide)]
  have u_3_24 : (I_1 mo 24).toInt = (I mo 24).toInt := by rw [nf 24 (by decide) (by decide) (by decide) (by decide) (by decide)]
  have i8 : I_1 mo 8 = I mo 8 := (show I_1 mo 8 = I mo 8 by rw [eI_1, gup2_k _ _ (by decide)]).trans i8
  have i9 : I_1 mo 9 = I mo 9 := (show I_1 mo 9 = I mo 9 by rw [eI_1, gup2_k _ _ (by decide)]).trans i9
  have i10 : I_1 mo 10 = I mo 10 := (show I_1 mo 10 = I mo 10 by rw [eI_1, gup2_k _ _ (by decide)]).trans i10
  refine lv_aload_n F.1 F.2.1 dX7_differs_5 rfl (lv_at hl 0 rfl) ?_
  refine lv_iload_n F.1 F.2.1 dX7_differs_6 rfl (lv_at hl 1 rfl) ?_
  have b_4 := mJ hv hm
  unfold mNum1 at b_4
  refine g_calli (g_runV (As := [.int (iI rr)]) (rest := []) (ci := 7) F hl.1 hH hS hz (c_X7_isRelationf l g gh T I_1 R J AI AJ AR mo rr zrr hv hm hT) (cwV 1 F.2.2.2.2.1 (good_up gT_X7_isRelation) rfl rfl rfl hdX7_isRelation ⟨Nat.le_of_ble_eq_true rfl, Nat.le_of_ble_eq_true rfl⟩) hm (by decide) rfl rfl rfl (Nat.le_of_ble_eq_true rfl) dX7_differs_7 ⟨Nat.zero_le _, Nat.zero_le _⟩) hS (fun v_11 I_5 R_6 J_7 AI_8 AJ_9 AR_10 H locs zv_11 hp_12 hH hS => ?_)
  dsimp only at hp_12
  obtain ⟨rfl, rfl, rfl, rfl, rfl, rfl, q_13, qis⟩ := hp_12
  refine z_if_ne (tgt := 15) F dX7_differs_10 (by decide) zv_11 (fun c_14 => ?_) (fun c_14 => ?_)
  · refine lv_aload_n F.1 F.2.1 dX7_differs_15 rfl (lv_at hl 0 rfl) ?_
    refine z_iconst F dX7_differs_16 ?_
    refine z_bipush F dX7_differs_17 (by decide) ?_
    refine g_callv (g_runV (As := [.int (iI 0), .int (iI 10)]) (rest := []) (ci := 7) F hl.1 hH hS hz (c_X7_copiesf l g gh T I_1 R J AI AJ AR mo 0 10 ⟨by decide, by decide⟩ ⟨by decide, by decide⟩ hv hm hT (by omega)) (cwV 2 F.2.2.2.2.1 (good_up gT_X7_copies) rfl rfl rfl hdX7_copies ⟨Nat.le_of_ble_eq_true rfl, Nat.le_of_ble_eq_true rfl⟩) hm (by decide) rfl rfl rfl (Nat.le_of_ble_eq_true rfl) dX7_differs_19 ⟨Nat.zero_le _, Nat.zero_le _⟩) hS (fun I_15 R_16 J_17 AI_18 AJ_19 AR_20 H locs hp_21 hH hS => ?_)
    dsimp only at hp_21
    obtain ⟨rfl, rfl, rfl, rfl, rfl, hv, hT, qcp⟩ := hp_21
    have hdf : dfI gh AI AI_18 nr := df_0 (fun q hq => cp_to qcp ⟨by decide, by decide⟩ hq) (by omega)
    have hsk := sdK_c qcp
    have hnz := noZ_c qcp
    refine lv_aload_n F.1 F.2.1 dX7_differs_22 rfl (lv_at hl 0 rfl) ?_
    refine g_calli (g_runV (As := []) (rest := []) (ci := 7) F hl.1 hH hS hz (c_X7_tablesf l g gh T I_1 R J AI_18 AJ AR mo hv hm hT) (cwV 0 F.2.2.2.2.1 (good_up gT_X7_tables) rfl rfl rfl hdX7_tables ⟨Nat.le_of_ble_eq_true rfl, Nat.le_of_ble_eq_true rfl⟩) hm (by decide) rfl rfl rfl (Nat.le_of_ble_eq_true rfl) dX7_differs_23 ⟨Nat.zero_le _, Nat.zero_le _⟩) hS (fun v_28 I_22 R_23 J_24 AI_25 AJ_26 AR_27 H locs zv_28 hp_29 hH hS => ?_)
    dsimp only at hp_29
    obtain ⟨rfl, rfl, rfl, rfl, rfl, rfl, q_30, hvw, qtt⟩ := hp_29
    obtain ⟨tb, etb⟩ : ∃ q, q = v_28 := ⟨_, rfl⟩
    have ht23 : v_28 = tbs := tb_eq (many := (I mo 2).toInt) (by omega) (fun r h1 h2 => hvw r h1 (by omega)) qtt (by omega) hpl.2.1 (pl_6 hpl hmr)
    refine lv_istore_n (lv' := [(2, .int (iI v_28)), (0, .ref mo), (1, .int (iI rr))]) F.1 F.2.1 dX7_differs_26 rfl hl (by decide) rfl (fun ls hl => ?_)
    have cut_27_32 : ∀ (NN : Nat) (k : Int) (I_31 : gI) (AI_32 : gI) (H : Heap) (locs : List Loc) (ls : Array Slot), zr k → (mInv g gh R I_31 AI_32) → (AI_32 (gh 50 0) = T) → (nF mo I I_31) → (tb ≤ k ∧ k ≤ 17) → (dfI gh AI AI_32 nr) → (sdK gh AI AI_32) → (noZ gh AI AI_32) → (I_31 mo 8 = I mo 8) → (I_31 mo 9 = I mo 9) → (I_31 mo 10 = I mo 10) → (17 - k) < ((NN : Nat) : Int) → gH g I_31 R J AI_32 AJ AR H → va_S (gA g) s.heap H locs → lv_has ls 7 [(2, .int (iI k)), (0, .ref mo), (1, .int (iI rr))] → W p l e rmX7_differsg s m ([.ref mo, .int (iI rr)] : List Value).toArray below meth c H locs 0 0 (MQ below (gQi g (fun (z : Int) (w : gS) => R = w.2.1 ∧ J = w.2.2.1 ∧ AJ = w.2.2.2.2.1 ∧ AR = w.2.2.2.2.2 ∧ (mInv g gh R (w.1) (w.2.2.2.1)) ∧ ((w.2.2.2.1) (gh 50 0) = T) ∧ (nF mo I (w.1)) ∧ (((rr < 0 ∨ (nr : Int) ≤ rr) ∧ z = -1 ∧ (w.2.2.2.1) = AI) ∨ ((0 ≤ rr ∧ rr < (nr : Int)) ∧ z = 0 ∧ sdK gh AI (w.2.2.2.1) ∧ noZ gh AI (w.2.2.2.1))) ∧ ((w.1) mo 8 = I mo 8 ∧ (w.1) mo 9 = I mo 9 ∧ (w.1) mo 10 = I mo 10))) ([.ref mo, .int (iI rr)] : List Value).toArray s 0 0 (gA g)) (F0 m 27 ls []) := by
      intro NN27
      induction NN27 with
      | zero =>
        intro k I_31 AI_32 H locs ls zk hv hT nf hk hdf hsk hnz i8 i9 i10 hm27 hH hS hl
        exact absurd hm27 (by omega)
      | succ NN27 ih27 =>
        intro k I_31 AI_32 H locs ls zk hv hT nf hk hdf hsk hnz i8 i9 i10 hm27 hH hS hl
        have uc_2 : (I_31 mo 2).toInt = (I mo 2).toInt := by rw [nf 2 (by decide) (by decide) (by decide) (by decide) (by decide)]
        have uc_5 : (I_31 mo 5).toInt = (I mo 5).toInt := by rw [nf 5 (by decide) (by decide) (by decide) (by decide) (by decide)]
        have uc_14 : (I_31 mo 14).toInt = (I mo 14).toInt := by rw [nf 14 (by decide) (by decide) (by decide) (by decide) (by decide)]
        have uc_16 : (I_31 mo 16).toInt = (I mo 16).toInt := by rw [nf 16 (by decide) (by decide) (by decide) (by decide) (by decide)]
        have uc_24 : (I_31 mo 24).toInt = (I mo 24).toInt := by rw [nf 24 (by decide) (by decide) (by decide) (by decide) (by decide)]
        refine lv_iload_n F.1 F.2.1 dX7_differs_27 rfl (lv_at hl 0 rfl) ?_
        refine lv_iload_n F.1 F.2.1 dX7_differs_28 rfl (lv_at hl 2 rfl) ?_
        refine z_icmp_gt (tgt := 55) F dX7_differs_29 (by decide) zk zrr (fun c_34 => ?_) (fun c_34 => ?_)
        · have hdr := hdf rr.toNat (by omega)
          have hok := (hbg rr.toNat (by omega)).1
          have h120 := (hbg rr.toNat (by omega)).2.1
          have e79 : rfM gh AI_32 0 rr.toNat = (rfM gh AI 0 rr.toNat) := rs_rf (rsM_k hsk ⟨by decide, by decide⟩ (by omega))
          have hn9 : (rfM gh AI_32 10 rr.toNat).1 = (rfM gh AI 0 rr.toNat).1 := hdr.1
          have hw9 : rwA (rfM gh AI_32 10 rr.toNat).2 (rfM gh AI 0 rr.toNat).2 (rfM gh AI 0 rr.toNat).1 := by rw [← hn9]; exact hdr.2
          refine lv_aload_n F.1 F.2.1 dX7_differs_55 rfl (lv_at hl 1 rfl) ?_
          refine z_iconst F dX7_differs_56 ?_
          refine lv_iload_n F.1 F.2.1 dX7_differs_57 rfl (lv_at hl 2 rfl) ?_
          have b_35 := mJ hv hm
          unfold mNum1 at b_35
          refine g_calli (g_runV (As := [.int (iI 0), .int (iI rr)]) (rest := []) (ci := 7) F hl.1 hH hS hz (c_X7_sizeOf l g gh T I_31 R J AI_32 AJ AR mo 0 rr ⟨by decide, by decide⟩ zrr hv hm hT (by omega) (by omega)) (cwV 2 F.2.2.2.2.1 (good_up gT_X7_sizeOf) rfl rfl rfl hdX7_sizeOf ⟨Nat.le_of_ble_eq_true rfl, Nat.le_of_ble_eq_true rfl⟩) hm (by decide) rfl rfl rfl (Nat.le_of_ble_eq_true rfl) dX7_differs_58 ⟨Nat.zero_le _, Nat.zero_le _⟩) hS (fun v_42 I_36 R_37 J_38 AI_39 AJ_40 AR_41 H locs zv_42 hp_43 hH hS => ?_)
          dsimp only at hp_43
          obtain ⟨rfl, rfl, rfl, rfl, rfl, rfl, q_44, qsz58⟩ := hp_43
          have hs580 : v_42 = (((rfM gh AI_32 0 rr.toNat).1 : Nat) : Int) := by rw [rfM_1 (by omega), qsz58]; unfold tI; have h8 := (mSz hv hm (z := 16 * 0 + rr) (by omega) (by omega)).1; omega
          have hs58 : v_42 = (((rfM gh AI 0 rr.toNat).1 : Nat) : Int) := by rw [hs580, e79]
          refine lv_aload_n F.1 F.2.1 dX7_differs_61 rfl (lv_at hl 1 rfl) ?_
          refine z_bipush F dX7_differs_62 (by decide) ?_
          refine lv_iload_n F.1 F.2.1 dX7_differs_64 rfl (lv_at hl 2 rfl) ?_
          refine g_calli (g_runV (As := [.int (iI 10), .int (iI rr)]) (rest := [.int (iI v_42)]) (ci := 7) F hl.1 hH hS hz (c_X7_sizeOf l g gh T I_31 R J AI_32 AJ AR mo 10 rr ⟨by decide, by decide⟩ zrr hv hm hT (by omega) (by omega)) (cwV 2 F.2.2.2.2.1 (good_up gT_X7_sizeOf) rfl rfl rfl hdX7_sizeOf ⟨Nat.le_of_ble_eq_true rfl, Nat.le_of_ble_eq_true rfl⟩) hm (by decide) rfl rfl rfl (Nat.le_of_ble_eq_true rfl) dX7_differs_65 ⟨Nat.zero_le _, Nat.zero_le _⟩) hS (fun v_51 I_45 R_46 J_47 AI_48 AJ_49 AR_50 H locs zv_51 hp_52 hH hS => ?_)
          dsimp only at hp_52
          obtain ⟨rfl, rfl, rfl, rfl, rfl, rfl, q_53, qsz65⟩ := hp_52
          have hs650 : v_51 = (((rfM gh AI_32 10 rr.toNat).1 : Nat) : Int) := by rw [rfM_1 (by omega), qsz65]; unfold tI; have h8 := (mSz hv hm (z := 16 * 10 + rr) (by omega) (by omega)).1; omega
          have hs65 : v_51 = (((rfM gh AI 0 rr.toNat).1 : Nat) : Int) := by rw [hs650, hn9]
          refine z_iadd F dX7_differs_68 ?_
          refine lv_istore_n (lv' := [(2, .int (iI (v_42 + v_51))), (0, .ref mo), (1, .int (iI rr))]) F.1 F.2.1 dX7_differs_69 rfl hl (by decide) rfl (fun ls hl => ?_)
          refine z_iconst F dX7_differs_70 ?_
          refine lv_istore_n (lv' := [(3, .int (iI 0)), (2, .int (iI (v_42 + v_51))), (0, .ref mo), (1, .int (iI rr))]) F.1 F.2.1 dX7_differs_71 rfl hl (by decide) rfl (fun ls hl => ?_)
          have cut_72_53 : ∀ (NN : Nat) (n i : Int) (H : Heap) (locs : List Loc) (ls : Array Slot), zr n → zr i → (0 ≤ i ∧ i ≤ 120) → (n = 2 * (((rfM gh AI 0 rr.toNat).1 : Nat) : Int) - 2 * i ∧ i ≤ (((rfM gh AI 0 rr.toNat).1 : Nat) : Int)) → (120 - i) < ((NN : Nat) : Int) → gH g I_31 R J AI_32 AJ AR H → va_S (gA g) s.heap H locs → lv_has ls 7 [(3, .int (iI i)), (2, .int (iI n)), (0, .ref mo), (1, .int (iI rr))] → W p l e rmX7_differsg s m ([.ref mo, .int (iI rr)] : List Value).toArray below meth c H locs 0 0 (MQ below (gQi g (fun (z : Int) (w : gS) => R = w.2.1 ∧ J = w.2.2.1 ∧ AJ = w.2.2.2.2.1 ∧ AR = w.2.2.2.2.2 ∧ (mInv g gh R (w.1) (w.2.2.2.1)) ∧ ((w.2.2.2.1) (gh 50 0) = T) ∧ (nF mo I (w.1)) ∧ (((rr < 0 ∨ (nr : Int) ≤ rr) ∧ z = -1 ∧ (w.2.2.2.1) = AI) ∨ ((0 ≤ rr ∧ rr < (nr : Int)) ∧ z = 0 ∧ sdK gh AI (w.2.2.2.1) ∧ noZ gh AI (w.2.2.2.1))) ∧ ((w.1) mo 8 = I mo 8 ∧ (w.1) mo 9 = I mo 9 ∧ (w.1) mo 10 = I mo 10))) ([.ref mo, .int (iI rr)] : List Value).toArray s 0 0 (gA g)) (F0 m 72 ls []) := by
            intro NN72
            induction NN72 with
            | zero =>
              intro n i H locs ls zn zi hi hnn hm72 hH hS hl
              exact absurd hm72 (by omega)
            | succ NN72 ih72 =>
              intro n i H locs ls zn zi hi hnn hm72 hH hS hl
              refine lv_iload_n F.1 F.2.1 dX7_differs_72 rfl (lv_at hl 0 rfl) ?_
              refine lv_aload_n F.1 F.2.1 dX7_differs_73 rfl (lv_at hl 2 rfl) ?_
              refine z_iconst F dX7_differs_74 ?_
              refine lv_iload_n F.1 F.2.1 dX7_differs_75 rfl (lv_at hl 3 rfl) ?_
              refine g_calli (g_runV (As := [.int (iI 0), .int (iI rr)]) (rest := [.int (iI i)]) (ci := 7) F hl.1 hH hS hz (c_X7_sizeOf l g gh T I_31 R J AI_32 AJ AR mo 0 rr ⟨by decide, by decide⟩ zrr hv hm hT (by omega) (by omega)) (cwV 2 F.2.2.2.2.1 (good_up gT_X7_sizeOf) rfl rfl rfl hdX7_sizeOf ⟨Nat.le_of_ble_eq_true rfl, Nat.le_of_ble_eq_true rfl⟩) hm (by decide) rfl rfl rfl (Nat.le_of_ble_eq_true rfl) dX7_differs_76 ⟨Nat.zero_le _, Nat.zero_le _⟩) hS (fun v_61 I_55 R_56 J_57 AI_58 AJ_59 AR_60 H locs zv_61 hp_62 hH hS => ?_)
              dsimp only at hp_62
              obtain ⟨rfl, rfl, rfl, rfl, rfl, rfl, q_63, qsz76⟩ := hp_62
              have hs760 : v_61 = (((rfM gh AI_32 0 rr.toNat).1 : Nat) : Int) := by rw [rfM_1 (by omega), qsz76]; unfold tI; have h8 := (mSz hv hm (z := 16 * 0 + rr) (by omega) (by omega)).1; omega
              have hs76 : v_61 = (((rfM gh AI 0 rr.toNat).1 : Nat) : Int) := by rw [hs760, e79]
              refine z_icmp_ge (tgt := 174) F dX7_differs_79 (by decide) zi zv_61 (fun c_64 => ?_) (fun c_64 => ?_)
              · refine lv_iload_n F.1 F.2.1 dX7_differs_174 rfl (lv_at hl 1 rfl) ?_
                exact g_iret F hr hlk hH hS hz zn ⟨rfl, rfl, rfl, rfl, hv, hT, nf, Or.inr ⟨by omega, by omega, hsk, hnz⟩, ⟨by (try dsimp only); exact i8, by (try dsimp only); exact i9, by (try dsimp only); exact i10⟩⟩ dX7_differs_175
              · refine z_iconst F dX7_differs_82 ?_
                refine lv_istore (lv' := [(4, .int (iI 0)), (3, .int (iI i)), (2, .int (iI n)), (0, .ref mo), (1, .int (iI rr))]) F.1 F.2.1 dX7_differs_83 hl (by decide) rfl (fun ls hl => ?_)
                have cut_85_64 : ∀ (NN : Nat) (n jj : Int) (H : Heap) (locs : List Loc) (ls : Array Slot), zr n → zr jj → (0 ≤ jj ∧ jj ≤ 120) → (((jj ≤ i ∧ n = 2 * (((rfM gh AI 0 rr.toNat).1 : Nat) : Int) - 2 * i) ∨ (i < jj ∧ n = 2 * (((rfM gh AI 0 rr.toNat).1 : Nat) : Int) - 2 * i - 2)) ∧ jj ≤ (((rfM gh AI 0 rr.toNat).1 : Nat) : Int)) → (120 - jj) < ((NN : Nat) : Int) → gH g I_31 R J AI_32 AJ AR H → va_S (gA g) s.heap H locs → lv_has ls 7 [(4, .int (iI jj)), (3, .int (iI i)), (2, .int (iI n)), (0, .ref mo), (1, .int (iI rr))] → W p l e rmX7_differsg s m ([.ref mo, .int (iI rr)] : List Value).toArray below meth c H locs 0 0 (MQ below (gQi g (fun (z : Int) (w : gS) => R = w.2.1 ∧ J = w.2.2.1 ∧ AJ = w.2.2.2.2.1 ∧ AR = w.2.2.2.2.2 ∧ (mInv g gh R (w.1) (w.2.2.2.1)) ∧ ((w.2.2.2.1) (gh 50 0) = T) ∧ (nF mo I (w.1)) ∧ (((rr < 0 ∨ (nr : Int) ≤ rr) ∧ z = -1 ∧ (w.2.2.2.1) = AI) ∨ ((0 ≤ rr ∧ rr < (nr : Int)) ∧ z = 0 ∧ sdK gh AI (w.2.2.2.1) ∧ noZ gh AI (w.2.2.2.1))) ∧ ((w.1) mo 8 = I mo 8 ∧ (w.1) mo 9 = I mo 9 ∧ (w.1) mo 10 = I mo 10))) ([.ref mo, .int (iI rr)] : List Value).toArray s 0 0 (gA g)) (F0 m 85 ls []) := by
                  intro NN85
                  induction NN85 with
                  | zero =>
                    intro n jj H locs ls zn zjj hj hnj hm85 hH hS hl
                    exact absurd hm85 (by omega)
                  | succ NN85 ih85 =>
                    intro n jj H locs ls zn zjj hj hnj hm85 hH hS hl
                    refine lv_iload F.1 F.2.1 dX7_differs_85 (lv_at hl 0 rfl) ?_
                    refine lv_aload_n F.1 F.2.1 dX7_differs_87 rfl (lv_at hl 3 rfl) ?_
                    refine z_bipush F dX7_differs_88 (by decide) ?_
                    refine lv_iload_n F.1 F.2.1 dX7_differs_90 rfl (lv_at hl 4 rfl) ?_
                    refine g_calli (g_runV (As := [.int (iI 10), .int (iI rr)]) (rest := [.int (iI jj)]) (ci := 7) F hl.1 hH hS hz (c_X7_sizeOf l g gh T I_31 R J AI_32 AJ AR mo 10 rr ⟨by decide, by decide⟩ zrr hv hm hT (by omega) (by omega)) (cwV 2 F.2.2.2.2.1 (good_up gT_X7_sizeOf) rfl rfl rfl hdX7_sizeOf ⟨Nat.le_of_ble_eq_true rfl, Nat.le_of_ble_eq_true rfl⟩) hm (by decide) rfl rfl rfl (Nat.le_of_ble_eq_true rfl) dX7_differs_91 ⟨Nat.zero_le _, Nat.zero_le _⟩) hS (fun v_72 I_66 R_67 J_68 AI_69 AJ_70 AR_71 H locs zv_72 hp_73 hH hS => ?_)
                    dsimp only at hp_73
                    obtain ⟨rfl, rfl, rfl, rfl, rfl, rfl, q_74, qsz91⟩ := hp_73
                    have hs910 : v_72 = (((rfM gh AI_32 10 rr.toNat).1 : Nat) : Int) := by rw [rfM_1 (by omega), qsz91]; unfold tI; have h8 := (mSz hv hm (z := 16 * 10 + rr) (by omega) (by omega)).1; omega
                    have hs91 : v_72 = (((rfM gh AI 0 rr.toNat).1 : Nat) : Int) := by rw [hs910, hn9]
                    refine z_icmp_ge (tgt := 168) F dX7_differs_94 (by decide) zjj zv_72 (fun c_75 => ?_) (fun c_75 => ?_)
                    · refine z_iinc (lv' := [(3, .int (iI (i + 1))), (4, .int (iI jj)), (2, .int (iI n)), (0, .ref mo), (1, .int (iI rr))]) F dX7_differs_168 hl (k := 1) rfl (by decide) rfl (fun ls hl => ?_)
                      refine z_goto (tgt := 72) F dX7_differs_171 (by decide) ?_
                      exact ih72 n (i + 1) H locs ls zn ⟨by omega, by omega⟩ (by omega) (by omega) (by omega) hH hS (lv_sub hl [0, 2, 3, 4] rfl)
                    · refine z_iconst F dX7_differs_97 ?_
                      refine lv_iload_n F.1 F.2.1 dX7_differs_98 rfl (lv_at hl 4 rfl) ?_
                      refine lv_iload_n F.1 F.2.1 dX7_differs_99 rfl (lv_at hl 1 rfl) ?_
                      refine g_calli (g_runS (As := [.int (iI 0), .int (iI rr), .int (iI i)]) (rest := []) F hl.1 hH hS hz (c_X7_spot l g  I_31 R J AI_32 AJ AR 0 rr i ⟨by decide, by decide⟩ zrr zi (by omega) (by omega) (by omega)) (va_cwS 3 F.2.2.2.2.1 (good_up gT_X7_spot) rfl rfl rfl hdX7_spot.2 ⟨Nat.le_of_ble_eq_true rfl, Nat.le_of_ble_eq_true rfl⟩) rfl rfl (Nat.le_of_ble_eq_true rfl) dX7_differs_100 ⟨Nat.zero_le _, Nat.zero_le _⟩) hS (fun v_82 I_76 R_77 J_78 AI_79 AJ_80 AR_81 H locs zv_82 hp_83 hH hS => ?_)
                      dsimp only at hp_83
                      obtain ⟨rfl, rfl, rfl, rfl, rfl, rfl, q_84⟩ := hp_83
                      refine lv_istore (lv' := [(5, .int (iI v_82)), (4, .int (iI jj)), (3, .int (iI i)), (2, .int (iI n)), (0, .ref mo), (1, .int (iI rr))]) F.1 F.2.1 dX7_differs_103 hl (by decide) rfl (fun ls hl => ?_)
                      refine z_bipush F dX7_differs_105 (by decide) ?_
                      refine lv_iload_n F.1 F.2.1 dX7_differs_107 rfl (lv_at hl 5 rfl) ?_
                      refine lv_iload F.1 F.2.1 dX7_differs_108 (lv_at hl 1 rfl) ?_
                      refine g_calli (g_runS (As := [.int (iI 10), .int (iI rr), .int (iI jj)]) (rest := []) F hl.1 hH hS hz (c_X7_spot l g  I_31 R J AI_32 AJ AR 10 rr jj ⟨by decide, by decide⟩ zrr zjj (by omega) (by omega) (by omega)) (va_cwS 3 F.2.2.2.2.1 (good_up gT_X7_spot) rfl rfl rfl hdX7_spot.2 ⟨Nat.le_of_ble_eq_true rfl, Nat.le_of_ble_eq_true rfl⟩) rfl rfl (Nat.le_of_ble_eq_true rfl) dX7_differs_110 ⟨Nat.zero_le _, Nat.zero_le _⟩) hS (fun v_91 I_85 R_86 J_87 AI_88 AJ_89 AR_90 H locs zv_91 hp_92 hH hS => ?_)
                      dsimp only at hp_92
                      obtain ⟨rfl, rfl, rfl, rfl, rfl, rfl, q_93⟩ := hp_92
                      refine lv_istore (lv' := [(6, .int (iI v_91)), (5, .int (iI v_82)), (4, .int (iI jj)), (3, .int (iI i)), (2, .int (iI n)), (0, .ref mo), (1, .int (iI rr))]) F.1 F.2.1 dX7_differs_113 hl (by decide) rfl (fun ls hl => ?_)
                      refine lv_aload_n F.1 F.2.1 dX7_differs_115 rfl (lv_at hl 5 rfl) ?_
                      obtain ⟨r_94a, r_94b⟩ : R mo 6 = some (gh 56 0) ∧ gAr g (gh 56 0) 9 126720 := mR hv hm (q := (6, 126720)) (by decide)
                      refine g_getR (ci := 7) (k := 6) F hH rfl (by decide) iX7 hm (by decide) rfl (b := gh 56 0) r_94a k24 dX7_differs_116 ?_
                      refine lv_iload F.1 F.2.1 dX7_differs_119 (lv_at hl 1 rfl) ?_
                      refine lv_aload_n F.1 F.2.1 dX7_differs_121 rfl (lv_at hl 5 rfl) ?_
                      refine g_getR (ci := 7) (k := 6) F hH rfl (by decide) iX7 hm (by decide) rfl (b := gh 56 0) r_94a k24 dX7_differs_122 ?_
                      refine lv_iload F.1 F.2.1 dX7_differs_125 (lv_at hl 0 rfl) ?_
                      refine g_calli (g_runS (As := [.ref (gh 56 0), .int (iI v_82), .ref (gh 56 0), .int (iI v_91)]) (rest := []) F hl.1 hH hS hz (c_X7_comparef l g 126720 126720 I_31 R J AI_32 AJ AR (gh 56 0) v_82 (gh 56 0) v_91 zv_82 zv_91 r_94b r_94b (by omega) (by omega) (by omega) (by omega)) (va_cwS 4 F.2.2.2.2.1 (good_up gT_X7_compare) rfl rfl rfl hdX7_compare.2 ⟨Nat.le_of_ble_eq_true rfl, Nat.le_of_ble_eq_true rfl⟩) rfl rfl (Nat.le_of_ble_eq_true rfl) dX7_differs_127 ⟨Nat.zero_le _, Nat.zero_le _⟩) hS (fun v_101 I_95 R_96 J_97 AI_98 AJ_99 AR_100 H locs zv_101 hp_102 hH hS => ?_)
                      dsimp only at hp_102
                      obtain ⟨rfl, rfl, rfl, rfl, rfl, rfl, q_103, qc⟩ := hp_102
                      have qk : v_101 = tc (tup (rfM gh AI 0 rr.toNat).2 i.toNat) (tup (rfM gh AI_32 10 rr.toNat).2 jj.toNat) := by rw [qc, ← e79]; exact kc_c (rk_tu (fun k hk => by rw [tg_up k hk, rfM_2 (by omega) (by omega)]; congr 1; omega)) (rk_tu (fun k hk => by rw [tg_up k hk, rfM_2 (by omega) (by omega)]; congr 1; omega))
                      have hde := df_e hok hw9 (i := i.toNat) (j := jj.toNat) (by omega) (by omega)
                      refine z_if_ne (tgt := 162) F dX7_differs_130 (by decide) zv_101 (fun c_104 => ?_) (fun c_104 => ?_)
                      · have hij : i ≠ jj := fun h9 => by have h8 := tc_0.mpr (hde.mpr (by omega)); rw [← qk] at h8; omega
                        refine z_iinc (lv' := [(4, .int (iI (jj + 1))), (6, .int (iI v_91)), (5, .int (iI v_82)), (3, .int (iI i)), (2, .int (iI n)), (0, .ref mo), (1, .int (iI rr))]) F dX7_differs_162 hl (k := 2) rfl (by decide) rfl (fun ls hl => ?_)
                        refine z_goto (tgt := 85) F dX7_differs_165 (by decide) ?_
                        exact ih85 n (jj + 1) H locs ls zn ⟨by omega, by omega⟩ (by omega) (by omega) (by omega) hH hS (lv_sub hl [0, 3, 4, 5, 6] rfl)
                      · have hij : i.toNat = jj.toNat := hde.mp (tc_0.mp (by rw [← qk]; omega))
                        refine lv_iload_n F.1 F.2.1 dX7_differs_133 rfl (lv_at hl 4 rfl) ?_
                        refine lv_aload_n F.1 F.2.1 dX7_differs_134 rfl (lv_at hl 5 rfl) ?_
                        refine g_getR (ci := 7) (k := 6) F hH rfl (by decide) iX7 hm (by decide) rfl (b := gh 56 0) r_94a k24 dX7_differs_135 ?_
                        refine lv_iload F.1 F.2.1 dX7_differs_138 (lv_at hl 1 rfl) ?_
                        refine z_iconst F dX7_differs_140 ?_
                        refine z_iadd F dX7_differs_141 ?_
                        have hx142 : 0 ≤ (v_82 + 4) ∧ (v_82 + 4) < ((126720 : Nat) : Int) ∧ (v_82 + 4) ≤ 2147483647 := ⟨by omega, by omega, by omega⟩
                        refine g_iald F hH r_94b hx142.1 hx142.2.1 hx142.2.2 dX7_differs_142 ?_
                        refine z_name (fun v_105 ev_105 => ?_)
                        have zv_105 : zr v_105 := by rw [ev_105]; exact zr_t _
                        have c142 : iI v_105 = (rfM gh AI 0 rr.toNat).2 (6 * i.toNat + 4) := by rw [← e79, rfM_2 (by omega) (by omega), ev_105, iI_self]; congr 1; omega
                        refine lv_aload_n F.1 F.2.1 dX7_differs_143 rfl (lv_at hl 5 rfl) ?_
                        refine g_getR (ci := 7) (k := 6) F hH rfl (by decide) iX7 hm (by decide) rfl (b := gh 56 0) r_94a k24 dX7_differs_144 ?_
                        refine lv_iload F.1 F.2.1 dX7_differs_147 (lv_at hl 0 rfl) ?_
                        refine z_iconst F dX7_differs_149 ?_
                        refine z_iadd F dX7_differs_150 ?_
                        have hx151 : 0 ≤ (v_91 + 4) ∧ (v_91 + 4) < ((126720 : Nat) : Int) ∧ (v_91 + 4) ≤ 2147483647 := ⟨by omega, by omega, by omega⟩
                        refine g_iald F hH r_94b hx151.1 hx151.2.1 hx151.2.2 dX7_differs_151 ?_
                        refine z_name (fun v_106 ev_106 => ?_)
                        have zv_106 : zr v_106 := by rw [ev_106]; exact zr_t _
                        have c151 : iI v_106 = (rfM gh AI_32 10 rr.toNat).2 (6 * jj.toNat + 4) := by rw [rfM_2 (by omega) (by omega), ev_106, iI_self]; congr 1; omega
                        have hee : v_105 = v_106 := (iI_eq zv_105 zv_106).mp (by rw [c142, c151, ← hij]; exact (df_4 hw9 (by omega)).symm)
                        refine z_icmp_ne (tgt := 159) F dX7_differs_152 (by decide) zv_105 zv_106 (fun c_107 => ?_) (fun c_107 => ?_)
                        · refine z_iconst F dX7_differs_159 ?_
                          refine z_isub F dX7_differs_160 ?_
                          refine z_norm (fun v_108 zv_108 ev_108 => ?_)
                          have hv9 := (iI_eq zv_108 ⟨by omega, by omega⟩).mp ev_108
                          refine lv_istore_n (lv' := [(2, .int (iI v_108)), (6, .int (iI v_91)), (5, .int (iI v_82)), (4, .int (iI jj)), (3, .int (iI i)), (0, .ref mo), (1, .int (iI rr))]) F.1 F.2.1 dX7_differs_161 rfl hl (by decide) rfl (fun ls hl => ?_)
                          refine z_iinc (lv' := [(4, .int (iI (jj + 1))), (2, .int (iI v_108)), (6, .int (iI v_91)), (5, .int (iI v_82)), (3, .int (iI i)), (0, .ref mo), (1, .int (iI rr))]) F dX7_differs_162 hl (k := 3) rfl (by decide) rfl (fun ls hl => ?_)
                          refine z_goto (tgt := 85) F dX7_differs_165 (by decide) ?_
                          exact ih85 v_108 (jj + 1) H locs ls zv_108 ⟨by omega, by omega⟩ (by omega) (by omega) (by omega) hH hS (lv_sub hl [0, 4, 1, 5, 6] rfl)
                        · refine z_iconst F dX7_differs_155 ?_
                          refine z_goto (tgt := 160) F dX7_differs_156 (by decide) ?_
                          refine z_isub F dX7_differs_160 ?_
                          refine z_norm (fun v_109 zv_109 ev_109 => ?_)
                          have hv9 := (iI_eq zv_109 ⟨by omega, by omega⟩).mp ev_109
                          refine lv_istore_n (lv' := [(2, .int (iI v_109)), (6, .int (iI v_91)), (5, .int (iI v_82)), (4, .int (iI jj)), (3, .int (iI i)), (0, .ref mo), (1, .int (iI rr))]) F.1 F.2.1 dX7_differs_161 rfl hl (by decide) rfl (fun ls hl => ?_)
                          refine z_iinc (lv' := [(4, .int (iI (jj + 1))), (2, .int (iI v_109)), (6, .int (iI v_91)), (5, .int (iI v_82)), (3, .int (iI i)), (0, .ref mo), (1, .int (iI rr))]) F dX7_differs_162 hl (k := 3) rfl (by decide) rfl (fun ls hl => ?_)
                          refine z_goto (tgt := 85) F dX7_differs_165 (by decide) ?_
                          exact ih85 v_109 (jj + 1) H locs ls zv_109 ⟨by omega, by omega⟩ (by omega) (by omega) (by omega) hH hS (lv_sub hl [0, 4, 1, 5, 6] rfl)
                exact cut_85_64 (((120 - 0) + 1 : Int).toNat) n 0 H locs ls zn ⟨by decide, by decide⟩ (by omega) (by omega) (by omega) hH hS (lv_sub hl [0, 1, 2, 3, 4] rfl)
          exact cut_72_53 (((120 - 0) + 1 : Int).toNat) (v_42 + v_51) 0 H locs ls ⟨by omega, by omega⟩ ⟨by decide, by decide⟩ (by omega) (by omega) (by omega) hH hS (lv_sub hl [0, 1, 2, 3] rfl)
        · have hlv9 := hpl.2.2 k.toNat (by omega) (by omega)
          rw [show ((k.toNat : Nat) : Int) = k by omega] at hlv9
          refine lv_aload_n F.1 F.2.1 dX7_differs_32 rfl (lv_at hl 1 rfl) ?_
          refine z_bipush F dX7_differs_33 (by decide) ?_
          refine lv_iload_n F.1 F.2.1 dX7_differs_35 rfl (lv_at hl 0 rfl) ?_
          have b_110 := mJ hv hm
          unfold mNum1 at b_110
          refine g_calli (g_runV (As := [.int (iI 10), .int (iI k)]) (rest := []) (ci := 7) F hl.1 hH hS hz (c_X7_reckonsf l g gh T (cc k.toNat) cl I_31 R J AI_32 AJ AR mo 10 k ⟨by decide, by decide⟩ zk hv hm hT (by omega) (by omega) (hvw k (by omega) (by omega)) hlv9.1 hlv9.2.1 (fun q hq => df_g hdf (by omega) (hbg q (by omega)))) (cwV 2 F.2.2.2.2.1 (good_up gT_X7_reckons) rfl rfl rfl hdX7_reckons ⟨Nat.le_of_ble_eq_true rfl, Nat.le_of_ble_eq_true rfl⟩) hm (by decide) rfl rfl rfl (Nat.le_of_ble_eq_true rfl) dX7_differs_36 ⟨Nat.zero_le _, Nat.zero_le _⟩) hS (fun v_117 I_111 R_112 J_113 AI_114 AJ_115 AR_116 H locs zv_117 hp_118 hH hS => ?_)
          dsimp only at hp_118
          obtain ⟨rfl, rfl, rfl, rfl, hv, hT, wfq, qrk, qvw, qzz, qrr⟩ := hp_118
          have nf := nF_t nf (nF_w wfq)
          have u_119_2 : (I_111 mo 2).toInt = (I mo 2).toInt := by rw [nf 2 (by decide) (by decide) (by decide) (by decide) (by decide)]
          have u_119_5 : (I_111 mo 5).toInt = (I mo 5).toInt := by rw [nf 5 (by decide) (by decide) (by decide) (by decide) (by decide)]
          have u_119_14 : (I_111 mo 14).toInt = (I mo 14).toInt := by rw [nf 14 (by decide) (by decide) (by decide) (by decide) (by decide)]
          have u_119_16 : (I_111 mo 16).toInt = (I mo 16).toInt := by rw [nf 16 (by decide) (by decide) (by decide) (by decide) (by decide)]
          have u_119_24 : (I_111 mo 24).toInt = (I mo 24).toInt := by rw [nf 24 (by decide) (by decide) (by decide) (by decide) (by decide)]
          have i8 : I_111 mo 8 = I mo 8 := (wfq 8 (by decide)).trans i8
          have i9 : I_111 mo 9 = I mo 9 := (wfq 9 (by decide)).trans i9
          have i10 : I_111 mo 10 = I mo 10 := (wfq 10 (by decide)).trans i10
          have hsk := sdK_k hsk qrk (by omega)
          have hnz := noZ_k hnz qrk
          rw [show k = ((k.toNat : Nat) : Int) by omega] at qrk
          have hds := df_s (cc := cc) (cl := cl) hdf (by omega) (by omega) qrk qvw (hvw0 k.toNat (by omega) (by omega)) hlv9.2.1
          have hz36 := hds.1
          refine z_if_ge (tgt := 49) F dX7_differs_39 (by decide) zv_117 (fun c_120 => ?_) (fun c_120 => ?_)
          · refine z_iinc (lv' := [(2, .int (iI (k + 1))), (0, .ref mo), (1, .int (iI rr))]) F dX7_differs_49 hl (k := 0) rfl (by decide) rfl (fun ls hl => ?_)
            refine z_goto (tgt := 27) F dX7_differs_52 (by decide) ?_
            exact ih27 (k + 1) I_111 AI_114 H locs ls ⟨by omega, by omega⟩ hv hT nf (by omega) hds.2 hsk hnz i8 i9 i10 (by omega) hH hS (lv_sub hl [0, 1, 2] rfl)
          · refine lv_aload_n F.1 F.2.1 dX7_differs_42 rfl (lv_at hl 1 rfl) ?_
            refine z_iconst F dX7_differs_43 ?_
            refine lv_iload_n F.1 F.2.1 dX7_differs_44 rfl (lv_at hl 2 rfl) ?_
            have b_121 := mJ hv hm
            unfold mNum1 at b_121
            refine g_calli (g_runV (As := [.int (iI 0), .int (iI rr)]) (rest := []) (ci := 7) F hl.1 hH hS hz (c_X7_sizeOf l g gh T I_111 R J AI_114 AJ AR mo 0 rr ⟨by decide, by decide⟩ zrr hv hm hT (by omega) (by omega)) (cwV 2 F.2.2.2.2.1 (good_up gT_X7_sizeOf) rfl rfl rfl hdX7_sizeOf ⟨Nat.le_of_ble_eq_true rfl, Nat.le_of_ble_eq_true rfl⟩) hm (by decide) rfl rfl rfl (Nat.le_of_ble_eq_true rfl) dX7_differs_45 ⟨Nat.zero_le _, Nat.zero_le _⟩) hS (fun v_128 I_122 R_123 J_124 AI_125 AJ_126 AR_127 H locs zv_128 hp_129 hH hS => ?_)
            dsimp only at hp_129
            obtain ⟨rfl, rfl, rfl, rfl, rfl, rfl, q_130, q_131⟩ := hp_129
            exact g_iret F hr hlk hH hS hz zv_128 ⟨rfl, rfl, rfl, rfl, hv, hT, nf, absurd trivial (by omega), ⟨by (try dsimp only); exact i8, by (try dsimp only); exact i9, by (try dsimp only); exact i10⟩⟩ dX7_differs_48
    exact cut_27_32 (((17 - v_28) + 1 : Int).toNat) v_28 I_1 AI_18 H locs ls zv_28 hv hT nf (by omega) hdf hsk hnz i8 i9 i10 (by omega) hH hS (lv_sub hl [0, 1, 2] rfl)
  · refine z_iconst F dX7_differs_13 ?_
    exact g_iret F hr hlk hH hS hz ⟨by decide, by decide⟩ ⟨rfl, rfl, rfl, rfl, hv, hT, nf, Or.inl ⟨by have h9 := qis (by omega); omega, rfl, rfl⟩, ⟨by (try dsimp only); exact i8, by (try dsimp only); exact i9, by (try dsimp only); exact i10⟩⟩ dX7_differs_14
