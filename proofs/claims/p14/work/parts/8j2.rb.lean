def rmX7_changeg : Room := { frames := 2, cells := 0, slots := 0, locals := 43 }
set_option maxHeartbeats 4000000 in
set_option maxRecDepth 100000 in
/-- a change -/
theorem c_X7_changeg (l : Launch) (g : gG) (gh : gGh) (T : Nat → Int32) (I : gI) (R : gR) (J : gJ) (AI : gI) (AJ : gJ) (AR : gR) (mo : Nat) (tb : Int) (a1 : Int) (b1 : Int) (c1 : Int) (d1 : Int) (n : Int) (ztb : zr tb) (za1 : zr a1) (zb1 : zr b1) (zc1 : zr c1) (zd1 : zr d1) (zn : zr n) (hv : mInv g gh R I AI) (hm : gO g mo 7) (hT : AI (gh 50 0) = T) (h61 : gh 9 (gh 61 0) = 5) (h62 : gh 9 (gh 62 0) = 5) (h63 : gh 9 (gh 63 0) = 5) : gMet l g yX7_change tsX7_change rmX7_changeg [.ref mo, .int (iI tb), .int (iI a1), .int (iI b1), .int (iI c1), .int (iI d1), .int (iI n)] (I, R, J, AI, AJ, AR) (gQi g (fun (z : Int) (w : gS) => R = w.2.1 ∧ J = w.2.2.1 ∧ AJ = w.2.2.2.2.1 ∧ AR = w.2.2.2.2.2 ∧ (mInv g gh R (w.1) (w.2.2.2.1)) ∧ ((w.2.2.2.1) (gh 50 0) = T) ∧ (mF mo I (w.1)) ∧ (chR (I mo 2).toInt (tI T (40 * tb)) tb n z (I mo 14).toInt ((w.1) mo 14).toInt (AI (gh 61 0)) (AI (gh 62 0)) (AI (gh 63 0)) ((w.2.2.2.1) (gh 61 0)) ((w.2.2.2.1) (gh 62 0)) ((w.2.2.2.1) (gh 63 0)) (cky tb a1 b1 c1 d1 (tI T (40 * tb + 1)))) ∧ ((w.1) mo 8 = I mo 8 ∧ (w.1) mo 9 = I mo 9 ∧ (w.1) mo 10 = I mo 10) ∧ (∀ b, b ≠ gh 61 0 → b ≠ gh 62 0 → b ≠ gh 63 0 → b ≠ gh 77 0 → (w.2.2.2.1) b = AI b))) := by
  refine gStart (cc := cX7_change) (maxL := 11) (ret := (some (.int))) (by decide) rfl (Nat.le_of_ble_eq_true rfl) ?_
  intro p e s m below meth c ls F hr hlk hH hz hS hl
  have hl : lv_has ls 11 [(0, .ref mo), (1, .int (iI tb)), (2, .int (iI a1)), (3, .int (iI b1)), (4, .int (iI c1)), (5, .int (iI d1)), (6, .int (iI n))] := hl
  have hS : va_S (gA g) s.heap s.heap [] := hS
  obtain ⟨H, hHe⟩ : ∃ H : Heap, H = s.heap := ⟨_, rfl⟩
  obtain ⟨locs, hlo⟩ : ∃ k : List Loc, k = [] := ⟨_, rfl⟩
  have hH : gH g I R J AI AJ AR H := by rw [hHe]; exact hH
  have hS : va_S (gA g) s.heap H locs := by rw [hHe, hlo]; exact hS
  suffices hw : W p l e rmX7_changeg s m ([.ref mo, .int (iI tb), .int (iI a1), .int (iI b1), .int (iI c1), .int (iI d1), .int (iI n)] : List Value).toArray below meth c H locs 0 0 (MQ below (gQi g (fun (z : Int) (w : gS) => R = w.2.1 ∧ J = w.2.2.1 ∧ AJ = w.2.2.2.2.1 ∧ AR = w.2.2.2.2.2 ∧ (mInv g gh R (w.1) (w.2.2.2.1)) ∧ ((w.2.2.2.1) (gh 50 0) = T) ∧ (mF mo I (w.1)) ∧ (chR (I mo 2).toInt (tI T (40 * tb)) tb n z (I mo 14).toInt ((w.1) mo 14).toInt (AI (gh 61 0)) (AI (gh 62 0)) (AI (gh 63 0)) ((w.2.2.2.1) (gh 61 0)) ((w.2.2.2.1) (gh 62 0)) ((w.2.2.2.1) (gh 63 0)) (cky tb a1 b1 c1 d1 (tI T (40 * tb + 1)))) ∧ ((w.1) mo 8 = I mo 8 ∧ (w.1) mo 9 = I mo 9 ∧ (w.1) mo 10 = I mo 10) ∧ (∀ b, b ≠ gh 61 0 → b ≠ gh 62 0 → b ≠ gh 63 0 → b ≠ gh 77 0 → (w.2.2.2.1) b = AI b))) ([.ref mo, .int (iI tb), .int (iI a1), .int (iI b1), .int (iI c1), .int (iI d1), .int (iI n)] : List Value).toArray s 0 0 (gA g)) (F0 m 0 ls []) by
    rw [hHe, hlo] at hw; exact hw
  clear hHe hlo
  have mf : mF mo I I := mF_r
  have i8 : I mo 8 = I mo 8 := rfl
  have i9 : I mo 9 = I mo 9 := rfl
  have i10 : I mo 10 = I mo 10 := rfl
  have fAX : ∀ b, b ≠ gh 61 0 → b ≠ gh 62 0 → b ≠ gh 63 0 → b ≠ gh 77 0 → AI b = AI b := fun _ _ _ _ _ => rfl
  have iX7 : ∀ w ∈ u_ws RX7 TX7 32, w ∈ tsX7_change := fun w h => List.mem_cons_of_mem _ (inTB7 w h)
  have k60 : Cond.fieldLink RX7 60 (TX7 17).1 (TX7 17).2.1 (TX7 17).2.2.1 ∈ tsX7_change := List.mem_cons_of_mem _ fl_60
  have k45 : Cond.fieldLink RX7 45 (TX7 27).1 (TX7 27).2.1 (TX7 27).2.2.1 ∈ tsX7_change := List.mem_cons_of_mem _ fl_45
  have k266 : Cond.fieldLink RX7 266 (TX7 14).1 (TX7 14).2.1 (TX7 14).2.2.1 ∈ tsX7_change := List.mem_cons_of_mem _ fl_266
  have k30 : Cond.fieldLink RX7 30 (TX7 11).1 (TX7 11).2.1 (TX7 11).2.2.1 ∈ tsX7_change := List.mem_cons_of_mem _ fl_30
  have k33 : Cond.fieldLink RX7 33 (TX7 12).1 (TX7 12).2.1 (TX7 12).2.2.1 ∈ tsX7_change := List.mem_cons_of_mem _ fl_33
  have k36 : Cond.fieldLink RX7 36 (TX7 13).1 (TX7 13).2.1 (TX7 13).2.2.1 ∈ tsX7_change := List.mem_cons_of_mem _ fl_36
  refine lv_aload_n F.1 F.2.1 dX7_change_0 rfl (lv_at hl 0 rfl) ?_
  refine z_iconst F dX7_change_1 ?_
  refine g_putI (ci := 7) (k := 17) F hH hS rfl (by decide) iX7 hm (by decide) tyX7 tyX7_ok nmX7 rfl rfl rfl k60 dX7_change_2 (fun H locs hH hS => ?_)
  obtain ⟨I_1, eI_1⟩ : ∃ qQ, qQ = gup2 I mo 17 (iI (0)) := ⟨_, rfl⟩
  rw [← eI_1] at hH
  have kI_1 : ∀ b, b ≠ mo → I_1 b = I b := fun b hb => by rw [eI_1]; exact funext fun j => gup2_a _ _ hb
  have w_2 : (I_1 mo 17).toInt = 0 := by rw [eI_1, gup2_s]; exact iI_val ⟨by decide, by decide⟩
  have hv : mInv g gh R I_1 AI := by rw [eI_1]; exact mP17 hv hm
  have mf : mF mo I I_1 := mF_t mf (by rw [eI_1]; exact mF_p (by decide))
  have u_3_2 : (I_1 mo 2).toInt = (I mo 2).toInt := by rw [mf 2 (by decide) (by decide) (by decide) (by decide) (by decide) (by decide)]
  have u_3_5 : (I_1 mo 5).toInt = (I mo 5).toInt := by rw [mf 5 (by decide) (by decide) (by decide) (by decide) (by decide) (by decide)]
  have u_3_16 : (I_1 mo 16).toInt = (I mo 16).toInt := by rw [mf 16 (by decide) (by decide) (by decide) (by decide) (by decide) (by decide)]
  have u_3_24 : (I_1 mo 24).toInt = (I mo 24).toInt := by rw [mf 24 (by decide) (by decide) (by decide) (by decide) (by decide) (by decide)]
  have w_2_k14 : (I_1 mo 14).toInt = (I mo 14).toInt := by rw [eI_1, gup2_k _ _ (by decide)]
  have i8 : I_1 mo 8 = I mo 8 := (show I_1 mo 8 = I mo 8 by rw [eI_1, gup2_k _ _ (by decide)]).trans i8
  have i9 : I_1 mo 9 = I mo 9 := (show I_1 mo 9 = I mo 9 by rw [eI_1, gup2_k _ _ (by decide)]).trans i9
  have i10 : I_1 mo 10 = I mo 10 := (show I_1 mo 10 = I mo 10 by rw [eI_1, gup2_k _ _ (by decide)]).trans i10
  refine lv_aload_n F.1 F.2.1 dX7_change_5 rfl (lv_at hl 0 rfl) ?_
  refine lv_iload_n F.1 F.2.1 dX7_change_6 rfl (lv_at hl 1 rfl) ?_
  have b_4 := mJ hv hm
  unfold mNum1 at b_4
  refine g_calli (g_runV (As := [.int (iI tb)]) (rest := []) (ci := 7) F hl.1 hH hS hz (c_X7_isRelationf l g gh T I_1 R J AI AJ AR mo tb ztb hv hm hT) (cwV 1 F.2.2.2.2.1 (good_up gT_X7_isRelation) rfl rfl rfl hdX7_isRelation ⟨Nat.le_of_ble_eq_true rfl, Nat.le_of_ble_eq_true rfl⟩) hm (by decide) rfl rfl rfl (Nat.le_of_ble_eq_true rfl) dX7_change_7 ⟨Nat.zero_le _, Nat.zero_le _⟩) hS (fun v_11 I_5 R_6 J_7 AI_8 AJ_9 AR_10 H locs zv_11 hp_12 hH hS => ?_)
  dsimp only at hp_12
  obtain ⟨rfl, rfl, rfl, rfl, rfl, rfl, q_13, q_14⟩ := hp_12
  refine z_if_eq (tgt := 38) F dX7_change_10 (by decide) zv_11 (fun c_15 => ?_) (fun c_15 => ?_)
  · refine z_iconst F dX7_change_38 ?_
    exact g_iret F hr hlk hH hS hz ⟨by decide, by decide⟩ ⟨rfl, rfl, rfl, rfl, hv, hT, mf, Or.inl ⟨by omega, rfl, by first | rfl | omega, rfl, rfl, rfl⟩, ⟨by (try dsimp only); exact i8, by (try dsimp only); exact i9, by (try dsimp only); exact i10⟩, fAX⟩ dX7_change_39
  · refine lv_aload_n F.1 F.2.1 dX7_change_13 rfl (lv_at hl 0 rfl) ?_
    refine lv_iload_n F.1 F.2.1 dX7_change_14 rfl (lv_at hl 1 rfl) ?_
    refine g_calli (g_runV (As := [.int (iI tb)]) (rest := []) (ci := 7) F hl.1 hH hS hz (c_X7_kindOf l g gh T I_1 R J AI AJ AR mo tb ztb hv hm hT (by omega)) (cwV 1 F.2.2.2.2.1 (good_up gT_X7_kindOf) rfl rfl rfl hdX7_kindOf ⟨Nat.le_of_ble_eq_true rfl, Nat.le_of_ble_eq_true rfl⟩) hm (by decide) rfl rfl rfl (Nat.le_of_ble_eq_true rfl) dX7_change_15 ⟨Nat.zero_le _, Nat.zero_le _⟩) hS (fun v_22 I_16 R_17 J_18 AI_19 AJ_20 AR_21 H locs zv_22 hp_23 hH hS => ?_)
    dsimp only at hp_23
    obtain ⟨rfl, rfl, rfl, rfl, rfl, rfl, q_24⟩ := hp_23
    refine z_if_ne (tgt := 38) F dX7_change_18 (by decide) zv_22 (fun c_25 => ?_) (fun c_25 => ?_)
    · refine z_iconst F dX7_change_38 ?_
      exact g_iret F hr hlk hH hS hz ⟨by decide, by decide⟩ ⟨rfl, rfl, rfl, rfl, hv, hT, mf, Or.inl ⟨by omega, rfl, by first | rfl | omega, rfl, rfl, rfl⟩, ⟨by (try dsimp only); exact i8, by (try dsimp only); exact i9, by (try dsimp only); exact i10⟩, fAX⟩ dX7_change_39
    · refine lv_iload F.1 F.2.1 dX7_change_21 (lv_at hl 6 rfl) ?_
      refine z_bipush F dX7_change_23 (by decide) ?_
      refine z_bipush F dX7_change_25 (by decide) ?_
      refine g_calli (g_runS (As := [.int (iI n), .int (iI ((-9))), .int (iI 9)]) (rest := []) F hl.1 hH hS hz (c_X7_within l g  I_1 R J AI AJ AR n (-9) 9 zn ⟨by decide, by decide⟩ ⟨by decide, by decide⟩) (va_cwS 3 F.2.2.2.2.1 (good_up gT_X7_within) rfl rfl rfl hdX7_within.2 ⟨Nat.le_of_ble_eq_true rfl, Nat.le_of_ble_eq_true rfl⟩) rfl rfl (Nat.le_of_ble_eq_true rfl) dX7_change_27 ⟨Nat.zero_le _, Nat.zero_le _⟩) hS (fun v_32 I_26 R_27 J_28 AI_29 AJ_30 AR_31 H locs zv_32 hp_33 hH hS => ?_)
      dsimp only at hp_33
      obtain ⟨rfl, rfl, rfl, rfl, rfl, rfl, q_34⟩ := hp_33
      refine z_if_eq (tgt := 38) F dX7_change_30 (by decide) zv_32 (fun c_35 => ?_) (fun c_35 => ?_)
      · refine z_iconst F dX7_change_38 ?_
        exact g_iret F hr hlk hH hS hz ⟨by decide, by decide⟩ ⟨rfl, rfl, rfl, rfl, hv, hT, mf, Or.inl ⟨by omega, rfl, by first | rfl | omega, rfl, rfl, rfl⟩, ⟨by (try dsimp only); exact i8, by (try dsimp only); exact i9, by (try dsimp only); exact i10⟩, fAX⟩ dX7_change_39
      · refine lv_iload F.1 F.2.1 dX7_change_33 (lv_at hl 6 rfl) ?_
        refine z_if_ne (tgt := 40) F dX7_change_35 (by decide) zn (fun c_36 => ?_) (fun c_36 => ?_)
        · refine lv_aload_n F.1 F.2.1 dX7_change_40 rfl (lv_at hl 0 rfl) ?_
          refine lv_iload_n F.1 F.2.1 dX7_change_41 rfl (lv_at hl 1 rfl) ?_
          refine g_calli (g_runV (As := [.int (iI tb)]) (rest := []) (ci := 7) F hl.1 hH hS hz (c_X7_columnsOf l g gh T I_1 R J AI AJ AR mo tb ztb hv hm hT (by omega)) (cwV 1 F.2.2.2.2.1 (good_up gT_X7_columnsOf) rfl rfl rfl hdX7_columnsOf ⟨Nat.le_of_ble_eq_true rfl, Nat.le_of_ble_eq_true rfl⟩) hm (by decide) rfl rfl rfl (Nat.le_of_ble_eq_true rfl) dX7_change_42 ⟨Nat.zero_le _, Nat.zero_le _⟩) hS (fun v_43 I_37 R_38 J_39 AI_40 AJ_41 AR_42 H locs zv_43 hp_44 hH hS => ?_)
          dsimp only at hp_44
          obtain ⟨rfl, rfl, rfl, rfl, rfl, rfl, qcl⟩ := hp_44
          refine lv_istore (lv' := [(7, .int (iI v_43)), (0, .ref mo), (1, .int (iI tb)), (2, .int (iI a1)), (3, .int (iI b1)), (4, .int (iI c1)), (5, .int (iI d1)), (6, .int (iI n))]) F.1 F.2.1 dX7_change_45 hl (by decide) rfl (fun ls hl => ?_)
          refine lv_aload_n F.1 F.2.1 dX7_change_47 rfl (lv_at hl 1 rfl) ?_
          obtain ⟨r_45a, r_45b⟩ : R mo 27 = some (gh 77 0) ∧ gAr g (gh 77 0) 9 4 := mR hv hm (q := (27, 4)) (by decide)
          refine g_getR (ci := 7) (k := 27) F hH rfl (by decide) iX7 hm (by decide) rfl (b := gh 77 0) r_45a k45 dX7_change_48 ?_
          refine z_iconst F dX7_change_51 ?_
          refine lv_iload_n F.1 F.2.1 dX7_change_52 rfl (lv_at hl 3 rfl) ?_
          have hx53 : 0 ≤ (0 : Int) ∧ (0 : Int) < ((4 : Nat) : Int) ∧ (0 : Int) ≤ 2147483647 := ⟨by omega, by omega, by omega⟩
          refine g_iast F hH hS r_45b hx53.1 hx53.2.1 hx53.2.2 dX7_change_53 (fun H locs hH hS => ?_)
          obtain ⟨AI_46, eAI_46⟩ : ∃ qQ, qQ = gup2 AI (gh 77 0) ((0 : Int)).toNat (iI (a1)) := ⟨_, rfl⟩
          rw [← eAI_46] at hH
          have kAI_46 : ∀ b, b ≠ (gh 77 0) → AI_46 b = AI b := fun b hb => by rw [eAI_46]; exact funext fun j => gup2_a _ _ hb
          have hvO := hv
          have t_47 : AI_46 (gh 50 0) = AI (gh 50 0) := mK hv hm (p := (0, 640)) (q := (27, 4)) (by decide) (by decide) (by decide) kAI_46
          have hv : mInv g gh R I_1 AI_46 := mInv_a hv hm (q := (27, 4)) (by decide) (by decide) kAI_46
          have hT : AI_46 (gh 50 0) = T := t_47.trans hT
          have key0 : (AI_46 (gh 77 0) 0).toInt = a1 := by rw [eAI_46, gup2_e _ _ (by decide)]; exact iI_val za1
          have h61en : AI_46 (gh 61 0) = AI (gh 61 0) := mK hvO hm (p := (11, 41)) (q := (27, 4)) (by decide) (by decide) (by decide) kAI_46
          have h61e : AI_46 (gh 61 0) = AI (gh 61 0) := h61en
          have h62en : AI_46 (gh 62 0) = AI (gh 62 0) := mK hvO hm (p := (12, 164)) (q := (27, 4)) (by decide) (by decide) (by decide) kAI_46
          have h62e : AI_46 (gh 62 0) = AI (gh 62 0) := h62en
          have h63en : AI_46 (gh 63 0) = AI (gh 63 0) := mK hvO hm (p := (13, 41)) (q := (27, 4)) (by decide) (by decide) (by decide) kAI_46
          have h63e : AI_46 (gh 63 0) = AI (gh 63 0) := h63en
          have fAX : ∀ b, b ≠ gh 61 0 → b ≠ gh 62 0 → b ≠ gh 63 0 → b ≠ gh 77 0 → AI_46 b = AI b := fun b h61 h62 h63 h77 => (kAI_46 b h77).trans (fAX b h61 h62 h63 h77)
          refine lv_aload_n F.1 F.2.1 dX7_change_54 rfl (lv_at hl 1 rfl) ?_
          refine g_getR (ci := 7) (k := 27) F hH rfl (by decide) iX7 hm (by decide) rfl (b := gh 77 0) r_45a k45 dX7_change_55 ?_
          refine z_iconst F dX7_change_58 ?_
          have cut_70_47 : ∀ (t1 : Int) (H : Heap) (locs : List Loc) (ls : Array Slot), zr t1 → (t1 = if 1 < (tI T (40 * tb + 1)) then b1 else 0) → gH g I_1 R J AI_46 AJ AR H → va_S (gA g) s.heap H locs → lv_has ls 11 [(7, .int (iI v_43)), (0, .ref mo), (1, .int (iI tb)), (2, .int (iI a1)), (3, .int (iI b1)), (4, .int (iI c1)), (5, .int (iI d1)), (6, .int (iI n))] → W p l e rmX7_changeg s m ([.ref mo, .int (iI tb), .int (iI a1), .int (iI b1), .int (iI c1), .int (iI d1), .int (iI n)] : List Value).toArray below meth c H locs 0 0 (MQ below (gQi g (fun (z : Int) (w : gS) => R = w.2.1 ∧ J = w.2.2.1 ∧ AJ = w.2.2.2.2.1 ∧ AR = w.2.2.2.2.2 ∧ (mInv g gh R (w.1) (w.2.2.2.1)) ∧ ((w.2.2.2.1) (gh 50 0) = T) ∧ (mF mo I (w.1)) ∧ (chR (I mo 2).toInt (tI T (40 * tb)) tb n z (I mo 14).toInt ((w.1) mo 14).toInt (AI (gh 61 0)) (AI (gh 62 0)) (AI (gh 63 0)) ((w.2.2.2.1) (gh 61 0)) ((w.2.2.2.1) (gh 62 0)) ((w.2.2.2.1) (gh 63 0)) (cky tb a1 b1 c1 d1 (tI T (40 * tb + 1)))) ∧ ((w.1) mo 8 = I mo 8 ∧ (w.1) mo 9 = I mo 9 ∧ (w.1) mo 10 = I mo 10) ∧ (∀ b, b ≠ gh 61 0 → b ≠ gh 62 0 → b ≠ gh 63 0 → b ≠ gh 77 0 → (w.2.2.2.1) b = AI b))) ([.ref mo, .int (iI tb), .int (iI a1), .int (iI b1), .int (iI c1), .int (iI d1), .int (iI n)] : List Value).toArray s 0 0 (gA g)) (F0 m 70 ls [.int (iI t1), .int (iI 1), .ref (gh 77 0)]) := by
            intro t1 H locs ls zt1 ht1 hH hS hl
            have hx70 : 0 ≤ (1 : Int) ∧ (1 : Int) < ((4 : Nat) : Int) ∧ (1 : Int) ≤ 2147483647 := ⟨by omega, by omega, by omega⟩
            refine g_iast F hH hS r_45b hx70.1 hx70.2.1 hx70.2.2 dX7_change_70 (fun H locs hH hS => ?_)
            obtain ⟨AI_49, eAI_49⟩ : ∃ qQ, qQ = gup2 AI_46 (gh 77 0) ((1 : Int)).toNat (iI (t1)) := ⟨_, rfl⟩
            rw [← eAI_49] at hH
            have kAI_49 : ∀ b, b ≠ (gh 77 0) → AI_49 b = AI_46 b := fun b hb => by rw [eAI_49]; exact funext fun j => gup2_a _ _ hb
            have hvO := hv
            have t_50 : AI_49 (gh 50 0) = AI_46 (gh 50 0) := mK hv hm (p := (0, 640)) (q := (27, 4)) (by decide) (by decide) (by decide) kAI_49
            have hv : mInv g gh R I_1 AI_49 := mInv_a hv hm (q := (27, 4)) (by decide) (by decide) kAI_49
            have hT : AI_49 (gh 50 0) = T := t_50.trans hT
            have key0 : (AI_49 (gh 77 0) 0).toInt = a1 := by rw [eAI_49, gup2_k _ _ (by decide)]; exact key0
            have key1 : (AI_49 (gh 77 0) 1).toInt = t1 := by rw [eAI_49, gup2_e _ _ (by decide)]; exact iI_val zt1
            have h61en : AI_49 (gh 61 0) = AI_46 (gh 61 0) := mK hvO hm (p := (11, 41)) (q := (27, 4)) (by decide) (by decide) (by decide) kAI_49
            have h61e : AI_49 (gh 61 0) = AI (gh 61 0) := h61en.trans h61e
            have h62en : AI_49 (gh 62 0) = AI_46 (gh 62 0) := mK hvO hm (p := (12, 164)) (q := (27, 4)) (by decide) (by decide) (by decide) kAI_49
            have h62e : AI_49 (gh 62 0) = AI (gh 62 0) := h62en.trans h62e
            have h63en : AI_49 (gh 63 0) = AI_46 (gh 63 0) := mK hvO hm (p := (13, 41)) (q := (27, 4)) (by decide) (by decide) (by decide) kAI_49
            have h63e : AI_49 (gh 63 0) = AI (gh 63 0) := h63en.trans h63e
            have fAX : ∀ b, b ≠ gh 61 0 → b ≠ gh 62 0 → b ≠ gh 63 0 → b ≠ gh 77 0 → AI_49 b = AI b := fun b h61 h62 h63 h77 => (kAI_49 b h77).trans (fAX b h61 h62 h63 h77)
            refine lv_aload_n F.1 F.2.1 dX7_change_71 rfl (lv_at hl 1 rfl) ?_
            refine g_getR (ci := 7) (k := 27) F hH rfl (by decide) iX7 hm (by decide) rfl (b := gh 77 0) r_45a k45 dX7_change_72 ?_
            refine z_iconst F dX7_change_75 ?_
            have cut_88_50 : ∀ (t2 : Int) (H : Heap) (locs : List Loc) (ls : Array Slot), zr t2 → (t2 = if 2 < (tI T (40 * tb + 1)) then c1 else 0) → gH g I_1 R J AI_49 AJ AR H → va_S (gA g) s.heap H locs → lv_has ls 11 [(7, .int (iI v_43)), (0, .ref mo), (1, .int (iI tb)), (2, .int (iI a1)), (3, .int (iI b1)), (4, .int (iI c1)), (5, .int (iI d1)), (6, .int (iI n))] → W p l e rmX7_changeg s m ([.ref mo, .int (iI tb), .int (iI a1), .int (iI b1), .int (iI c1), .int (iI d1), .int (iI n)] : List Value).toArray below meth c H locs 0 0 (MQ below (gQi g (fun (z : Int) (w : gS) => R = w.2.1 ∧ J = w.2.2.1 ∧ AJ = w.2.2.2.2.1 ∧ AR = w.2.2.2.2.2 ∧ (mInv g gh R (w.1) (w.2.2.2.1)) ∧ ((w.2.2.2.1) (gh 50 0) = T) ∧ (mF mo I (w.1)) ∧ (chR (I mo 2).toInt (tI T (40 * tb)) tb n z (I mo 14).toInt ((w.1) mo 14).toInt (AI (gh 61 0)) (AI (gh 62 0)) (AI (gh 63 0)) ((w.2.2.2.1) (gh 61 0)) ((w.2.2.2.1) (gh 62 0)) ((w.2.2.2.1) (gh 63 0)) (cky tb a1 b1 c1 d1 (tI T (40 * tb + 1)))) ∧ ((w.1) mo 8 = I mo 8 ∧ (w.1) mo 9 = I mo 9 ∧ (w.1) mo 10 = I mo 10) ∧ (∀ b, b ≠ gh 61 0 → b ≠ gh 62 0 → b ≠ gh 63 0 → b ≠ gh 77 0 → (w.2.2.2.1) b = AI b))) ([.ref mo, .int (iI tb), .int (iI a1), .int (iI b1), .int (iI c1), .int (iI d1), .int (iI n)] : List Value).toArray s 0 0 (gA g)) (F0 m 88 ls [.int (iI t2), .int (iI 2), .ref (gh 77 0)]) := by
              intro t2 H locs ls zt2 ht2 hH hS hl
              have hx88 : 0 ≤ (2 : Int) ∧ (2 : Int) < ((4 : Nat) : Int) ∧ (2 : Int) ≤ 2147483647 := ⟨by omega, by omega, by omega⟩
              refine g_iast F hH hS r_45b hx88.1 hx88.2.1 hx88.2.2 dX7_change_88 (fun H locs hH hS => ?_)
              obtain ⟨AI_52, eAI_52⟩ : ∃ qQ, qQ = gup2 AI_49 (gh 77 0) ((2 : Int)).toNat (iI (t2)) := ⟨_, rfl⟩
              rw [← eAI_52] at hH
              have kAI_52 : ∀ b, b ≠ (gh 77 0) → AI_52 b = AI_49 b := fun b hb => by rw [eAI_52]; exact funext fun j => gup2_a _ _ hb
              have hvO := hv
              have t_53 : AI_52 (gh 50 0) = AI_49 (gh 50 0) := mK hv hm (p := (0, 640)) (q := (27, 4)) (by decide) (by decide) (by decide) kAI_52
              have hv : mInv g gh R I_1 AI_52 := mInv_a hv hm (q := (27, 4)) (by decide) (by decide) kAI_52
              have hT : AI_52 (gh 50 0) = T := t_53.trans hT
              have key0 : (AI_52 (gh 77 0) 0).toInt = a1 := by rw [eAI_52, gup2_k _ _ (by decide)]; exact key0
              have key1 : (AI_52 (gh 77 0) 1).toInt = t1 := by rw [eAI_52, gup2_k _ _ (by decide)]; exact key1
              have key2 : (AI_52 (gh 77 0) 2).toInt = t2 := by rw [eAI_52, gup2_e _ _ (by decide)]; exact iI_val zt2
              have h61en : AI_52 (gh 61 0) = AI_49 (gh 61 0) := mK hvO hm (p := (11, 41)) (q := (27, 4)) (by decide) (by decide) (by decide) kAI_52
              have h61e : AI_52 (gh 61 0) = AI (gh 61 0) := h61en.trans h61e
              have h62en : AI_52 (gh 62 0) = AI_49 (gh 62 0) := mK hvO hm (p := (12, 164)) (q := (27, 4)) (by decide) (by decide) (by decide) kAI_52
              have h62e : AI_52 (gh 62 0) = AI (gh 62 0) := h62en.trans h62e
              have h63en : AI_52 (gh 63 0) = AI_49 (gh 63 0) := mK hvO hm (p := (13, 41)) (q := (27, 4)) (by decide) (by decide) (by decide) kAI_52
              have h63e : AI_52 (gh 63 0) = AI (gh 63 0) := h63en.trans h63e
              have fAX : ∀ b, b ≠ gh 61 0 → b ≠ gh 62 0 → b ≠ gh 63 0 → b ≠ gh 77 0 → AI_52 b = AI b := fun b h61 h62 h63 h77 => (kAI_52 b h77).trans (fAX b h61 h62 h63 h77)
              refine lv_aload_n F.1 F.2.1 dX7_change_89 rfl (lv_at hl 1 rfl) ?_
              refine g_getR (ci := 7) (k := 27) F hH rfl (by decide) iX7 hm (by decide) rfl (b := gh 77 0) r_45a k45 dX7_change_90 ?_
              refine z_iconst F dX7_change_93 ?_
              have cut_106_53 : ∀ (t3 : Int) (H : Heap) (locs : List Loc) (ls : Array Slot), zr t3 → (t3 = if 3 < (tI T (40 * tb + 1)) then d1 else 0) → gH g I_1 R J AI_52 AJ AR H → va_S (gA g) s.heap H locs → lv_has ls 11 [(7, .int (iI v_43)), (0, .ref mo), (1, .int (iI tb)), (2, .int (iI a1)), (3, .int (iI b1)), (4, .int (iI c1)), (5, .int (iI d1)), (6, .int (iI n))] → W p l e rmX7_changeg s m ([.ref mo, .int (iI tb), .int (iI a1), .int (iI b1), .int (iI c1), .int (iI d1), .int (iI n)] : List Value).toArray below meth c H locs 0 0 (MQ below (gQi g (fun (z : Int) (w : gS) => R = w.2.1 ∧ J = w.2.2.1 ∧ AJ = w.2.2.2.2.1 ∧ AR = w.2.2.2.2.2 ∧ (mInv g gh R (w.1) (w.2.2.2.1)) ∧ ((w.2.2.2.1) (gh 50 0) = T) ∧ (mF mo I (w.1)) ∧ (chR (I mo 2).toInt (tI T (40 * tb)) tb n z (I mo 14).toInt ((w.1) mo 14).toInt (AI (gh 61 0)) (AI (gh 62 0)) (AI (gh 63 0)) ((w.2.2.2.1) (gh 61 0)) ((w.2.2.2.1) (gh 62 0)) ((w.2.2.2.1) (gh 63 0)) (cky tb a1 b1 c1 d1 (tI T (40 * tb + 1)))) ∧ ((w.1) mo 8 = I mo 8 ∧ (w.1) mo 9 = I mo 9 ∧ (w.1) mo 10 = I mo 10) ∧ (∀ b, b ≠ gh 61 0 → b ≠ gh 62 0 → b ≠ gh 63 0 → b ≠ gh 77 0 → (w.2.2.2.1) b = AI b))) ([.ref mo, .int (iI tb), .int (iI a1), .int (iI b1), .int (iI c1), .int (iI d1), .int (iI n)] : List Value).toArray s 0 0 (gA g)) (F0 m 106 ls [.int (iI t3), .int (iI 3), .ref (gh 77 0)]) := by
                intro t3 H locs ls zt3 ht3 hH hS hl
                have hx106 : 0 ≤ (3 : Int) ∧ (3 : Int) < ((4 : Nat) : Int) ∧ (3 : Int) ≤ 2147483647 := ⟨by omega, by omega, by omega⟩
                refine g_iast F hH hS r_45b hx106.1 hx106.2.1 hx106.2.2 dX7_change_106 (fun H locs hH hS => ?_)
                obtain ⟨AI_55, eAI_55⟩ : ∃ qQ, qQ = gup2 AI_52 (gh 77 0) ((3 : Int)).toNat (iI (t3)) := ⟨_, rfl⟩
                rw [← eAI_55] at hH
                have kAI_55 : ∀ b, b ≠ (gh 77 0) → AI_55 b = AI_52 b := fun b hb => by rw [eAI_55]; exact funext fun j => gup2_a _ _ hb
                have hvO := hv
                have t_56 : AI_55 (gh 50 0) = AI_52 (gh 50 0) := mK hv hm (p := (0, 640)) (q := (27, 4)) (by decide) (by decide) (by decide) kAI_55
                have hv : mInv g gh R I_1 AI_55 := mInv_a hv hm (q := (27, 4)) (by decide) (by decide) kAI_55
                have hT : AI_55 (gh 50 0) = T := t_56.trans hT
                have key0 : (AI_55 (gh 77 0) 0).toInt = a1 := by rw [eAI_55, gup2_k _ _ (by decide)]; exact key0
                have key1 : (AI_55 (gh 77 0) 1).toInt = t1 := by rw [eAI_55, gup2_k _ _ (by decide)]; exact key1
                have key2 : (AI_55 (gh 77 0) 2).toInt = t2 := by rw [eAI_55, gup2_k _ _ (by decide)]; exact key2
                have key3 : (AI_55 (gh 77 0) 3).toInt = t3 := by rw [eAI_55, gup2_e _ _ (by decide)]; exact iI_val zt3
                have h61en : AI_55 (gh 61 0) = AI_52 (gh 61 0) := mK hvO hm (p := (11, 41)) (q := (27, 4)) (by decide) (by decide) (by decide) kAI_55
                have h61e : AI_55 (gh 61 0) = AI (gh 61 0) := h61en.trans h61e
                have h62en : AI_55 (gh 62 0) = AI_52 (gh 62 0) := mK hvO hm (p := (12, 164)) (q := (27, 4)) (by decide) (by decide) (by decide) kAI_55
                have h62e : AI_55 (gh 62 0) = AI (gh 62 0) := h62en.trans h62e
                have h63en : AI_55 (gh 63 0) = AI_52 (gh 63 0) := mK hvO hm (p := (13, 41)) (q := (27, 4)) (by decide) (by decide) (by decide) kAI_55
                have h63e : AI_55 (gh 63 0) = AI (gh 63 0) := h63en.trans h63e
                have htu : ∀ t : Nat, t < 4 → (AI_55 (gh 77 0) t).toInt = (cky tb a1 b1 c1 d1 (tI T (40 * tb + 1))) (t + 1) := tku key0 (key1.trans ht1) (key2.trans ht2) (key3.trans ht3)
                have fAX : ∀ b, b ≠ gh 61 0 → b ≠ gh 62 0 → b ≠ gh 63 0 → b ≠ gh 77 0 → AI_55 b = AI b := fun b h61 h62 h63 h77 => (kAI_55 b h77).trans (fAX b h61 h62 h63 h77)
                refine z_iconst F dX7_change_107 ?_
                refine lv_istore (lv' := [(8, .int (iI 0)), (7, .int (iI v_43)), (0, .ref mo), (1, .int (iI tb)), (2, .int (iI a1)), (3, .int (iI b1)), (4, .int (iI c1)), (5, .int (iI d1)), (6, .int (iI n))]) F.1 F.2.1 dX7_change_108 hl (by decide) rfl (fun ls hl => ?_)
                have cut_110_56 : ∀ (NN : Nat) (k : Int) (H : Heap) (locs : List Loc) (ls : Array Slot), zr k → (0 ≤ k ∧ k ≤ (I_1 mo 14).toInt) → (∀ i : Nat, (i : Int) < k → kc 5 (rmk (AI (gh 61 0)) (AI (gh 62 0)) i) (cky tb a1 b1 c1 d1 (tI T (40 * tb + 1))) = -1) → (40 - k) < ((NN : Nat) : Int) → gH g I_1 R J AI_55 AJ AR H → va_S (gA g) s.heap H locs → lv_has ls 11 [(8, .int (iI k)), (7, .int (iI v_43)), (0, .ref mo), (1, .int (iI tb)), (2, .int (iI a1)), (3, .int (iI b1)), (4, .int (iI c1)), (5, .int (iI d1)), (6, .int (iI n))] → W p l e rmX7_changeg s m ([.ref mo, .int (iI tb), .int (iI a1), .int (iI b1), .int (iI c1), .int (iI d1), .int (iI n)] : List Value).toArray below meth c H locs 0 0 (MQ below (gQi g (fun (z : Int) (w : gS) => R = w.2.1 ∧ J = w.2.2.1 ∧ AJ = w.2.2.2.2.1 ∧ AR = w.2.2.2.2.2 ∧ (mInv g gh R (w.1) (w.2.2.2.1)) ∧ ((w.2.2.2.1) (gh 50 0) = T) ∧ (mF mo I (w.1)) ∧ (chR (I mo 2).toInt (tI T (40 * tb)) tb n z (I mo 14).toInt ((w.1) mo 14).toInt (AI (gh 61 0)) (AI (gh 62 0)) (AI (gh 63 0)) ((w.2.2.2.1) (gh 61 0)) ((w.2.2.2.1) (gh 62 0)) ((w.2.2.2.1) (gh 63 0)) (cky tb a1 b1 c1 d1 (tI T (40 * tb + 1)))) ∧ ((w.1) mo 8 = I mo 8 ∧ (w.1) mo 9 = I mo 9 ∧ (w.1) mo 10 = I mo 10) ∧ (∀ b, b ≠ gh 61 0 → b ≠ gh 62 0 → b ≠ gh 63 0 → b ≠ gh 77 0 → (w.2.2.2.1) b = AI b))) ([.ref mo, .int (iI tb), .int (iI a1), .int (iI b1), .int (iI c1), .int (iI d1), .int (iI n)] : List Value).toArray s 0 0 (gA g)) (F0 m 110 ls []) := by
                  intro NN110
                  induction NN110 with
                  | zero =>
                    intro k H locs ls zk hk hlt hm110 hH hS hl
                    exact absurd hm110 (by omega)
                  | succ NN110 ih110 =>
                    intro k H locs ls zk hk hlt hm110 hH hS hl
                    have cut_166_57 : ∀ (H : Heap) (locs : List Loc) (ls : Array Slot), (k < (I mo 14).toInt → kc 5 (rmk (AI (gh 61 0)) (AI (gh 62 0)) k.toNat) (cky tb a1 b1 c1 d1 (tI T (40 * tb + 1))) ≠ -1) → gH g I_1 R J AI_55 AJ AR H → va_S (gA g) s.heap H locs → lv_has ls 11 [(8, .int (iI k)), (7, .int (iI v_43)), (0, .ref mo), (1, .int (iI tb)), (2, .int (iI a1)), (3, .int (iI b1)), (4, .int (iI c1)), (5, .int (iI d1)), (6, .int (iI n))] → W p l e rmX7_changeg s m ([.ref mo, .int (iI tb), .int (iI a1), .int (iI b1), .int (iI c1), .int (iI d1), .int (iI n)] : List Value).toArray below meth c H locs 0 0 (MQ below (gQi g (fun (z : Int) (w : gS) => R = w.2.1 ∧ J = w.2.2.1 ∧ AJ = w.2.2.2.2.1 ∧ AR = w.2.2.2.2.2 ∧ (mInv g gh R (w.1) (w.2.2.2.1)) ∧ ((w.2.2.2.1) (gh 50 0) = T) ∧ (mF mo I (w.1)) ∧ (chR (I mo 2).toInt (tI T (40 * tb)) tb n z (I mo 14).toInt ((w.1) mo 14).toInt (AI (gh 61 0)) (AI (gh 62 0)) (AI (gh 63 0)) ((w.2.2.2.1) (gh 61 0)) ((w.2.2.2.1) (gh 62 0)) ((w.2.2.2.1) (gh 63 0)) (cky tb a1 b1 c1 d1 (tI T (40 * tb + 1)))) ∧ ((w.1) mo 8 = I mo 8 ∧ (w.1) mo 9 = I mo 9 ∧ (w.1) mo 10 = I mo 10) ∧ (∀ b, b ≠ gh 61 0 → b ≠ gh 62 0 → b ≠ gh 63 0 → b ≠ gh 77 0 → (w.2.2.2.1) b = AI b))) ([.ref mo, .int (iI tb), .int (iI a1), .int (iI b1), .int (iI c1), .int (iI d1), .int (iI n)] : List Value).toArray s 0 0 (gA g)) (F0 m 166 ls []) := by
                      intro H locs ls hge hH hS hl
                      have cut_210_58 : ∀ (is : Int) (H : Heap) (locs : List Loc) (ls : Array Slot), zr is → (is = 0 ∨ (is = 1 ∧ k < (I_1 mo 14).toInt)) → ((is = 1 ∧ kc 5 (rmk (AI (gh 61 0)) (AI (gh 62 0)) k.toNat) (cky tb a1 b1 c1 d1 (tI T (40 * tb + 1))) = 0) ∨ (is = 0 ∧ (k < (I mo 14).toInt → kc 5 (rmk (AI (gh 61 0)) (AI (gh 62 0)) k.toNat) (cky tb a1 b1 c1 d1 (tI T (40 * tb + 1))) = 1))) → gH g I_1 R J AI_55 AJ AR H → va_S (gA g) s.heap H locs → lv_has ls 11 [(8, .int (iI k)), (7, .int (iI v_43)), (0, .ref mo), (1, .int (iI tb)), (2, .int (iI a1)), (3, .int (iI b1)), (4, .int (iI c1)), (5, .int (iI d1)), (6, .int (iI n))] → W p l e rmX7_changeg s m ([.ref mo, .int (iI tb), .int (iI a1), .int (iI b1), .int (iI c1), .int (iI d1), .int (iI n)] : List Value).toArray below meth c H locs 0 0 (MQ below (gQi g (fun (z : Int) (w : gS) => R = w.2.1 ∧ J = w.2.2.1 ∧ AJ = w.2.2.2.2.1 ∧ AR = w.2.2.2.2.2 ∧ (mInv g gh R (w.1) (w.2.2.2.1)) ∧ ((w.2.2.2.1) (gh 50 0) = T) ∧ (mF mo I (w.1)) ∧ (chR (I mo 2).toInt (tI T (40 * tb)) tb n z (I mo 14).toInt ((w.1) mo 14).toInt (AI (gh 61 0)) (AI (gh 62 0)) (AI (gh 63 0)) ((w.2.2.2.1) (gh 61 0)) ((w.2.2.2.1) (gh 62 0)) ((w.2.2.2.1) (gh 63 0)) (cky tb a1 b1 c1 d1 (tI T (40 * tb + 1)))) ∧ ((w.1) mo 8 = I mo 8 ∧ (w.1) mo 9 = I mo 9 ∧ (w.1) mo 10 = I mo 10) ∧ (∀ b, b ≠ gh 61 0 → b ≠ gh 62 0 → b ≠ gh 63 0 → b ≠ gh 77 0 → (w.2.2.2.1) b = AI b))) ([.ref mo, .int (iI tb), .int (iI a1), .int (iI b1), .int (iI c1), .int (iI d1), .int (iI n)] : List Value).toArray s 0 0 (gA g)) (F0 m 210 ls [.int (iI is)]) := by
                        intro is H locs ls zis his his2 hH hS hl
                        refine lv_istore (lv' := [(9, .int (iI is)), (8, .int (iI k)), (7, .int (iI v_43)), (0, .ref mo), (1, .int (iI tb)), (2, .int (iI a1)), (3, .int (iI b1)), (4, .int (iI c1)), (5, .int (iI d1)), (6, .int (iI n))]) F.1 F.2.1 dX7_change_210 hl (by decide) rfl (fun ls hl => ?_)
                        refine lv_iload F.1 F.2.1 dX7_change_212 (lv_at hl 0 rfl) ?_
                        refine z_if_ne (tgt := 228) F dX7_change_214 (by decide) zis (fun c_60 => ?_) (fun c_60 => ?_)
                        · refine lv_iload F.1 F.2.1 dX7_change_228 (lv_at hl 0 rfl) ?_
                          refine z_if_ne (tgt := 328) F dX7_change_230 (by decide) zis (fun c_61 => ?_) (fun c_61 => ?_)
                          · refine lv_aload_n F.1 F.2.1 dX7_change_328 rfl (lv_at hl 3 rfl) ?_
                            obtain ⟨r_62a, r_62b⟩ : R mo 13 = some (gh 63 0) ∧ gAr g (gh 63 0) 9 41 := mR hv hm (q := (13, 41)) (by decide)
                            refine g_getR (ci := 7) (k := 13) F hH rfl (by decide) iX7 hm (by decide) rfl (b := gh 63 0) r_62a k36 dX7_change_329 ?_
                            refine lv_iload F.1 F.2.1 dX7_change_332 (lv_at hl 1 rfl) ?_
                            refine lv_dup2_11 F.1 F.2.1 dX7_change_334 rfl rfl ?_
                            have hx335 : 0 ≤ k ∧ k < ((41 : Nat) : Int) ∧ k ≤ 2147483647 := ⟨by omega, by omega, by omega⟩
                            refine g_iald F hH r_62b hx335.1 hx335.2.1 hx335.2.2 dX7_change_335 ?_
                            refine z_name (fun v_63 ev_63 => ?_)
                            have zv_63 : zr v_63 := by rw [ev_63]; exact zr_t _
                            refine lv_iload F.1 F.2.1 dX7_change_336 (lv_at hl 9 rfl) ?_
                            refine z_iadd F dX7_change_338 ?_
                            refine z_norm (fun v_64 zv_64 ev_64 => ?_)
                            have hx339 : 0 ≤ k ∧ k < ((41 : Nat) : Int) ∧ k ≤ 2147483647 := ⟨by omega, by omega, by omega⟩
                            refine g_iast F hH hS r_62b hx339.1 hx339.2.1 hx339.2.2 dX7_change_339 (fun H locs hH hS => ?_)
                            obtain ⟨AI_65, eAI_65⟩ : ∃ qQ, qQ = gup2 AI_55 (gh 63 0) (k).toNat (iI (v_64)) := ⟨_, rfl⟩
                            rw [← eAI_65] at hH
                            have kAI_65 : ∀ b, b ≠ (gh 63 0) → AI_65 b = AI_55 b := fun b hb => by rw [eAI_65]; exact funext fun j => gup2_a _ _ hb
                            have hvO := hv
                            have t_66 : AI_65 (gh 50 0) = AI_55 (gh 50 0) := mK hv hm (p := (0, 640)) (q := (13, 41)) (by decide) (by decide) (by decide) kAI_65
                            have hv : mInv g gh R I_1 AI_65 := mInv_b hv hm (q := (13, 41)) (by decide) (by decide) h63 kAI_65
                            have hT : AI_65 (gh 50 0) = T := t_66.trans hT
                            have t7 : AI_65 (gh 61 0) = AI_55 (gh 61 0) := mK hvO hm (p := (11, 41)) (q := (13, 41)) (by decide) (by decide) (by decide) kAI_65
                            have v7 : AI_65 (gh 62 0) = AI_55 (gh 62 0) := mK hvO hm (p := (12, 164)) (q := (13, 41)) (by decide) (by decide) (by decide) kAI_65
                            have qs : iI ((AI (gh 63 0) k.toNat).toInt + n) = iI v_64 := by rw [ev_64, ev_63, h63e]
                            have cC : ∀ j : Nat, j ≠ k.toNat → AI_65 (gh 63 0) j = AI (gh 63 0) j := fun j hj => by rw [eAI_65, gup2_k _ _ hj, h63e]
                            have cCb : AI_65 (gh 63 0) k.toNat = iI v_64 := by rw [eAI_65, gup2_s]
                            have cT : AI_65 (gh 61 0) = AI (gh 61 0) := t7.trans h61e
                            have cV : AI_65 (gh 62 0) = AI (gh 62 0) := v7.trans h62e
                            have fAX : ∀ b, b ≠ gh 61 0 → b ≠ gh 62 0 → b ≠ gh 63 0 → b ≠ gh 77 0 → AI_65 b = AI b := fun b h61 h62 h63 h77 => (kAI_65 b h63).trans (fAX b h61 h62 h63 h77)
                            refine lv_aload_n F.1 F.2.1 dX7_change_340 rfl (lv_at hl 3 rfl) ?_
                            refine g_getR (ci := 7) (k := 13) F hH rfl (by decide) iX7 hm (by decide) rfl (b := gh 63 0) r_62a k36 dX7_change_341 ?_
                            refine lv_iload F.1 F.2.1 dX7_change_344 (lv_at hl 1 rfl) ?_
                            have hx346 : 0 ≤ k ∧ k < ((41 : Nat) : Int) ∧ k ≤ 2147483647 := ⟨by omega, by omega, by omega⟩
                            refine g_iald F hH r_62b hx346.1 hx346.2.1 hx346.2.2 dX7_change_346 ?_
                            refine z_name (fun v_67 ev_67 => ?_)
                            have zv_67 : zr v_67 := by rw [ev_67]; exact zr_t _
                            have q346 : v_67 = v_64 := by rw [ev_67, cCb]; exact iI_val zv_64
                            refine z_if_eq (tgt := 355) F dX7_change_347 (by decide) zv_67 (fun c_68 => ?_) (fun c_68 => ?_)
                            · obtain ⟨C1, eC1⟩ : ∃ f, f = AI_65 (gh 63 0) := ⟨_, rfl⟩
                              have hcc : ∀ j : Nat, j ≠ k.toNat → C1 j = AI (gh 63 0) j := by rw [eC1]; exact cC
                              refine lv_aload_n F.1 F.2.1 dX7_change_355 rfl (lv_at hl 3 rfl) ?_
                              refine lv_dup F.1 F.2.1 dX7_change_356 rfl ?_
                              refine g_getI (ci := 7) (k := 14) F hH rfl (by decide) iX7 hm (by decide) rfl k266 dX7_change_357 ?_
                              refine z_iconst F dX7_change_360 ?_
                              refine z_isub F dX7_change_361 ?_
                              refine g_putI (ci := 7) (k := 14) F hH hS rfl (by decide) iX7 hm (by decide) tyX7 tyX7_ok nmX7 rfl rfl rfl k266 dX7_change_362 (fun H locs hH hS => ?_)
                              obtain ⟨I_69, eI_69⟩ : ∃ qQ, qQ = gup2 I_1 mo 14 (iI (((I_1 mo 14).toInt) - 1)) := ⟨_, rfl⟩
                              rw [← eI_69] at hH
                              have kI_69 : ∀ b, b ≠ mo → I_69 b = I_1 b := fun b hb => by rw [eI_69]; exact funext fun j => gup2_a _ _ hb
                              have w_70 : (I_69 mo 14).toInt = ((I_1 mo 14).toInt) - 1 := by rw [eI_69, gup2_s]; exact iI_val ⟨by omega, by omega⟩
                              have hv : mInv g gh R I_69 AI_65 := by rw [eI_69]; exact mP14 hv hm (by omega) (by omega)
                              have mf : mF mo I I_69 := mF_t mf (by rw [eI_69]; exact mF_p (by decide))
                              have u_71_2 : (I_69 mo 2).toInt = (I mo 2).toInt := by rw [mf 2 (by decide) (by decide) (by decide) (by decide) (by decide) (by decide)]
                              have u_71_5 : (I_69 mo 5).toInt = (I mo 5).toInt := by rw [mf 5 (by decide) (by decide) (by decide) (by decide) (by decide) (by decide)]
                              have u_71_16 : (I_69 mo 16).toInt = (I mo 16).toInt := by rw [mf 16 (by decide) (by decide) (by decide) (by decide) (by decide) (by decide)]
                              have u_71_24 : (I_69 mo 24).toInt = (I mo 24).toInt := by rw [mf 24 (by decide) (by decide) (by decide) (by decide) (by decide) (by decide)]
                              have i8 : I_69 mo 8 = I mo 8 := (show I_69 mo 8 = I_1 mo 8 by rw [eI_69, gup2_k _ _ (by decide)]).trans i8
                              have i9 : I_69 mo 9 = I mo 9 := (show I_69 mo 9 = I_1 mo 9 by rw [eI_69, gup2_k _ _ (by decide)]).trans i9
                              have i10 : I_69 mo 10 = I mo 10 := (show I_69 mo 10 = I_1 mo 10 by rw [eI_69, gup2_k _ _ (by decide)]).trans i10
                              refine lv_iload F.1 F.2.1 dX7_change_365 (lv_at hl 1 rfl) ?_
                              refine lv_istore (lv' := [(10, .int (iI k)), (9, .int (iI is)), (8, .int (iI k)), (7, .int (iI v_43)), (0, .ref mo), (1, .int (iI tb)), (2, .int (iI a1)), (3, .int (iI b1)), (4, .int (iI c1)), (5, .int (iI d1)), (6, .int (iI n))]) F.1 F.2.1 dX7_change_367 hl (by decide) rfl (fun ls hl => ?_)
                              have cut_369_72 : ∀ (NN : Nat) (i : Int) (AI_72 : gI) (H : Heap) (locs : List Loc) (ls : Array Slot), zr i → (mInv g gh R I_69 AI_72) → (AI_72 (gh 50 0) = T) → (0 ≤ i ∧ i ≤ 40) → (shD (AI (gh 61 0)) (AI (gh 62 0)) C1 (AI_72 (gh 61 0)) (AI_72 (gh 62 0)) (AI_72 (gh 63 0)) k i) → (k ≤ i ∧ i ≤ (I mo 14).toInt - 1) → (∀ b, b ≠ gh 61 0 → b ≠ gh 62 0 → b ≠ gh 63 0 → b ≠ gh 77 0 → AI_72 b = AI b) → (40 - i) < ((NN : Nat) : Int) → gH g I_69 R J AI_72 AJ AR H → va_S (gA g) s.heap H locs → lv_has ls 11 [(10, .int (iI i)), (9, .int (iI is)), (8, .int (iI k)), (7, .int (iI v_43)), (0, .ref mo), (1, .int (iI tb)), (2, .int (iI a1)), (3, .int (iI b1)), (4, .int (iI c1)), (5, .int (iI d1)), (6, .int (iI n))] → W p l e rmX7_changeg s m ([.ref mo, .int (iI tb), .int (iI a1), .int (iI b1), .int (iI c1), .int (iI d1), .int (iI n)] : List Value).toArray below meth c H locs 0 0 (MQ below (gQi g (fun (z : Int) (w : gS) => R = w.2.1 ∧ J = w.2.2.1 ∧ AJ = w.2.2.2.2.1 ∧ AR = w.2.2.2.2.2 ∧ (mInv g gh R (w.1) (w.2.2.2.1)) ∧ ((w.2.2.2.1) (gh 50 0) = T) ∧ (mF mo I (w.1)) ∧ (chR (I mo 2).toInt (tI T (40 * tb)) tb n z (I mo 14).toInt ((w.1) mo 14).toInt (AI (gh 61 0)) (AI (gh 62 0)) (AI (gh 63 0)) ((w.2.2.2.1) (gh 61 0)) ((w.2.2.2.1) (gh 62 0)) ((w.2.2.2.1) (gh 63 0)) (cky tb a1 b1 c1 d1 (tI T (40 * tb + 1)))) ∧ ((w.1) mo 8 = I mo 8 ∧ (w.1) mo 9 = I mo 9 ∧ (w.1) mo 10 = I mo 10) ∧ (∀ b, b ≠ gh 61 0 → b ≠ gh 62 0 → b ≠ gh 63 0 → b ≠ gh 77 0 → (w.2.2.2.1) b = AI b))) ([.ref mo, .int (iI tb), .int (iI a1), .int (iI b1), .int (iI c1), .int (iI d1), .int (iI n)] : List Value).toArray s 0 0 (gA g)) (F0 m 369 ls []) := by
                                intro NN369
                                induction NN369 with
                                | zero =>
                                  intro i AI_72 H locs ls zi hv hT hi3 hsd hi4 fAX hm369 hH hS hl
                                  exact absurd hm369 (by omega)
                                | succ NN369 ih369 =>
                                  intro i AI_72 H locs ls zi hv hT hi3 hsd hi4 fAX hm369 hH hS hl
                                  refine lv_iload F.1 F.2.1 dX7_change_369 (lv_at hl 0 rfl) ?_
                                  refine lv_aload_n F.1 F.2.1 dX7_change_371 rfl (lv_at hl 4 rfl) ?_
                                  refine g_getI (ci := 7) (k := 14) F hH rfl (by decide) iX7 hm (by decide) rfl k266 dX7_change_372 ?_
                                  have b_74 := mJ hv hm
                                  unfold mNum1 at b_74
                                  refine z_icmp_ge (tgt := 394) F dX7_change_375 (by decide) zi (zr_t _) (fun c_75 => ?_) (fun c_75 => ?_)
                                  · refine lv_aload_n F.1 F.2.1 dX7_change_394 rfl (lv_at hl 4 rfl) ?_
                                    refine g_getI (ci := 7) (k := 14) F hH rfl (by decide) iX7 hm (by decide) rfl k266 dX7_change_395 ?_
                                    exact g_iret F hr hlk hH hS hz (zr_t _) ⟨rfl, rfl, rfl, rfl, hv, hT, mf, Or.inr ⟨⟨by omega, by omega, by omega, by omega, by omega, by omega⟩, ⟨k.toNat, by omega, fun i hi => hlt i (by omega), Or.inr (Or.inl ⟨by omega, (his2.resolve_right (fun h => by omega)).2, by rw [qs, show v_64 = 0 by omega]; rfl, by (try dsimp only); omega, by (try dsimp only); omega, rem_m (by rw [show (I mo 14).toInt - 1 = i by omega]; exact hsd) (by omega) hcc⟩)⟩⟩, ⟨by (try dsimp only); exact i8, by (try dsimp only); exact i9, by (try dsimp only); exact i10⟩, fAX⟩ dX7_change_398
                                  · refine lv_aload_n F.1 F.2.1 dX7_change_378 rfl (lv_at hl 4 rfl) ?_
                                    refine lv_iload F.1 F.2.1 dX7_change_379 (lv_at hl 0 rfl) ?_
                                    refine z_iconst F dX7_change_381 ?_
                                    refine z_iadd F dX7_change_382 ?_
                                    refine lv_iload F.1 F.2.1 dX7_change_383 (lv_at hl 0 rfl) ?_
                                    refine g_callv (g_runV (As := [.int (iI (i + 1)), .int (iI i)]) (rest := []) (ci := 7) F hl.1 hH hS hz (c_X7_movesf l g gh T I_69 R J AI_72 AJ AR mo (i + 1) i ⟨by omega, by omega⟩ zi hv hm hT (by omega) h61 h62 h63) (cwV 2 F.2.2.2.2.1 (good_up gT_X7_moves) rfl rfl rfl hdX7_moves ⟨Nat.le_of_ble_eq_true rfl, Nat.le_of_ble_eq_true rfl⟩) hm (by decide) rfl rfl rfl (Nat.le_of_ble_eq_true rfl) dX7_change_385 ⟨Nat.zero_le _, Nat.zero_le _⟩) hS (fun I_76 R_77 J_78 AI_79 AJ_80 AR_81 H locs hp_82 hH hS => ?_)
                                    dsimp only at hp_82
                                    obtain ⟨rfl, rfl, rfl, rfl, rfl, hv, hT, qmv, qmz⟩ := hp_82
                                    have fAX : ∀ b, b ≠ gh 61 0 → b ≠ gh 62 0 → b ≠ gh 63 0 → b ≠ gh 77 0 → AI_79 b = AI b := fun b h61 h62 h63 h77 => (qmz b h61 h62 h63).trans (fAX b h61 h62 h63 h77)
                                    have hsd := shD_s hsd qmv (by omega) (by omega)
                                    refine z_iinc (lv' := [(10, .int (iI (i + 1))), (9, .int (iI is)), (8, .int (iI k)), (7, .int (iI v_43)), (0, .ref mo), (1, .int (iI tb)), (2, .int (iI a1)), (3, .int (iI b1)), (4, .int (iI c1)), (5, .int (iI d1)), (6, .int (iI n))]) F dX7_change_388 hl (k := 0) rfl (by decide) rfl (fun ls hl => ?_)
                                    refine z_goto (tgt := 369) F dX7_change_391 (by decide) ?_
                                    exact ih369 (i + 1) AI_79 H locs ls ⟨by omega, by omega⟩ hv hT (by omega) hsd (by omega) fAX (by omega) hH hS (lv_sub hl [0, 1, 2, 3, 4, 5, 6, 7, 8, 9, 10] rfl)
                              exact cut_369_72 (((40 - k) + 1 : Int).toNat) k AI_65 H locs ls zk hv hT (by omega) (by rw [cT, cV, ← eC1]; exact shD_0) (by omega) fAX (by omega) hH hS (lv_sub hl [0, 1, 2, 3, 4, 5, 6, 7, 8, 9, 10] rfl)
                            · refine lv_aload_n F.1 F.2.1 dX7_change_350 rfl (lv_at hl 3 rfl) ?_
                              refine g_getI (ci := 7) (k := 14) F hH rfl (by decide) iX7 hm (by decide) rfl k266 dX7_change_351 ?_
                              exact g_iret F hr hlk hH hS hz (zr_t _) ⟨rfl, rfl, rfl, rfl, hv, hT, mf, Or.inr ⟨⟨by omega, by omega, by omega, by omega, by omega, by omega⟩, ⟨k.toNat, by omega, fun i hi => hlt i (by omega), Or.inl ⟨by omega, (his2.resolve_right (fun h => by omega)).2, fun h => absurd ((iI_eq zv_64 zr_0).mp (qs.symm.trans h)) (by omega), by omega, by (try dsimp only); omega, cT, cV, cC, cCb.trans qs.symm⟩⟩⟩, ⟨by (try dsimp only); exact i8, by (try dsimp only); exact i9, by (try dsimp only); exact i10⟩, fAX⟩ dX7_change_354
                          · exact absurd trivial (by omega)
                        · refine lv_aload_n F.1 F.2.1 dX7_change_217 rfl (lv_at hl 3 rfl) ?_
                          refine g_getI (ci := 7) (k := 14) F hH rfl (by decide) iX7 hm (by decide) rfl k266 dX7_change_218 ?_
                          refine z_bipush F dX7_change_221 (by decide) ?_
                          refine z_icmp_ne (tgt := 228) F dX7_change_223 (by decide) (zr_t _) ⟨by decide, by decide⟩ (fun c_83 => ?_) (fun c_83 => ?_)
                          · refine lv_iload F.1 F.2.1 dX7_change_228 (lv_at hl 0 rfl) ?_
                            refine z_if_ne (tgt := 328) F dX7_change_230 (by decide) zis (fun c_84 => ?_) (fun c_84 => ?_)
                            · exact absurd trivial (by omega)
                            · refine lv_aload_n F.1 F.2.1 dX7_change_233 rfl (lv_at hl 3 rfl) ?_
                              refine g_getI (ci := 7) (k := 14) F hH rfl (by decide) iX7 hm (by decide) rfl k266 dX7_change_234 ?_
                              refine lv_istore (lv' := [(10, .int (iI ((I_1 mo 14).toInt))), (9, .int (iI is)), (8, .int (iI k)), (7, .int (iI v_43)), (0, .ref mo), (1, .int (iI tb)), (2, .int (iI a1)), (3, .int (iI b1)), (4, .int (iI c1)), (5, .int (iI d1)), (6, .int (iI n))]) F.1 F.2.1 dX7_change_237 hl (by decide) rfl (fun ls hl => ?_)
                              have cut_239_85 : ∀ (NN : Nat) (i : Int) (AI_85 : gI) (H : Heap) (locs : List Loc) (ls : Array Slot), zr i → (mInv g gh R I_1 AI_85) → (AI_85 (gh 50 0) = T) → (k ≤ i ∧ i ≤ (I_1 mo 14).toInt) → (shU (AI (gh 61 0)) (AI (gh 62 0)) (AI (gh 63 0)) (AI_85 (gh 61 0)) (AI_85 (gh 62 0)) (AI_85 (gh 63 0)) (I mo 14).toInt i) → (∀ t : Nat, t < 4 → (AI_85 (gh 77 0) t).toInt = (cky tb a1 b1 c1 d1 (tI T (40 * tb + 1))) (t + 1)) → (∀ b, b ≠ gh 61 0 → b ≠ gh 62 0 → b ≠ gh 63 0 → b ≠ gh 77 0 → AI_85 b = AI b) → i < ((NN : Nat) : Int) → gH g I_1 R J AI_85 AJ AR H → va_S (gA g) s.heap H locs → lv_has ls 11 [(10, .int (iI i)), (9, .int (iI is)), (8, .int (iI k)), (7, .int (iI v_43)), (0, .ref mo), (1, .int (iI tb)), (2, .int (iI a1)), (3, .int (iI b1)), (4, .int (iI c1)), (5, .int (iI d1)), (6, .int (iI n))] → W p l e rmX7_changeg s m ([.ref mo, .int (iI tb), .int (iI a1), .int (iI b1), .int (iI c1), .int (iI d1), .int (iI n)] : List Value).toArray below meth c H locs 0 0 (MQ below (gQi g (fun (z : Int) (w : gS) => R = w.2.1 ∧ J = w.2.2.1 ∧ AJ = w.2.2.2.2.1 ∧ AR = w.2.2.2.2.2 ∧ (mInv g gh R (w.1) (w.2.2.2.1)) ∧ ((w.2.2.2.1) (gh 50 0) = T) ∧ (mF mo I (w.1)) ∧ (chR (I mo 2).toInt (tI T (40 * tb)) tb n z (I mo 14).toInt ((w.1) mo 14).toInt (AI (gh 61 0)) (AI (gh 62 0)) (AI (gh 63 0)) ((w.2.2.2.1) (gh 61 0)) ((w.2.2.2.1) (gh 62 0)) ((w.2.2.2.1) (gh 63 0)) (cky tb a1 b1 c1 d1 (tI T (40 * tb + 1)))) ∧ ((w.1) mo 8 = I mo 8 ∧ (w.1) mo 9 = I mo 9 ∧ (w.1) mo 10 = I mo 10) ∧ (∀ b, b ≠ gh 61 0 → b ≠ gh 62 0 → b ≠ gh 63 0 → b ≠ gh 77 0 → (w.2.2.2.1) b = AI b))) ([.ref mo, .int (iI tb), .int (iI a1), .int (iI b1), .int (iI c1), .int (iI d1), .int (iI n)] : List Value).toArray s 0 0 (gA g)) (F0 m 239 ls []) := by
                                intro NN239
                                induction NN239 with
                                | zero =>
                                  intro i AI_85 H locs ls zi hv hT hi hsu htu fAX hm239 hH hS hl
                                  exact absurd hm239 (by omega)
                                | succ NN239 ih239 =>
                                  intro i AI_85 H locs ls zi hv hT hi hsu htu fAX hm239 hH hS hl
                                  refine lv_iload F.1 F.2.1 dX7_change_239 (lv_at hl 0 rfl) ?_
                                  refine lv_iload F.1 F.2.1 dX7_change_241 (lv_at hl 2 rfl) ?_
                                  refine z_icmp_le (tgt := 262) F dX7_change_243 (by decide) zi zk (fun c_87 => ?_) (fun c_87 => ?_)
                                  · obtain ⟨T1, eT1⟩ : ∃ f, f = AI_85 (gh 61 0) := ⟨_, rfl⟩
                                    obtain ⟨V1, eV1⟩ : ∃ f, f = AI_85 (gh 62 0) := ⟨_, rfl⟩
                                    obtain ⟨C1, eC1⟩ : ∃ f, f = AI_85 (gh 63 0) := ⟨_, rfl⟩
                                    rw [← eT1, ← eV1, ← eC1, show i = k by omega] at hsu
                                    refine lv_aload_n F.1 F.2.1 dX7_change_262 rfl (lv_at hl 4 rfl) ?_
                                    refine lv_dup F.1 F.2.1 dX7_change_263 rfl ?_
                                    refine g_getI (ci := 7) (k := 14) F hH rfl (by decide) iX7 hm (by decide) rfl k266 dX7_change_264 ?_
                                    refine z_iconst F dX7_change_267 ?_
                                    refine z_iadd F dX7_change_268 ?_
                                    refine g_putI (ci := 7) (k := 14) F hH hS rfl (by decide) iX7 hm (by decide) tyX7 tyX7_ok nmX7 rfl rfl rfl k266 dX7_change_269 (fun H locs hH hS => ?_)
                                    obtain ⟨I_88, eI_88⟩ : ∃ qQ, qQ = gup2 I_1 mo 14 (iI (((I_1 mo 14).toInt) + 1)) := ⟨_, rfl⟩
                                    rw [← eI_88] at hH
                                    have kI_88 : ∀ b, b ≠ mo → I_88 b = I_1 b := fun b hb => by rw [eI_88]; exact funext fun j => gup2_a _ _ hb
                                    have w_89 : (I_88 mo 14).toInt = ((I_1 mo 14).toInt) + 1 := by rw [eI_88, gup2_s]; exact iI_val ⟨by omega, by omega⟩
                                    have hv : mInv g gh R I_88 AI_85 := by rw [eI_88]; exact mP14 hv hm (by omega) (by omega)
                                    have mf : mF mo I I_88 := mF_t mf (by rw [eI_88]; exact mF_p (by decide))
                                    have u_90_2 : (I_88 mo 2).toInt = (I mo 2).toInt := by rw [mf 2 (by decide) (by decide) (by decide) (by decide) (by decide) (by decide)]
                                    have u_90_5 : (I_88 mo 5).toInt = (I mo 5).toInt := by rw [mf 5 (by decide) (by decide) (by decide) (by decide) (by decide) (by decide)]
                                    have u_90_16 : (I_88 mo 16).toInt = (I mo 16).toInt := by rw [mf 16 (by decide) (by decide) (by decide) (by decide) (by decide) (by decide)]
                                    have u_90_24 : (I_88 mo 24).toInt = (I mo 24).toInt := by rw [mf 24 (by decide) (by decide) (by decide) (by decide) (by decide) (by decide)]
                                    have i8 : I_88 mo 8 = I mo 8 := (show I_88 mo 8 = I_1 mo 8 by rw [eI_88, gup2_k _ _ (by decide)]).trans i8
                                    have i9 : I_88 mo 9 = I mo 9 := (show I_88 mo 9 = I_1 mo 9 by rw [eI_88, gup2_k _ _ (by decide)]).trans i9
                                    have i10 : I_88 mo 10 = I mo 10 := (show I_88 mo 10 = I_1 mo 10 by rw [eI_88, gup2_k _ _ (by decide)]).trans i10
                                    refine lv_aload_n F.1 F.2.1 dX7_change_272 rfl (lv_at hl 4 rfl) ?_
                                    obtain ⟨r_91a, r_91b⟩ : R mo 11 = some (gh 61 0) ∧ gAr g (gh 61 0) 9 41 := mR hv hm (q := (11, 41)) (by decide)
                                    refine g_getR (ci := 7) (k := 11) F hH rfl (by decide) iX7 hm (by decide) rfl (b := gh 61 0) r_91a k30 dX7_change_273 ?_
                                    refine lv_iload F.1 F.2.1 dX7_change_276 (lv_at hl 2 rfl) ?_
                                    refine lv_iload_n F.1 F.2.1 dX7_change_278 rfl (lv_at hl 5 rfl) ?_
                                    have hx279 : 0 ≤ k ∧ k < ((41 : Nat) : Int) ∧ k ≤ 2147483647 := ⟨by omega, by omega, by omega⟩
                                    refine g_iast F hH hS r_91b hx279.1 hx279.2.1 hx279.2.2 dX7_change_279 (fun H locs hH hS => ?_)
                                    obtain ⟨AI_92, eAI_92⟩ : ∃ qQ, qQ = gup2 AI_85 (gh 61 0) (k).toNat (iI (tb)) := ⟨_, rfl⟩
                                    rw [← eAI_92] at hH
                                    have kAI_92 : ∀ b, b ≠ (gh 61 0) → AI_92 b = AI_85 b := fun b hb => by rw [eAI_92]; exact funext fun j => gup2_a _ _ hb
                                    have hvO := hv
                                    have t_93 : AI_92 (gh 50 0) = AI_85 (gh 50 0) := mK hv hm (p := (0, 640)) (q := (11, 41)) (by decide) (by decide) (by decide) kAI_92
                                    have hv : mInv g gh R I_88 AI_92 := mInv_ct1 hv hm h61 eAI_92 (by omega) (by omega)
                                    have hT : AI_92 (gh 50 0) = T := t_93.trans hT
                                    have v9 : AI_92 (gh 62 0) = AI_85 (gh 62 0) := mK hvO hm (p := (12, 164)) (q := (11, 41)) (by decide) (by decide) (by decide) kAI_92
                                    have c9 : AI_92 (gh 63 0) = AI_85 (gh 63 0) := mK hvO hm (p := (13, 41)) (q := (11, 41)) (by decide) (by decide) (by decide) kAI_92
                                    have u9 : AI_92 (gh 77 0) = AI_85 (gh 77 0) := mK hvO hm (p := (27, 4)) (q := (11, 41)) (by decide) (by decide) (by decide) kAI_92
                                    have eT : (∀ j : Nat, j ≠ k.toNat → AI_92 (gh 61 0) j = T1 j) ∧ AI_92 (gh 61 0) k.toNat = iI tb := ⟨fun j hj => by rw [eAI_92, gup2_k _ _ hj, eT1], by rw [eAI_92, gup2_s]⟩
                                    have eC : AI_92 (gh 63 0) = C1 := by rw [c9, eC1]
                                    have eV : (∀ j : Nat, (j : Int) < 4 * k ∨ 4 * k + 0 ≤ (j : Int) → AI_92 (gh 62 0) j = V1 j) ∧ ∀ t : Nat, (t : Int) < 0 → (AI_92 (gh 62 0) ((4 * k).toNat + t)).toInt = (cky tb a1 b1 c1 d1 (tI T (40 * tb + 1))) (t + 1) := ⟨fun j _ => by rw [v9, eV1], fun t ht => absurd ht (by omega)⟩
                                    have htu : ∀ t : Nat, t < 4 → (AI_92 (gh 77 0) t).toInt = (cky tb a1 b1 c1 d1 (tI T (40 * tb + 1))) (t + 1) := by rw [u9]; exact htu
                                    have fAX : ∀ b, b ≠ gh 61 0 → b ≠ gh 62 0 → b ≠ gh 63 0 → b ≠ gh 77 0 → AI_92 b = AI b := fun b h61 h62 h63 h77 => (kAI_92 b h61).trans (fAX b h61 h62 h63 h77)
                                    refine z_iconst F dX7_change_280 ?_
                                    refine lv_istore (lv' := [(10, .int (iI 0)), (9, .int (iI is)), (8, .int (iI k)), (7, .int (iI v_43)), (0, .ref mo), (1, .int (iI tb)), (2, .int (iI a1)), (3, .int (iI b1)), (4, .int (iI c1)), (5, .int (iI d1)), (6, .int (iI n))]) F.1 F.2.1 dX7_change_281 hl (by decide) rfl (fun ls hl => ?_)
                                    have cut_283_94 : ∀ (NN : Nat) (i : Int) (AI_94 : gI) (H : Heap) (locs : List Loc) (ls : Array Slot), zr i → (mInv g gh R I_88 AI_94) → (AI_94 (gh 50 0) = T) → (0 ≤ i ∧ i ≤ 4) → ((∀ j : Nat, j ≠ k.toNat → AI_94 (gh 61 0) j = T1 j) ∧ AI_94 (gh 61 0) k.toNat = iI tb) → (AI_94 (gh 63 0) = C1) → ((∀ j : Nat, (j : Int) < 4 * k ∨ 4 * k + i ≤ (j : Int) → AI_94 (gh 62 0) j = V1 j) ∧ ∀ t : Nat, (t : Int) < i → (AI_94 (gh 62 0) ((4 * k).toNat + t)).toInt = (cky tb a1 b1 c1 d1 (tI T (40 * tb + 1))) (t + 1)) → (∀ t : Nat, t < 4 → (AI_94 (gh 77 0) t).toInt = (cky tb a1 b1 c1 d1 (tI T (40 * tb + 1))) (t + 1)) → (∀ b, b ≠ gh 61 0 → b ≠ gh 62 0 → b ≠ gh 63 0 → b ≠ gh 77 0 → AI_94 b = AI b) → (4 - i) < ((NN : Nat) : Int) → gH g I_88 R J AI_94 AJ AR H → va_S (gA g) s.heap H locs → lv_has ls 11 [(10, .int (iI i)), (9, .int (iI is)), (8, .int (iI k)), (7, .int (iI v_43)), (0, .ref mo), (1, .int (iI tb)), (2, .int (iI a1)), (3, .int (iI b1)), (4, .int (iI c1)), (5, .int (iI d1)), (6, .int (iI n))] → W p l e rmX7_changeg s m ([.ref mo, .int (iI tb), .int (iI a1), .int (iI b1), .int (iI c1), .int (iI d1), .int (iI n)] : List Value).toArray below meth c H locs 0 0 (MQ below (gQi g (fun (z : Int) (w : gS) => R = w.2.1 ∧ J = w.2.2.1 ∧ AJ = w.2.2.2.2.1 ∧ AR = w.2.2.2.2.2 ∧ (mInv g gh R (w.1) (w.2.2.2.1)) ∧ ((w.2.2.2.1) (gh 50 0) = T) ∧ (mF mo I (w.1)) ∧ (chR (I mo 2).toInt (tI T (40 * tb)) tb n z (I mo 14).toInt ((w.1) mo 14).toInt (AI (gh 61 0)) (AI (gh 62 0)) (AI (gh 63 0)) ((w.2.2.2.1) (gh 61 0)) ((w.2.2.2.1) (gh 62 0)) ((w.2.2.2.1) (gh 63 0)) (cky tb a1 b1 c1 d1 (tI T (40 * tb + 1)))) ∧ ((w.1) mo 8 = I mo 8 ∧ (w.1) mo 9 = I mo 9 ∧ (w.1) mo 10 = I mo 10) ∧ (∀ b, b ≠ gh 61 0 → b ≠ gh 62 0 → b ≠ gh 63 0 → b ≠ gh 77 0 → (w.2.2.2.1) b = AI b))) ([.ref mo, .int (iI tb), .int (iI a1), .int (iI b1), .int (iI c1), .int (iI d1), .int (iI n)] : List Value).toArray s 0 0 (gA g)) (F0 m 283 ls []) := by
                                      intro NN283
                                      induction NN283 with
                                      | zero =>
                                        intro i AI_94 H locs ls zi hv hT hi2 eT eC eV htu fAX hm283 hH hS hl
                                        exact absurd hm283 (by omega)
                                      | succ NN283 ih283 =>
                                        intro i AI_94 H locs ls zi hv hT hi2 eT eC eV htu fAX hm283 hH hS hl
                                        refine lv_iload F.1 F.2.1 dX7_change_283 (lv_at hl 0 rfl) ?_
                                        refine z_iconst F dX7_change_285 ?_
                                        refine z_icmp_ge (tgt := 314) F dX7_change_286 (by decide) zi ⟨by decide, by decide⟩ (fun c_96 => ?_) (fun c_96 => ?_)
                                        · refine lv_aload_n F.1 F.2.1 dX7_change_314 rfl (lv_at hl 4 rfl) ?_
                                          obtain ⟨r_97a, r_97b⟩ : R mo 13 = some (gh 63 0) ∧ gAr g (gh 63 0) 9 41 := mR hv hm (q := (13, 41)) (by decide)
                                          refine g_getR (ci := 7) (k := 13) F hH rfl (by decide) iX7 hm (by decide) rfl (b := gh 63 0) r_97a k36 dX7_change_315 ?_
                                          refine lv_iload F.1 F.2.1 dX7_change_318 (lv_at hl 2 rfl) ?_
                                          refine lv_iload F.1 F.2.1 dX7_change_320 (lv_at hl 10 rfl) ?_
                                          have hx322 : 0 ≤ k ∧ k < ((41 : Nat) : Int) ∧ k ≤ 2147483647 := ⟨by omega, by omega, by omega⟩
                                          refine g_iast F hH hS r_97b hx322.1 hx322.2.1 hx322.2.2 dX7_change_322 (fun H locs hH hS => ?_)
                                          obtain ⟨AI_98, eAI_98⟩ : ∃ qQ, qQ = gup2 AI_94 (gh 63 0) (k).toNat (iI (n)) := ⟨_, rfl⟩
                                          rw [← eAI_98] at hH
                                          have kAI_98 : ∀ b, b ≠ (gh 63 0) → AI_98 b = AI_94 b := fun b hb => by rw [eAI_98]; exact funext fun j => gup2_a _ _ hb
                                          have hvO := hv
                                          have t_99 : AI_98 (gh 50 0) = AI_94 (gh 50 0) := mK hv hm (p := (0, 640)) (q := (13, 41)) (by decide) (by decide) (by decide) kAI_98
                                          have hv : mInv g gh R I_88 AI_98 := mInv_b hv hm (q := (13, 41)) (by decide) (by decide) h63 kAI_98
                                          have hT : AI_98 (gh 50 0) = T := t_99.trans hT
                                          have t8 : AI_98 (gh 61 0) = AI_94 (gh 61 0) := mK hvO hm (p := (11, 41)) (q := (13, 41)) (by decide) (by decide) (by decide) kAI_98
                                          have v8 : AI_98 (gh 62 0) = AI_94 (gh 62 0) := mK hvO hm (p := (12, 164)) (q := (13, 41)) (by decide) (by decide) (by decide) kAI_98
                                          have hin : insM (AI (gh 61 0)) (AI (gh 62 0)) (AI (gh 63 0)) (AI_98 (gh 61 0)) (AI_98 (gh 62 0)) (AI_98 (gh 63 0)) k.toNat (I mo 14).toInt n (cky tb a1 b1 c1 d1 (tI T (40 * tb + 1))) := ins_m hsu (by omega) (by rw [t8]; exact eT.1) (by rw [t8]; exact eT.2) ztb (fun j hj => by rw [v8]; exact eV.1 j (by omega)) (fun t ht => by rw [v8]; exact eV.2 t (by omega)) (fun j hj => by rw [eAI_98, gup2_k _ _ hj, eC]) (by rw [eAI_98, gup2_s]) rfl
                                          have fAX : ∀ b, b ≠ gh 61 0 → b ≠ gh 62 0 → b ≠ gh 63 0 → b ≠ gh 77 0 → AI_98 b = AI b := fun b h61 h62 h63 h77 => (kAI_98 b h63).trans (fAX b h61 h62 h63 h77)
                                          refine lv_aload_n F.1 F.2.1 dX7_change_323 rfl (lv_at hl 4 rfl) ?_
                                          refine g_getI (ci := 7) (k := 14) F hH rfl (by decide) iX7 hm (by decide) rfl k266 dX7_change_324 ?_
                                          have b_100 := mJ hv hm
                                          unfold mNum1 at b_100
                                          exact g_iret F hr hlk hH hS hz (zr_t _) ⟨rfl, rfl, rfl, rfl, hv, hT, mf, Or.inr ⟨⟨by omega, by omega, by omega, by omega, by omega, by omega⟩, ⟨k.toNat, by omega, fun i hi => hlt i (by omega), Or.inr (Or.inr (Or.inr ⟨(fun h => by rcases his2 with h9 | h9; exact absurd h9.1 (by omega); exact h9.2 (by omega)), by omega, by (try dsimp only); omega, by (try dsimp only); omega, hin⟩))⟩⟩, ⟨by (try dsimp only); exact i8, by (try dsimp only); exact i9, by (try dsimp only); exact i10⟩, fAX⟩ dX7_change_327
                                        · refine lv_aload_n F.1 F.2.1 dX7_change_289 rfl (lv_at hl 4 rfl) ?_
                                          obtain ⟨r_101a, r_101b⟩ : R mo 12 = some (gh 62 0) ∧ gAr g (gh 62 0) 9 164 := mR hv hm (q := (12, 164)) (by decide)
                                          refine g_getR (ci := 7) (k := 12) F hH rfl (by decide) iX7 hm (by decide) rfl (b := gh 62 0) r_101a k33 dX7_change_290 ?_
                                          refine z_iconst F dX7_change_293 ?_
                                          refine lv_iload F.1 F.2.1 dX7_change_294 (lv_at hl 2 rfl) ?_
                                          refine z_imul F dX7_change_296 ?_
                                          refine lv_iload F.1 F.2.1 dX7_change_297 (lv_at hl 0 rfl) ?_
                                          refine z_iadd F dX7_change_299 ?_
                                          refine lv_aload_n F.1 F.2.1 dX7_change_300 rfl (lv_at hl 4 rfl) ?_
                                          refine g_getR (ci := 7) (k := 27) F hH rfl (by decide) iX7 hm (by decide) rfl (b := gh 77 0) r_45a k45 dX7_change_301 ?_
                                          refine lv_iload F.1 F.2.1 dX7_change_304 (lv_at hl 0 rfl) ?_
                                          have hx306 : 0 ≤ i ∧ i < ((4 : Nat) : Int) ∧ i ≤ 2147483647 := ⟨by omega, by omega, by omega⟩
                                          refine g_iald F hH r_45b hx306.1 hx306.2.1 hx306.2.2 dX7_change_306 ?_
                                          refine z_name (fun v_102 ev_102 => ?_)
                                          have zv_102 : zr v_102 := by rw [ev_102]; exact zr_t _
                                          have hx307 : 0 ≤ ((4 * k) + i) ∧ ((4 * k) + i) < ((164 : Nat) : Int) ∧ ((4 * k) + i) ≤ 2147483647 := ⟨by omega, by omega, by omega⟩
                                          refine g_iast F hH hS r_101b hx307.1 hx307.2.1 hx307.2.2 dX7_change_307 (fun H locs hH hS => ?_)
                                          obtain ⟨AI_103, eAI_103⟩ : ∃ qQ, qQ = gup2 AI_94 (gh 62 0) (((4 * k) + i)).toNat (iI (v_102)) := ⟨_, rfl⟩
                                          rw [← eAI_103] at hH
                                          have kAI_103 : ∀ b, b ≠ (gh 62 0) → AI_103 b = AI_94 b := fun b hb => by rw [eAI_103]; exact funext fun j => gup2_a _ _ hb
                                          have hvO := hv
                                          have t_104 : AI_103 (gh 50 0) = AI_94 (gh 50 0) := mK hv hm (p := (0, 640)) (q := (12, 164)) (by decide) (by decide) (by decide) kAI_103
                                          have hv : mInv g gh R I_88 AI_103 := mInv_b hv hm (q := (12, 164)) (by decide) (by decide) h62 kAI_103
                                          have hT : AI_103 (gh 50 0) = T := t_104.trans hT
                                          have t9 : AI_103 (gh 61 0) = AI_94 (gh 61 0) := mK hvO hm (p := (11, 41)) (q := (12, 164)) (by decide) (by decide) (by decide) kAI_103
                                          have c9 : AI_103 (gh 63 0) = AI_94 (gh 63 0) := mK hvO hm (p := (13, 41)) (q := (12, 164)) (by decide) (by decide) (by decide) kAI_103
                                          have u9 : AI_103 (gh 77 0) = AI_94 (gh 77 0) := mK hvO hm (p := (27, 4)) (q := (12, 164)) (by decide) (by decide) (by decide) kAI_103
                                          have eT : (∀ j : Nat, j ≠ k.toNat → AI_103 (gh 61 0) j = T1 j) ∧ AI_103 (gh 61 0) k.toNat = iI tb := by rw [t9]; exact eT
                                          have eC : AI_103 (gh 63 0) = C1 := c9.trans eC
                                          have eV : (∀ j : Nat, (j : Int) < 4 * k ∨ 4 * k + (i + 1) ≤ (j : Int) → AI_103 (gh 62 0) j = V1 j) ∧ ∀ t : Nat, (t : Int) < i + 1 → (AI_103 (gh 62 0) ((4 * k).toNat + t)).toInt = (cky tb a1 b1 c1 d1 (tI T (40 * tb + 1))) (t + 1) := ⟨fun j hj => by rw [eAI_103, gup2_k _ _ (by omega)]; exact eV.1 j (by omega), fun t ht => by
                                            by_cases e9 : (t : Int) = i
                                            · rw [eAI_103, gup2_e _ _ (by omega), iI_val zv_102, ev_102, show i.toNat = t by omega]; exact htu t (by omega)
                                            · rw [eAI_103, gup2_k _ _ (by omega)]; exact eV.2 t (by omega)⟩
                                          have htu : ∀ t : Nat, t < 4 → (AI_103 (gh 77 0) t).toInt = (cky tb a1 b1 c1 d1 (tI T (40 * tb + 1))) (t + 1) := by rw [u9]; exact htu
                                          have fAX : ∀ b, b ≠ gh 61 0 → b ≠ gh 62 0 → b ≠ gh 63 0 → b ≠ gh 77 0 → AI_103 b = AI b := fun b h61 h62 h63 h77 => (kAI_103 b h62).trans (fAX b h61 h62 h63 h77)
                                          refine z_iinc (lv' := [(10, .int (iI (i + 1))), (9, .int (iI is)), (8, .int (iI k)), (7, .int (iI v_43)), (0, .ref mo), (1, .int (iI tb)), (2, .int (iI a1)), (3, .int (iI b1)), (4, .int (iI c1)), (5, .int (iI d1)), (6, .int (iI n))]) F dX7_change_308 hl (k := 0) rfl (by decide) rfl (fun ls hl => ?_)
                                          refine z_goto (tgt := 283) F dX7_change_311 (by decide) ?_
                                          exact ih283 (i + 1) AI_103 H locs ls ⟨by omega, by omega⟩ hv hT (by omega) eT eC eV htu fAX (by omega) hH hS (lv_sub hl [0, 1, 2, 3, 4, 5, 6, 7, 8, 9, 10] rfl)
                                    exact cut_283_94 (((4 - 0) + 1 : Int).toNat) 0 AI_92 H locs ls ⟨by decide, by decide⟩ hv hT (by omega) eT eC eV htu fAX (by omega) hH hS (lv_sub hl [0, 1, 2, 3, 4, 5, 6, 7, 8, 9, 10] rfl)
                                  · refine lv_aload_n F.1 F.2.1 dX7_change_246 rfl (lv_at hl 4 rfl) ?_
                                    refine lv_iload F.1 F.2.1 dX7_change_247 (lv_at hl 0 rfl) ?_
                                    refine z_iconst F dX7_change_249 ?_
                                    refine z_isub F dX7_change_250 ?_
                                    refine lv_iload F.1 F.2.1 dX7_change_251 (lv_at hl 0 rfl) ?_
                                    refine g_callv (g_runV (As := [.int (iI (i - 1)), .int (iI i)]) (rest := []) (ci := 7) F hl.1 hH hS hz (c_X7_movesf l g gh T I_1 R J AI_85 AJ AR mo (i - 1) i ⟨by omega, by omega⟩ zi hv hm hT (by omega) h61 h62 h63) (cwV 2 F.2.2.2.2.1 (good_up gT_X7_moves) rfl rfl rfl hdX7_moves ⟨Nat.le_of_ble_eq_true rfl, Nat.le_of_ble_eq_true rfl⟩) hm (by decide) rfl rfl rfl (Nat.le_of_ble_eq_true rfl) dX7_change_253 ⟨Nat.zero_le _, Nat.zero_le _⟩) hS (fun I_105 R_106 J_107 AI_108 AJ_109 AR_110 H locs hp_111 hH hS => ?_)
                                    dsimp only at hp_111
                                    obtain ⟨rfl, rfl, rfl, rfl, rfl, hv, hT, qmv, qmz⟩ := hp_111
                                    have fAX : ∀ b, b ≠ gh 61 0 → b ≠ gh 62 0 → b ≠ gh 63 0 → b ≠ gh 77 0 → AI_108 b = AI b := fun b h61 h62 h63 h77 => (qmz b h61 h62 h63).trans (fAX b h61 h62 h63 h77)
                                    have hsu := shU_s hsu qmv (by omega) (by omega)
                                    have htu : ∀ t : Nat, t < 4 → (AI_108 (gh 77 0) t).toInt = (cky tb a1 b1 c1 d1 (tI T (40 * tb + 1))) (t + 1) := fun t ht => by rw [congrFun (qmz (gh 77 0) (mNe hv hm (p := (27, 4)) (q := (11, 41)) (by decide) (by decide) (by decide)) (mNe hv hm (p := (27, 4)) (q := (12, 164)) (by decide) (by decide) (by decide)) (mNe hv hm (p := (27, 4)) (q := (13, 41)) (by decide) (by decide) (by decide))) t]; exact htu t ht
                                    refine z_iinc (lv' := [(10, .int (iI (i + (-1)))), (9, .int (iI is)), (8, .int (iI k)), (7, .int (iI v_43)), (0, .ref mo), (1, .int (iI tb)), (2, .int (iI a1)), (3, .int (iI b1)), (4, .int (iI c1)), (5, .int (iI d1)), (6, .int (iI n))]) F dX7_change_256 hl (k := 0) rfl (by decide) rfl (fun ls hl => ?_)
                                    refine z_goto (tgt := 239) F dX7_change_259 (by decide) ?_
                                    exact ih239 (i + (-1)) AI_108 H locs ls ⟨by omega, by omega⟩ hv hT (by omega) (by rw [show i + (-1) = i - 1 by omega]; exact hsu) htu fAX (by omega) hH hS (lv_sub hl [0, 1, 2, 3, 4, 5, 6, 7, 8, 9, 10] rfl)
                              exact cut_239_85 ((((I_1 mo 14).toInt) + 1 : Int).toNat) ((I_1 mo 14).toInt) AI_55 H locs ls (zr_t _) hv hT (by omega) (by rw [h61e, h62e, h63e, show (I_1 mo 14).toInt = (I mo 14).toInt by omega]; exact shU_0) htu fAX (by omega) hH hS (lv_sub hl [0, 1, 2, 3, 4, 5, 6, 7, 8, 9, 10] rfl)
                          · refine z_iconst F dX7_change_226 ?_
                            exact g_iret F hr hlk hH hS hz ⟨by decide, by decide⟩ ⟨rfl, rfl, rfl, rfl, hv, hT, mf, Or.inr ⟨⟨by omega, by omega, by omega, by omega, by omega, by omega⟩, ⟨k.toNat, by omega, fun i hi => hlt i (by omega), Or.inr (Or.inr (Or.inl ⟨(fun h => by rcases his2 with h9 | h9; exact absurd h9.1 (by omega); exact h9.2 (by omega)), by omega, rfl, by omega, h61e, h62e, h63e⟩))⟩⟩, ⟨by (try dsimp only); exact i8, by (try dsimp only); exact i9, by (try dsimp only); exact i10⟩, fAX⟩ dX7_change_227
                      refine lv_iload F.1 F.2.1 dX7_change_166 (lv_at hl 0 rfl) ?_
                      refine lv_aload_n F.1 F.2.1 dX7_change_168 rfl (lv_at hl 2 rfl) ?_
                      refine g_getI (ci := 7) (k := 14) F hH rfl (by decide) iX7 hm (by decide) rfl k266 dX7_change_169 ?_
                      refine z_icmp_ge (tgt := 209) F dX7_change_172 (by decide) zk (zr_t _) (fun c_112 => ?_) (fun c_112 => ?_)
                      · refine z_iconst F dX7_change_209 ?_
                        exact cut_210_58 0 H locs ls ⟨by decide, by decide⟩ (by omega) (Or.inr ⟨rfl, fun h => absurd h (by omega)⟩) hH hS (lv_sub hl [0, 1, 2, 3, 4, 5, 6, 7, 8] rfl)
                      · refine lv_aload_n F.1 F.2.1 dX7_change_175 rfl (lv_at hl 2 rfl) ?_
                        obtain ⟨r_113a, r_113b⟩ : R mo 11 = some (gh 61 0) ∧ gAr g (gh 61 0) 9 41 := mR hv hm (q := (11, 41)) (by decide)
                        refine g_getR (ci := 7) (k := 11) F hH rfl (by decide) iX7 hm (by decide) rfl (b := gh 61 0) r_113a k30 dX7_change_176 ?_
                        refine lv_iload F.1 F.2.1 dX7_change_179 (lv_at hl 0 rfl) ?_
                        have hx181 : 0 ≤ k ∧ k < ((41 : Nat) : Int) ∧ k ≤ 2147483647 := ⟨by omega, by omega, by omega⟩
                        refine g_iald F hH r_113b hx181.1 hx181.2.1 hx181.2.2 dX7_change_181 ?_
                        refine z_name (fun v_114 ev_114 => ?_)
                        have zv_114 : zr v_114 := by rw [ev_114]; exact zr_t _
                        have tk181 : (AI (gh 61 0) k.toNat).toInt = v_114 := by rw [ev_114, h61e]
                        refine lv_iload_n F.1 F.2.1 dX7_change_182 rfl (lv_at hl 3 rfl) ?_
                        refine z_icmp_ne (tgt := 209) F dX7_change_183 (by decide) zv_114 ztb (fun c_115 => ?_) (fun c_115 => ?_)
                        · refine z_iconst F dX7_change_209 ?_
                          exact cut_210_58 0 H locs ls ⟨by decide, by decide⟩ (by omega) (Or.inr ⟨rfl, fun _ => by
          have h9 := hge (by omega)
          rcases (show (AI (gh 61 0) k.toNat).toInt < tb ∨ tb < (AI (gh 61 0) k.toNat).toInt by omega) with h8 | h8
          · exact absurd (kc5_l h8) h9
          · exact kc5_g h8⟩) hH hS (lv_sub hl [0, 1, 2, 3, 4, 5, 6, 7, 8] rfl)
                        · refine lv_aload_n F.1 F.2.1 dX7_change_186 rfl (lv_at hl 2 rfl) ?_
                          obtain ⟨r_116a, r_116b⟩ : R mo 12 = some (gh 62 0) ∧ gAr g (gh 62 0) 9 164 := mR hv hm (q := (12, 164)) (by decide)
                          refine g_getR (ci := 7) (k := 12) F hH rfl (by decide) iX7 hm (by decide) rfl (b := gh 62 0) r_116a k33 dX7_change_187 ?_
                          refine z_iconst F dX7_change_190 ?_
                          refine lv_iload F.1 F.2.1 dX7_change_191 (lv_at hl 0 rfl) ?_
                          refine z_imul F dX7_change_193 ?_
                          refine lv_aload_n F.1 F.2.1 dX7_change_194 rfl (lv_at hl 2 rfl) ?_
                          refine g_getR (ci := 7) (k := 27) F hH rfl (by decide) iX7 hm (by decide) rfl (b := gh 77 0) r_45a k45 dX7_change_195 ?_
                          refine z_iconst F dX7_change_198 ?_
                          refine g_calli (g_runS (As := [.ref (gh 62 0), .int (iI (4 * k)), .ref (gh 77 0), .int (iI 0)]) (rest := []) F hl.1 hH hS hz (c_X7_comparef l g 164 4 I_1 R J AI_55 AJ AR (gh 62 0) (4 * k) (gh 77 0) 0 ⟨by omega, by omega⟩ ⟨by decide, by decide⟩ r_116b r_45b (by omega) (by omega) (by omega) (by omega)) (va_cwS 4 F.2.2.2.2.1 (good_up gT_X7_compare) rfl rfl rfl hdX7_compare.2 ⟨Nat.le_of_ble_eq_true rfl, Nat.le_of_ble_eq_true rfl⟩) rfl rfl (Nat.le_of_ble_eq_true rfl) dX7_change_199 ⟨Nat.zero_le _, Nat.zero_le _⟩) hS (fun v_123 I_117 R_118 J_119 AI_120 AJ_121 AR_122 H locs zv_123 hp_124 hH hS => ?_)
                          dsimp only at hp_124
                          obtain ⟨rfl, rfl, rfl, rfl, rfl, rfl, q_125, qc199⟩ := hp_124
                          have qk199 : kc 5 (rmk (AI (gh 61 0)) (AI (gh 62 0)) k.toNat) (cky tb a1 b1 c1 d1 (tI T (40 * tb + 1))) = v_123 := by rw [kc5_e (tu := AI_55 (gh 77 0)) (by omega) (show (AI (gh 61 0) k.toNat).toInt = tb by omega) htu, qc199, h62e]
                          refine z_if_ne (tgt := 209) F dX7_change_202 (by decide) zv_123 (fun c_126 => ?_) (fun c_126 => ?_)
                          · refine z_iconst F dX7_change_209 ?_
                            exact cut_210_58 0 H locs ls ⟨by decide, by decide⟩ (by omega) (by first | exact Or.inl ⟨rfl, by omega⟩ | exact Or.inr ⟨rfl, fun _ => by have h9 := hge (by omega); omega⟩) hH hS (lv_sub hl [0, 1, 2, 3, 4, 5, 6, 7, 8] rfl)
                          · refine z_iconst F dX7_change_205 ?_
                            refine z_goto (tgt := 210) F dX7_change_206 (by decide) ?_
                            exact cut_210_58 1 H locs ls ⟨by decide, by decide⟩ (by omega) (by first | exact Or.inl ⟨rfl, by omega⟩ | exact Or.inr ⟨rfl, fun _ => by have h9 := hge (by omega); omega⟩) hH hS (lv_sub hl [0, 1, 2, 3, 4, 5, 6, 7, 8] rfl)
                    refine lv_iload F.1 F.2.1 dX7_change_110 (lv_at hl 0 rfl) ?_
                    refine lv_aload_n F.1 F.2.1 dX7_change_112 rfl (lv_at hl 2 rfl) ?_
                    refine g_getI (ci := 7) (k := 14) F hH rfl (by decide) iX7 hm (by decide) rfl k266 dX7_change_113 ?_
                    refine z_icmp_ge (tgt := 166) F dX7_change_116 (by decide) zk (zr_t _) (fun c_127 => ?_) (fun c_127 => ?_)
                    · exact cut_166_57 H locs ls (fun h => absurd h (by omega)) hH hS (lv_sub hl [0, 1, 2, 3, 4, 5, 6, 7, 8] rfl)
                    · refine lv_aload_n F.1 F.2.1 dX7_change_119 rfl (lv_at hl 2 rfl) ?_
                      obtain ⟨r_128a, r_128b⟩ : R mo 11 = some (gh 61 0) ∧ gAr g (gh 61 0) 9 41 := mR hv hm (q := (11, 41)) (by decide)
                      refine g_getR (ci := 7) (k := 11) F hH rfl (by decide) iX7 hm (by decide) rfl (b := gh 61 0) r_128a k30 dX7_change_120 ?_
                      refine lv_iload F.1 F.2.1 dX7_change_123 (lv_at hl 0 rfl) ?_
                      have hx125 : 0 ≤ k ∧ k < ((41 : Nat) : Int) ∧ k ≤ 2147483647 := ⟨by omega, by omega, by omega⟩
                      refine g_iald F hH r_128b hx125.1 hx125.2.1 hx125.2.2 dX7_change_125 ?_
                      refine z_name (fun v_129 ev_129 => ?_)
                      have zv_129 : zr v_129 := by rw [ev_129]; exact zr_t _
                      have tk125 : (AI (gh 61 0) k.toNat).toInt = v_129 := by rw [ev_129, h61e]
                      refine lv_iload_n F.1 F.2.1 dX7_change_126 rfl (lv_at hl 3 rfl) ?_
                      refine z_icmp_lt (tgt := 160) F dX7_change_127 (by decide) zv_129 ztb (fun c_130 => ?_) (fun c_130 => ?_)
                      · refine z_iinc (lv' := [(8, .int (iI (k + 1))), (7, .int (iI v_43)), (0, .ref mo), (1, .int (iI tb)), (2, .int (iI a1)), (3, .int (iI b1)), (4, .int (iI c1)), (5, .int (iI d1)), (6, .int (iI n))]) F dX7_change_160 hl (k := 0) rfl (by decide) rfl (fun ls hl => ?_)
                        refine z_goto (tgt := 110) F dX7_change_163 (by decide) ?_
                        exact ih110 (k + 1) H locs ls ⟨by omega, by omega⟩ (by omega) (ix_st hlt (by omega) (kc5_l (show (AI (gh 61 0) k.toNat).toInt < tb by omega))) (by omega) hH hS (lv_sub hl [0, 1, 2, 3, 4, 5, 6, 7, 8] rfl)
                      · refine lv_aload_n F.1 F.2.1 dX7_change_130 rfl (lv_at hl 2 rfl) ?_
                        refine g_getR (ci := 7) (k := 11) F hH rfl (by decide) iX7 hm (by decide) rfl (b := gh 61 0) r_128a k30 dX7_change_131 ?_
                        refine lv_iload F.1 F.2.1 dX7_change_134 (lv_at hl 0 rfl) ?_
                        have hx136 : 0 ≤ k ∧ k < ((41 : Nat) : Int) ∧ k ≤ 2147483647 := ⟨by omega, by omega, by omega⟩
                        refine g_iald F hH r_128b hx136.1 hx136.2.1 hx136.2.2 dX7_change_136 ?_
                        refine z_name (fun v_131 ev_131 => ?_)
                        have zv_131 : zr v_131 := by rw [ev_131]; exact zr_t _
                        have tk136 : (AI (gh 61 0) k.toNat).toInt = v_131 := by rw [ev_131, h61e]
                        refine lv_iload_n F.1 F.2.1 dX7_change_137 rfl (lv_at hl 3 rfl) ?_
                        refine z_icmp_ne (tgt := 166) F dX7_change_138 (by decide) zv_131 ztb (fun c_132 => ?_) (fun c_132 => ?_)
                        · exact cut_166_57 H locs ls (fun _ => by rw [kc5_g (show tb < (AI (gh 61 0) k.toNat).toInt by omega)]; decide) hH hS (lv_sub hl [0, 1, 2, 3, 4, 5, 6, 7, 8] rfl)
                        · refine lv_aload_n F.1 F.2.1 dX7_change_141 rfl (lv_at hl 2 rfl) ?_
                          obtain ⟨r_133a, r_133b⟩ : R mo 12 = some (gh 62 0) ∧ gAr g (gh 62 0) 9 164 := mR hv hm (q := (12, 164)) (by decide)
                          refine g_getR (ci := 7) (k := 12) F hH rfl (by decide) iX7 hm (by decide) rfl (b := gh 62 0) r_133a k33 dX7_change_142 ?_
                          refine z_iconst F dX7_change_145 ?_
                          refine lv_iload F.1 F.2.1 dX7_change_146 (lv_at hl 0 rfl) ?_
                          refine z_imul F dX7_change_148 ?_
                          refine lv_aload_n F.1 F.2.1 dX7_change_149 rfl (lv_at hl 2 rfl) ?_
                          refine g_getR (ci := 7) (k := 27) F hH rfl (by decide) iX7 hm (by decide) rfl (b := gh 77 0) r_45a k45 dX7_change_150 ?_
                          refine z_iconst F dX7_change_153 ?_
                          refine g_calli (g_runS (As := [.ref (gh 62 0), .int (iI (4 * k)), .ref (gh 77 0), .int (iI 0)]) (rest := []) F hl.1 hH hS hz (c_X7_comparef l g 164 4 I_1 R J AI_55 AJ AR (gh 62 0) (4 * k) (gh 77 0) 0 ⟨by omega, by omega⟩ ⟨by decide, by decide⟩ r_133b r_45b (by omega) (by omega) (by omega) (by omega)) (va_cwS 4 F.2.2.2.2.1 (good_up gT_X7_compare) rfl rfl rfl hdX7_compare.2 ⟨Nat.le_of_ble_eq_true rfl, Nat.le_of_ble_eq_true rfl⟩) rfl rfl (Nat.le_of_ble_eq_true rfl) dX7_change_154 ⟨Nat.zero_le _, Nat.zero_le _⟩) hS (fun v_140 I_134 R_135 J_136 AI_137 AJ_138 AR_139 H locs zv_140 hp_141 hH hS => ?_)
                          dsimp only at hp_141
                          obtain ⟨rfl, rfl, rfl, rfl, rfl, rfl, q_142, qc154⟩ := hp_141
                          have qk154 : kc 5 (rmk (AI (gh 61 0)) (AI (gh 62 0)) k.toNat) (cky tb a1 b1 c1 d1 (tI T (40 * tb + 1))) = v_140 := by rw [kc5_e (tu := AI_55 (gh 77 0)) (by omega) (show (AI (gh 61 0) k.toNat).toInt = tb by omega) htu, qc154, h62e]
                          refine z_if_ge (tgt := 166) F dX7_change_157 (by decide) zv_140 (fun c_143 => ?_) (fun c_143 => ?_)
                          · exact cut_166_57 H locs ls (fun _ => by omega) hH hS (lv_sub hl [0, 1, 2, 3, 4, 5, 6, 7, 8] rfl)
                          · refine z_iinc (lv' := [(8, .int (iI (k + 1))), (7, .int (iI v_43)), (0, .ref mo), (1, .int (iI tb)), (2, .int (iI a1)), (3, .int (iI b1)), (4, .int (iI c1)), (5, .int (iI d1)), (6, .int (iI n))]) F dX7_change_160 hl (k := 0) rfl (by decide) rfl (fun ls hl => ?_)
                            refine z_goto (tgt := 110) F dX7_change_163 (by decide) ?_
                            exact ih110 (k + 1) H locs ls ⟨by omega, by omega⟩ (by omega) (ix_st hlt (by omega) (by omega)) (by omega) hH hS (lv_sub hl [0, 1, 2, 3, 4, 5, 6, 7, 8] rfl)
                exact cut_110_56 (((40 - 0) + 1 : Int).toNat) 0 H locs ls ⟨by decide, by decide⟩ (by omega) (fun i hi => absurd hi (by omega)) (by omega) hH hS (lv_sub hl [0, 1, 2, 3, 4, 5, 6, 7, 8] rfl)
              refine lv_iload F.1 F.2.1 dX7_change_94 (lv_at hl 0 rfl) ?_
              refine z_iconst F dX7_change_96 ?_
              refine z_icmp_le (tgt := 105) F dX7_change_97 (by decide) zv_43 ⟨by decide, by decide⟩ (fun c_144 => ?_) (fun c_144 => ?_)
              · refine z_iconst F dX7_change_105 ?_
                exact cut_106_53 0 H locs ls ⟨by decide, by decide⟩ (by first | exact (if_neg (by omega)).symm | exact (if_pos (by omega)).symm) hH hS (lv_sub hl [0, 1, 2, 3, 4, 5, 6, 7] rfl)
              · refine lv_iload F.1 F.2.1 dX7_change_100 (lv_at hl 6 rfl) ?_
                refine z_goto (tgt := 106) F dX7_change_102 (by decide) ?_
                exact cut_106_53 d1 H locs ls zd1 (by first | exact (if_neg (by omega)).symm | exact (if_pos (by omega)).symm) hH hS (lv_sub hl [0, 1, 2, 3, 4, 5, 6, 7] rfl)
            refine lv_iload F.1 F.2.1 dX7_change_76 (lv_at hl 0 rfl) ?_
            refine z_iconst F dX7_change_78 ?_
            refine z_icmp_le (tgt := 87) F dX7_change_79 (by decide) zv_43 ⟨by decide, by decide⟩ (fun c_145 => ?_) (fun c_145 => ?_)
            · refine z_iconst F dX7_change_87 ?_
              exact cut_88_50 0 H locs ls ⟨by decide, by decide⟩ (by first | exact (if_neg (by omega)).symm | exact (if_pos (by omega)).symm) hH hS (lv_sub hl [0, 1, 2, 3, 4, 5, 6, 7] rfl)
            · refine lv_iload F.1 F.2.1 dX7_change_82 (lv_at hl 5 rfl) ?_
              refine z_goto (tgt := 88) F dX7_change_84 (by decide) ?_
              exact cut_88_50 c1 H locs ls zc1 (by first | exact (if_neg (by omega)).symm | exact (if_pos (by omega)).symm) hH hS (lv_sub hl [0, 1, 2, 3, 4, 5, 6, 7] rfl)
          refine lv_iload F.1 F.2.1 dX7_change_59 (lv_at hl 0 rfl) ?_
          refine z_iconst F dX7_change_61 ?_
          refine z_icmp_le (tgt := 69) F dX7_change_62 (by decide) zv_43 ⟨by decide, by decide⟩ (fun c_146 => ?_) (fun c_146 => ?_)
          · refine z_iconst F dX7_change_69 ?_
            exact cut_70_47 0 H locs ls ⟨by decide, by decide⟩ (by first | exact (if_neg (by omega)).symm | exact (if_pos (by omega)).symm) hH hS (lv_sub hl [0, 1, 2, 3, 4, 5, 6, 7] rfl)
          · refine lv_iload_n F.1 F.2.1 dX7_change_65 rfl (lv_at hl 4 rfl) ?_
            refine z_goto (tgt := 70) F dX7_change_66 (by decide) ?_
            exact cut_70_47 b1 H locs ls zb1 (by first | exact (if_neg (by omega)).symm | exact (if_pos (by omega)).symm) hH hS (lv_sub hl [0, 1, 2, 3, 4, 5, 6, 7] rfl)
        · refine z_iconst F dX7_change_38 ?_
          exact g_iret F hr hlk hH hS hz ⟨by decide, by decide⟩ ⟨rfl, rfl, rfl, rfl, hv, hT, mf, Or.inl ⟨by omega, rfl, by first | rfl | omega, rfl, rfl, rfl⟩, ⟨by (try dsimp only); exact i8, by (try dsimp only); exact i9, by (try dsimp only); exact i10⟩, fAX⟩ dX7_change_39
