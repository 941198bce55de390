def rmX7_isRelationf : Room := { frames := 1, cells := 0, slots := 0, locals := 22 }
set_option maxHeartbeats 4000000 in
set_option maxRecDepth 100000 in
/-- a relation -/
theorem c_X7_isRelationf (l : Launch) (g : gG) (gh : gGh) (T : Nat → Int32) (I : gI) (R : gR) (J : gJ) (AI : gI) (AJ : gJ) (AR : gR) (mo : Nat) (rr : Int) (zrr : zr rr) (hv : mInv g gh R I AI) (hm : gO g mo 7) (hT : AI (gh 50 0) = T) : gMet l g yX7_isRelation tsX7_isRelation rmX7_isRelationf [.ref mo, .int (iI rr)] (I, R, J, AI, AJ, AR) (gQi g (fun (z : Int) (w : gS) => I = w.1 ∧ R = w.2.1 ∧ J = w.2.2.1 ∧ AI = w.2.2.2.1 ∧ AJ = w.2.2.2.2.1 ∧ AR = w.2.2.2.2.2 ∧ ((z = 0 ∨ z = 1) ∧ (z = 1 → 0 ≤ rr ∧ rr < (I mo 2).toInt ∧ rr ≤ 15)) ∧ (z = 0 → rr < 0 ∨ (I mo 2).toInt ≤ rr))) := by
  refine gStart (cc := cX7_isRelation) (maxL := 2) (ret := (some (.boolean))) (by decide) rfl (Nat.le_of_ble_eq_true rfl) ?_
  intro p e s m below meth c ls F hr hlk hH hz hS hl
  have hl : lv_has ls 2 [(0, .ref mo), (1, .int (iI rr))] := hl
  have hS : va_S (gA g) s.heap s.heap [] := hS
  obtain ⟨H, hHe⟩ : ∃ H : Heap, H = s.heap := ⟨_, rfl⟩
  obtain ⟨locs, hlo⟩ : ∃ k : List Loc, k = [] := ⟨_, rfl⟩
  have hH : gH g I R J AI AJ AR H := by rw [hHe]; exact hH
  have hS : va_S (gA g) s.heap H locs := by rw [hHe, hlo]; exact hS
  suffices hw : W p l e rmX7_isRelationf s m ([.ref mo, .int (iI rr)] : List Value).toArray below meth c H locs 0 0 (MQ below (gQi g (fun (z : Int) (w : gS) => I = w.1 ∧ R = w.2.1 ∧ J = w.2.2.1 ∧ AI = w.2.2.2.1 ∧ AJ = w.2.2.2.2.1 ∧ AR = w.2.2.2.2.2 ∧ ((z = 0 ∨ z = 1) ∧ (z = 1 → 0 ≤ rr ∧ rr < (I mo 2).toInt ∧ rr ≤ 15)) ∧ (z = 0 → rr < 0 ∨ (I mo 2).toInt ≤ rr))) ([.ref mo, .int (iI rr)] : List Value).toArray s 0 0 (gA g)) (F0 m 0 ls []) by
    rw [hHe, hlo] at hw; exact hw
  clear hHe hlo
  have iX7 : ∀ w ∈ u_ws RX7 TX7 32, w ∈ tsX7_isRelation := fun w h => List.mem_cons_of_mem _ (inTB7 w h)
  have k64 : Cond.fieldLink RX7 64 (TX7 2).1 (TX7 2).2.1 (TX7 2).2.2.1 ∈ tsX7_isRelation := List.mem_cons_of_mem _ fl_64
  refine lv_iload_n F.1 F.2.1 dX7_isRelation_0 rfl (lv_at hl 1 rfl) ?_
  refine z_iconst F dX7_isRelation_1 ?_
  refine lv_aload_n F.1 F.2.1 dX7_isRelation_2 rfl (lv_at hl 0 rfl) ?_
  refine g_getI (ci := 7) (k := 2) F hH rfl (by decide) iX7 hm (by decide) rfl k64 dX7_isRelation_3 ?_
  have b_1 := mJ hv hm
  unfold mNum1 at b_1
  refine z_iconst F dX7_isRelation_6 ?_
  refine z_isub F dX7_isRelation_7 ?_
  refine g_calli (g_runS (As := [.int (iI rr), .int (iI 0), .int (iI (((I mo 2).toInt) - 1))]) (rest := []) F hl.1 hH hS hz (c_X7_within l g  I R J AI AJ AR rr 0 (((I mo 2).toInt) - 1) zrr ⟨by decide, by decide⟩ ⟨by omega, by omega⟩) (va_cwS 3 F.2.2.2.2.1 (good_up gT_X7_within) rfl rfl rfl hdX7_within.2 ⟨Nat.le_of_ble_eq_true rfl, Nat.le_of_ble_eq_true rfl⟩) rfl rfl (Nat.le_of_ble_eq_true rfl) dX7_isRelation_8 ⟨Nat.zero_le _, Nat.zero_le _⟩) hS (fun v_8 I_2 R_3 J_4 AI_5 AJ_6 AR_7 H locs zv_8 hp_9 hH hS => ?_)
  dsimp only at hp_9
  obtain ⟨rfl, rfl, rfl, rfl, rfl, rfl, q_10⟩ := hp_9
  exact g_zret F hr hlk hH hS hz (by omega) ⟨rfl, rfl, rfl, rfl, rfl, rfl, ⟨by omega, fun _ => by omega⟩, fun h => by omega⟩ dX7_isRelation_11

def rmX7_comparef : Room := { frames := 0, cells := 0, slots := 0, locals := 0 }
set_option maxHeartbeats 4000000 in
set_option maxRecDepth 100000 in
/-- compares -/
theorem c_X7_comparef (l : Launch) (g : gG) (n n2 : Nat) (I : gI) (R : gR) (J : gJ) (AI : gI) (AJ : gJ) (AR : gR) (o : Nat) (fr : Int) (o2 : Nat) (fr2 : Int) (zfr : zr fr) (zfr2 : zr fr2) (ho : gAr g o 9 n) (ho2 : gAr g o2 9 n2) (h0 : 0 ≤ fr ∧ fr + 4 ≤ (n : Int)) (h1 : 0 ≤ fr2 ∧ fr2 + 4 ≤ (n2 : Int)) (hn : n ≤ 126720) (hn2 : n2 ≤ 126720) : gMet l g yX7_compare tsX7_compare rmX7_comparef [.ref o, .int (iI fr), .ref o2, .int (iI fr2)] (I, R, J, AI, AJ, AR) (gQi g (fun (z : Int) (w : gS) => I = w.1 ∧ R = w.2.1 ∧ J = w.2.2.1 ∧ AI = w.2.2.2.1 ∧ AJ = w.2.2.2.2.1 ∧ AR = w.2.2.2.2.2 ∧ (-1 ≤ z ∧ z ≤ 1) ∧ (z = kc 4 (rk (AI o) fr) (rk (AI o2) fr2)))) := by
  refine gStart (cc := cX7_compare) (maxL := 5) (ret := (some (.int))) (by decide) rfl (Nat.le_of_ble_eq_true rfl) ?_
  intro p e s m below meth c ls F hr hlk hH hz hS hl
  have hl : lv_has ls 5 [(0, .ref o), (1, .int (iI fr)), (2, .ref o2), (3, .int (iI fr2))] := hl
  have hS : va_S (gA g) s.heap s.heap [] := hS
  obtain ⟨H, hHe⟩ : ∃ H : Heap, H = s.heap := ⟨_, rfl⟩
  obtain ⟨locs, hlo⟩ : ∃ k : List Loc, k = [] := ⟨_, rfl⟩
  have hH : gH g I R J AI AJ AR H := by rw [hHe]; exact hH
  have hS : va_S (gA g) s.heap H locs := by rw [hHe, hlo]; exact hS
  suffices hw : W p l e rmX7_comparef s m ([.ref o, .int (iI fr), .ref o2, .int (iI fr2)] : List Value).toArray below meth c H locs 0 0 (MQ below (gQi g (fun (z : Int) (w : gS) => I = w.1 ∧ R = w.2.1 ∧ J = w.2.2.1 ∧ AI = w.2.2.2.1 ∧ AJ = w.2.2.2.2.1 ∧ AR = w.2.2.2.2.2 ∧ (-1 ≤ z ∧ z ≤ 1) ∧ (z = kc 4 (rk (AI o) fr) (rk (AI o2) fr2)))) ([.ref o, .int (iI fr), .ref o2, .int (iI fr2)] : List Value).toArray s 0 0 (gA g)) (F0 m 0 ls []) by
    rw [hHe, hlo] at hw; exact hw
  clear hHe hlo
  refine z_iconst F dX7_compare_0 ?_
  refine lv_istore (lv' := [(4, .int (iI 0)), (0, .ref o), (1, .int (iI fr)), (2, .ref o2), (3, .int (iI fr2))]) F.1 F.2.1 dX7_compare_1 hl (by decide) rfl (fun ls hl => ?_)
  have cut_3_0 : ∀ (NN : Nat) (k : Int) (H : Heap) (locs : List Loc) (ls : Array Slot), zr k → (0 ≤ k ∧ k ≤ 4) → (kc 4 (rk (AI o) fr) (rk (AI o2) fr2) = kcF (rk (AI o) fr) (rk (AI o2) fr2) (4 - k.toNat) k.toNat) → (4 - k) < ((NN : Nat) : Int) → gH g I R J AI AJ AR H → va_S (gA g) s.heap H locs → lv_has ls 5 [(4, .int (iI k)), (0, .ref o), (1, .int (iI fr)), (2, .ref o2), (3, .int (iI fr2))] → W p l e rmX7_comparef s m ([.ref o, .int (iI fr), .ref o2, .int (iI fr2)] : List Value).toArray below meth c H locs 0 0 (MQ below (gQi g (fun (z : Int) (w : gS) => I = w.1 ∧ R = w.2.1 ∧ J = w.2.2.1 ∧ AI = w.2.2.2.1 ∧ AJ = w.2.2.2.2.1 ∧ AR = w.2.2.2.2.2 ∧ (-1 ≤ z ∧ z ≤ 1) ∧ (z = kc 4 (rk (AI o) fr) (rk (AI o2) fr2)))) ([.ref o, .int (iI fr), .ref o2, .int (iI fr2)] : List Value).toArray s 0 0 (gA g)) (F0 m 3 ls []) := by
    intro NN3
    induction NN3 with
    | zero =>
      intro k H locs ls zk hk hkc hm3 hH hS hl
      exact absurd hm3 (by omega)
    | succ NN3 ih3 =>
      intro k H locs ls zk hk hkc hm3 hH hS hl
      refine lv_iload F.1 F.2.1 dX7_compare_3 (lv_at hl 0 rfl) ?_
      refine z_iconst F dX7_compare_5 ?_
      refine z_icmp_ge (tgt := 51) F dX7_compare_6 (by decide) zk ⟨by decide, by decide⟩ (fun c_2 => ?_) (fun c_2 => ?_)
      · refine z_iconst F dX7_compare_51 ?_
        exact g_iret F hr hlk hH hS hz ⟨by decide, by decide⟩ ⟨rfl, rfl, rfl, rfl, rfl, rfl, by first | omega | rfl | (dsimp only; omega), by (try dsimp only); rw [hkc, show 4 - k.toNat = 0 by omega]; rfl⟩ dX7_compare_52
      · refine lv_aload_n F.1 F.2.1 dX7_compare_9 rfl (lv_at hl 1 rfl) ?_
        refine lv_iload_n F.1 F.2.1 dX7_compare_10 rfl (lv_at hl 2 rfl) ?_
        refine lv_iload F.1 F.2.1 dX7_compare_11 (lv_at hl 0 rfl) ?_
        refine z_iadd F dX7_compare_13 ?_
        have hx14 : 0 ≤ (fr + k) ∧ (fr + k) < ((n : Nat) : Int) ∧ (fr + k) ≤ 2147483647 := ⟨by omega, by omega, by omega⟩
        refine g_iald F hH ho hx14.1 hx14.2.1 hx14.2.2 dX7_compare_14 ?_
        refine z_name (fun v_3 ev_3 => ?_)
        have zv_3 : zr v_3 := by rw [ev_3]; exact zr_t _
        have t14 : rk (AI o) (fr) k.toNat = v_3 := by rw [rk_at (by omega) (by omega), ev_3]
        refine lv_aload_n F.1 F.2.1 dX7_compare_15 rfl (lv_at hl 3 rfl) ?_
        refine lv_iload_n F.1 F.2.1 dX7_compare_16 rfl (lv_at hl 4 rfl) ?_
        refine lv_iload F.1 F.2.1 dX7_compare_17 (lv_at hl 0 rfl) ?_
        refine z_iadd F dX7_compare_19 ?_
        have hx20 : 0 ≤ (fr2 + k) ∧ (fr2 + k) < ((n2 : Nat) : Int) ∧ (fr2 + k) ≤ 2147483647 := ⟨by omega, by omega, by omega⟩
        refine g_iald F hH ho2 hx20.1 hx20.2.1 hx20.2.2 dX7_compare_20 ?_
        refine z_name (fun v_4 ev_4 => ?_)
        have zv_4 : zr v_4 := by rw [ev_4]; exact zr_t _
        have t20 : rk (AI o2) (fr2) k.toNat = v_4 := by rw [rk_at (by omega) (by omega), ev_4]
        refine z_icmp_eq (tgt := 45) F dX7_compare_21 (by decide) zv_3 zv_4 (fun c_5 => ?_) (fun c_5 => ?_)
        · have hkn := kcF_n (u := (rk (AI o) fr)) (v := (rk (AI o2) fr2)) (K := 4) (k := k) (by omega) (by omega) (by rw [t14, t20]; omega)
          refine z_iinc (lv' := [(4, .int (iI (k + 1))), (0, .ref o), (1, .int (iI fr)), (2, .ref o2), (3, .int (iI fr2))]) F dX7_compare_45 hl (k := 0) rfl (by decide) rfl (fun ls hl => ?_)
          refine z_goto (tgt := 3) F dX7_compare_48 (by decide) ?_
          exact ih3 (k + 1) H locs ls ⟨by omega, by omega⟩ (by omega) (by first | exact hkc.trans hkn | rfl) (by omega) hH hS (lv_sub hl [0, 1, 2, 3, 4] rfl)
        · refine lv_aload_n F.1 F.2.1 dX7_compare_24 rfl (lv_at hl 1 rfl) ?_
          refine lv_iload_n F.1 F.2.1 dX7_compare_25 rfl (lv_at hl 2 rfl) ?_
          refine lv_iload F.1 F.2.1 dX7_compare_26 (lv_at hl 0 rfl) ?_
          refine z_iadd F dX7_compare_28 ?_
          have hx29 : 0 ≤ (fr + k) ∧ (fr + k) < ((n : Nat) : Int) ∧ (fr + k) ≤ 2147483647 := ⟨by omega, by omega, by omega⟩
          refine g_iald F hH ho hx29.1 hx29.2.1 hx29.2.2 dX7_compare_29 ?_
          refine z_name (fun v_6 ev_6 => ?_)
          have zv_6 : zr v_6 := by rw [ev_6]; exact zr_t _
          have t29 : rk (AI o) (fr) k.toNat = v_6 := by rw [rk_at (by omega) (by omega), ev_6]
          refine lv_aload_n F.1 F.2.1 dX7_compare_30 rfl (lv_at hl 3 rfl) ?_
          refine lv_iload_n F.1 F.2.1 dX7_compare_31 rfl (lv_at hl 4 rfl) ?_
          refine lv_iload F.1 F.2.1 dX7_compare_32 (lv_at hl 0 rfl) ?_
          refine z_iadd F dX7_compare_34 ?_
          have hx35 : 0 ≤ (fr2 + k) ∧ (fr2 + k) < ((n2 : Nat) : Int) ∧ (fr2 + k) ≤ 2147483647 := ⟨by omega, by omega, by omega⟩
          refine g_iald F hH ho2 hx35.1 hx35.2.1 hx35.2.2 dX7_compare_35 ?_
          refine z_name (fun v_7 ev_7 => ?_)
          have zv_7 : zr v_7 := by rw [ev_7]; exact zr_t _
          have t35 : rk (AI o2) (fr2) k.toNat = v_7 := by rw [rk_at (by omega) (by omega), ev_7]
          refine z_icmp_ge (tgt := 43) F dX7_compare_36 (by decide) zv_6 zv_7 (fun c_8 => ?_) (fun c_8 => ?_)
          · refine z_iconst F dX7_compare_43 ?_
            exact g_iret F hr hlk hH hS hz ⟨by decide, by decide⟩ ⟨rfl, rfl, rfl, rfl, rfl, rfl, by first | omega | rfl | (dsimp only; omega), by (try dsimp only); rw [hkc]; first | exact (kcF_ln (by omega) (by omega) (by rw [t29, t35]; omega)).symm | exact (kcF_gn (by omega) (by omega) (by rw [t29, t35]; omega)).symm⟩ dX7_compare_44
          · refine z_iconst F dX7_compare_39 ?_
            refine z_goto (tgt := 44) F dX7_compare_40 (by decide) ?_
            exact g_iret F hr hlk hH hS hz ⟨by decide, by decide⟩ ⟨rfl, rfl, rfl, rfl, rfl, rfl, by first | omega | rfl | (dsimp only; omega), by (try dsimp only); rw [hkc]; first | exact (kcF_ln (by omega) (by omega) (by rw [t29, t35]; omega)).symm | exact (kcF_gn (by omega) (by omega) (by rw [t29, t35]; omega)).symm⟩ dX7_compare_44
  exact cut_3_0 (((4 - 0) + 1 : Int).toNat) 0 H locs ls ⟨by decide, by decide⟩ (by omega) (by first | exact hkc.trans hkn | rfl) (by omega) hH hS (lv_sub hl [0, 1, 2, 3, 4] rfl)

def rmX7_movesf : Room := { frames := 0, cells := 0, slots := 0, locals := 0 }
set_option maxHeartbeats 4000000 in
set_option maxRecDepth 100000 in
/-- moves -/
theorem c_X7_movesf (l : Launch) (g : gG) (gh : gGh) (T : Nat → Int32) (I : gI) (R : gR) (J : gJ) (AI : gI) (AJ : gJ) (AR : gR) (mo : Nat) (fm : Int) (to : Int) (zfm : zr fm) (zto : zr to) (hv : mInv g gh R I AI) (hm : gO g mo 7) (hT : AI (gh 50 0) = T) (h0 : 0 ≤ fm ∧ fm ≤ 40 ∧ 0 ≤ to ∧ to ≤ 40) (h61 : gh 9 (gh 61 0) = 5) (h62 : gh 9 (gh 62 0) = 5) (h63 : gh 9 (gh 63 0) = 5) : gMet l g yX7_moves tsX7_moves rmX7_movesf [.ref mo, .int (iI fm), .int (iI to)] (I, R, J, AI, AJ, AR) (gQv g (fun w : gS => I = w.1 ∧ R = w.2.1 ∧ J = w.2.2.1 ∧ AJ = w.2.2.2.2.1 ∧ AR = w.2.2.2.2.2 ∧ (mInv g gh R I (w.2.2.2.1)) ∧ ((w.2.2.2.1) (gh 50 0) = T) ∧ (mvP (AI (gh 61 0)) (AI (gh 62 0)) (AI (gh 63 0)) ((w.2.2.2.1) (gh 61 0)) ((w.2.2.2.1) (gh 62 0)) ((w.2.2.2.1) (gh 63 0)) fm to) ∧ (∀ b, b ≠ gh 61 0 → b ≠ gh 62 0 → b ≠ gh 63 0 → (w.2.2.2.1) b = AI b))) := by
  refine gStart (cc := cX7_moves) (maxL := 4) (ret := none) (by decide) rfl (Nat.le_of_ble_eq_true rfl) ?_
  intro p e s m below meth c ls F hr hlk hH hz hS hl
  have hl : lv_has ls 4 [(0, .ref mo), (1, .int (iI fm)), (2, .int (iI to))] := hl
  have hS : va_S (gA g) s.heap s.heap [] := hS
  obtain ⟨H, hHe⟩ : ∃ H : Heap, H = s.heap := ⟨_, rfl⟩
  obtain ⟨locs, hlo⟩ : ∃ k : List Loc, k = [] := ⟨_, rfl⟩
  have hH : gH g I R J AI AJ AR H := by rw [hHe]; exact hH
  have hS : va_S (gA g) s.heap H locs := by rw [hHe, hlo]; exact hS
  suffices hw : W p l e rmX7_movesf s m ([.ref mo, .int (iI fm), .int (iI to)] : List Value).toArray below meth c H locs 0 0 (MQ below (gQv g (fun w : gS => I = w.1 ∧ R = w.2.1 ∧ J = w.2.2.1 ∧ AJ = w.2.2.2.2.1 ∧ AR = w.2.2.2.2.2 ∧ (mInv g gh R I (w.2.2.2.1)) ∧ ((w.2.2.2.1) (gh 50 0) = T) ∧ (mvP (AI (gh 61 0)) (AI (gh 62 0)) (AI (gh 63 0)) ((w.2.2.2.1) (gh 61 0)) ((w.2.2.2.1) (gh 62 0)) ((w.2.2.2.1) (gh 63 0)) fm to) ∧ (∀ b, b ≠ gh 61 0 → b ≠ gh 62 0 → b ≠ gh 63 0 → (w.2.2.2.1) b = AI b))) ([.ref mo, .int (iI fm), .int (iI to)] : List Value).toArray s 0 0 (gA g)) (F0 m 0 ls []) by
    rw [hHe, hlo] at hw; exact hw
  clear hHe hlo
  have iX7 : ∀ w ∈ u_ws RX7 TX7 32, w ∈ tsX7_moves := fun w h => List.mem_cons_of_mem _ (inTB7 w h)
  have k30 : Cond.fieldLink RX7 30 (TX7 11).1 (TX7 11).2.1 (TX7 11).2.2.1 ∈ tsX7_moves := List.mem_cons_of_mem _ fl_30
  have k36 : Cond.fieldLink RX7 36 (TX7 13).1 (TX7 13).2.1 (TX7 13).2.2.1 ∈ tsX7_moves := List.mem_cons_of_mem _ fl_36
  have k33 : Cond.fieldLink RX7 33 (TX7 12).1 (TX7 12).2.1 (TX7 12).2.2.1 ∈ tsX7_moves := List.mem_cons_of_mem _ fl_33
  refine lv_aload_n F.1 F.2.1 dX7_moves_0 rfl (lv_at hl 0 rfl) ?_
  obtain ⟨r_1a, r_1b⟩ : R mo 11 = some (gh 61 0) ∧ gAr g (gh 61 0) 9 41 := mR hv hm (q := (11, 41)) (by decide)
  refine g_getR (ci := 7) (k := 11) F hH rfl (by decide) iX7 hm (by decide) rfl (b := gh 61 0) r_1a k30 dX7_moves_1 ?_
  refine lv_iload_n F.1 F.2.1 dX7_moves_4 rfl (lv_at hl 2 rfl) ?_
  refine lv_aload_n F.1 F.2.1 dX7_moves_5 rfl (lv_at hl 0 rfl) ?_
  refine g_getR (ci := 7) (k := 11) F hH rfl (by decide) iX7 hm (by decide) rfl (b := gh 61 0) r_1a k30 dX7_moves_6 ?_
  refine lv_iload_n F.1 F.2.1 dX7_moves_9 rfl (lv_at hl 1 rfl) ?_
  have hx10 : 0 ≤ fm ∧ fm < ((41 : Nat) : Int) ∧ fm ≤ 2147483647 := ⟨by omega, by omega, by omega⟩
  refine g_iald F hH r_1b hx10.1 hx10.2.1 hx10.2.2 dX7_moves_10 ?_
  have q10 := mCt hv hm (z := fm) (by omega) (by omega)
  have hx11 : 0 ≤ to ∧ to < ((41 : Nat) : Int) ∧ to ≤ 2147483647 := ⟨by omega, by omega, by omega⟩
  refine g_iast F hH hS r_1b hx11.1 hx11.2.1 hx11.2.2 dX7_moves_11 (fun H locs hH hS => ?_)
  obtain ⟨AI_2, eAI_2⟩ : ∃ qQ, qQ = gup2 AI (gh 61 0) (to).toNat (iI ((AI (gh 61 0) (fm).toNat).toInt)) := ⟨_, rfl⟩
  rw [← eAI_2] at hH
  have kAI_2 : ∀ b, b ≠ (gh 61 0) → AI_2 b = AI b := fun b hb => by rw [eAI_2]; exact funext fun j => gup2_a _ _ hb
  have hvO := hv
  have t_3 : AI_2 (gh 50 0) = AI (gh 50 0) := mK hv hm (p := (0, 640)) (q := (11, 41)) (by decide) (by decide) (by decide) kAI_2
  have hv : mInv g gh R I AI_2 := mInv_ct1 hv hm h61 eAI_2 (by omega) (by omega)
  have hT : AI_2 (gh 50 0) = T := t_3.trans hT
  have p1 : ∀ j : Nat, j ≠ to.toNat → AI_2 (gh 61 0) j = AI (gh 61 0) j := fun j hj => by rw [eAI_2]; exact gup2_k _ _ hj
  have p1b : AI_2 (gh 61 0) to.toNat = AI (gh 61 0) fm.toNat := by rw [eAI_2, gup2_s, iI_self]
  have c1 : AI_2 (gh 63 0) = AI (gh 63 0) := mK hvO hm (p := (13, 41)) (q := (11, 41)) (by decide) (by decide) (by decide) kAI_2
  have v1 : AI_2 (gh 62 0) = AI (gh 62 0) := mK hvO hm (p := (12, 164)) (q := (11, 41)) (by decide) (by decide) (by decide) kAI_2
  have z1 : ∀ b, b ≠ gh 61 0 → b ≠ gh 62 0 → b ≠ gh 63 0 → AI_2 b = AI b := fun b h _ _ => kAI_2 b h
  refine lv_aload_n F.1 F.2.1 dX7_moves_12 rfl (lv_at hl 0 rfl) ?_
  obtain ⟨r_4a, r_4b⟩ : R mo 13 = some (gh 63 0) ∧ gAr g (gh 63 0) 9 41 := mR hv hm (q := (13, 41)) (by decide)
  refine g_getR (ci := 7) (k := 13) F hH rfl (by decide) iX7 hm (by decide) rfl (b := gh 63 0) r_4a k36 dX7_moves_13 ?_
  refine lv_iload_n F.1 F.2.1 dX7_moves_16 rfl (lv_at hl 2 rfl) ?_
  refine lv_aload_n F.1 F.2.1 dX7_moves_17 rfl (lv_at hl 0 rfl) ?_
  refine g_getR (ci := 7) (k := 13) F hH rfl (by decide) iX7 hm (by decide) rfl (b := gh 63 0) r_4a k36 dX7_moves_18 ?_
  refine lv_iload_n F.1 F.2.1 dX7_moves_21 rfl (lv_at hl 1 rfl) ?_
  have hx22 : 0 ≤ fm ∧ fm < ((41 : Nat) : Int) ∧ fm ≤ 2147483647 := ⟨by omega, by omega, by omega⟩
  refine g_iald F hH r_4b hx22.1 hx22.2.1 hx22.2.2 dX7_moves_22 ?_
  refine z_name (fun v_5 ev_5 => ?_)
  have zv_5 : zr v_5 := by rw [ev_5]; exact zr_t _
  have hx23 : 0 ≤ to ∧ to < ((41 : Nat) : Int) ∧ to ≤ 2147483647 := ⟨by omega, by omega, by omega⟩
  refine g_iast F hH hS r_4b hx23.1 hx23.2.1 hx23.2.2 dX7_moves_23 (fun H locs hH hS => ?_)
  obtain ⟨AI_6, eAI_6⟩ : ∃ qQ, qQ = gup2 AI_2 (gh 63 0) (to).toNat (iI (v_5)) := ⟨_, rfl⟩
  rw [← eAI_6] at hH
  have kAI_6 : ∀ b, b ≠ (gh 63 0) → AI_6 b = AI_2 b := fun b hb => by rw [eAI_6]; exact funext fun j => gup2_a _ _ hb
  have hvO := hv
  have t_7 : AI_6 (gh 50 0) = AI_2 (gh 50 0) := mK hv hm (p := (0, 640)) (q := (13, 41)) (by decide) (by decide) (by decide) kAI_6
  have hv : mInv g gh R I AI_6 := mInv_b hv hm (q := (13, 41)) (by decide) (by decide) h63 kAI_6
  have hT : AI_6 (gh 50 0) = T := t_7.trans hT
  have t2 : AI_6 (gh 61 0) = AI_2 (gh 61 0) := mK hvO hm (p := (11, 41)) (q := (13, 41)) (by decide) (by decide) (by decide) kAI_6
  have v2 : AI_6 (gh 62 0) = AI_2 (gh 62 0) := mK hvO hm (p := (12, 164)) (q := (13, 41)) (by decide) (by decide) (by decide) kAI_6
  have mT : (∀ j : Nat, j ≠ to.toNat → AI_6 (gh 61 0) j = AI (gh 61 0) j ∧ AI_6 (gh 63 0) j = AI (gh 63 0) j) ∧ AI_6 (gh 61 0) to.toNat = AI (gh 61 0) fm.toNat ∧ AI_6 (gh 63 0) to.toNat = AI (gh 63 0) fm.toNat := ⟨fun j hj => ⟨by rw [t2]; exact p1 j hj, by rw [eAI_6, gup2_k _ _ hj, c1]⟩, by rw [t2]; exact p1b, by rw [eAI_6, gup2_s, ev_5, iI_self, c1]⟩
  have mV : (∀ j : Nat, (j : Int) < 4 * to ∨ 4 * to + 0 ≤ (j : Int) → AI_6 (gh 62 0) j = AI (gh 62 0) j) ∧ ∀ t : Nat, (t : Int) < 0 → AI_6 (gh 62 0) ((4 * to).toNat + t) = AI (gh 62 0) ((4 * fm).toNat + t) := ⟨fun j _ => by rw [v2, v1], fun t ht => absurd ht (by omega)⟩
  have mZ : ∀ b, b ≠ gh 61 0 → b ≠ gh 62 0 → b ≠ gh 63 0 → AI_6 b = AI b := fun b h h2 h3 => (kAI_6 b h3).trans (z1 b h h2 h3)
  refine z_iconst F dX7_moves_24 ?_
  refine lv_istore_n (lv' := [(3, .int (iI 0)), (0, .ref mo), (1, .int (iI fm)), (2, .int (iI to))]) F.1 F.2.1 dX7_moves_25 rfl hl (by decide) rfl (fun ls hl => ?_)
  have cut_26_8 : ∀ (NN : Nat) (i : Int) (AI_8 : gI) (H : Heap) (locs : List Loc) (ls : Array Slot), zr i → (mInv g gh R I AI_8) → (AI_8 (gh 50 0) = T) → (0 ≤ i ∧ i ≤ 4) → ((∀ j : Nat, j ≠ to.toNat → AI_8 (gh 61 0) j = AI (gh 61 0) j ∧ AI_8 (gh 63 0) j = AI (gh 63 0) j) ∧ AI_8 (gh 61 0) to.toNat = AI (gh 61 0) fm.toNat ∧ AI_8 (gh 63 0) to.toNat = AI (gh 63 0) fm.toNat) → ((∀ j : Nat, (j : Int) < 4 * to ∨ 4 * to + i ≤ (j : Int) → AI_8 (gh 62 0) j = AI (gh 62 0) j) ∧ ∀ t : Nat, (t : Int) < i → AI_8 (gh 62 0) ((4 * to).toNat + t) = AI (gh 62 0) ((4 * fm).toNat + t)) → (∀ b, b ≠ gh 61 0 → b ≠ gh 62 0 → b ≠ gh 63 0 → AI_8 b = AI b) → (4 - i) < ((NN : Nat) : Int) → gH g I R J AI_8 AJ AR H → va_S (gA g) s.heap H locs → lv_has ls 4 [(3, .int (iI i)), (0, .ref mo), (1, .int (iI fm)), (2, .int (iI to))] → W p l e rmX7_movesf s m ([.ref mo, .int (iI fm), .int (iI to)] : List Value).toArray below meth c H locs 0 0 (MQ below (gQv g (fun w : gS => I = w.1 ∧ R = w.2.1 ∧ J = w.2.2.1 ∧ AJ = w.2.2.2.2.1 ∧ AR = w.2.2.2.2.2 ∧ (mInv g gh R I (w.2.2.2.1)) ∧ ((w.2.2.2.1) (gh 50 0) = T) ∧ (mvP (AI (gh 61 0)) (AI (gh 62 0)) (AI (gh 63 0)) ((w.2.2.2.1) (gh 61 0)) ((w.2.2.2.1) (gh 62 0)) ((w.2.2.2.1) (gh 63 0)) fm to) ∧ (∀ b, b ≠ gh 61 0 → b ≠ gh 62 0 → b ≠ gh 63 0 → (w.2.2.2.1) b = AI b))) ([.ref mo, .int (iI fm), .int (iI to)] : List Value).toArray s 0 0 (gA g)) (F0 m 26 ls []) := by
    intro NN26
    induction NN26 with
    | zero =>
      intro i AI_8 H locs ls zi hv hT hi mT mV mZ hm26 hH hS hl
      exact absurd hm26 (by omega)
    | succ NN26 ih26 =>
      intro i AI_8 H locs ls zi hv hT hi mT mV mZ hm26 hH hS hl
      refine lv_iload_n F.1 F.2.1 dX7_moves_26 rfl (lv_at hl 0 rfl) ?_
      refine z_iconst F dX7_moves_27 ?_
      refine z_icmp_ge (tgt := 57) F dX7_moves_28 (by decide) zi ⟨by decide, by decide⟩ (fun c_10 => ?_) (fun c_10 => ?_)
      · exact g_vret F hr hlk hH hS hz ⟨rfl, rfl, rfl, rfl, rfl, hv, hT, ⟨mT.1, mT.2.1, mT.2.2, fun j hj => mV.1 j (by omega), fun t ht => mV.2 t (by omega)⟩, mZ⟩ dX7_moves_57
      · refine lv_aload_n F.1 F.2.1 dX7_moves_31 rfl (lv_at hl 1 rfl) ?_
        obtain ⟨r_11a, r_11b⟩ : R mo 12 = some (gh 62 0) ∧ gAr g (gh 62 0) 9 164 := mR hv hm (q := (12, 164)) (by decide)
        refine g_getR (ci := 7) (k := 12) F hH rfl (by decide) iX7 hm (by decide) rfl (b := gh 62 0) r_11a k33 dX7_moves_32 ?_
        refine z_iconst F dX7_moves_35 ?_
        refine lv_iload_n F.1 F.2.1 dX7_moves_36 rfl (lv_at hl 3 rfl) ?_
        refine z_imul F dX7_moves_37 ?_
        refine lv_iload_n F.1 F.2.1 dX7_moves_38 rfl (lv_at hl 0 rfl) ?_
        refine z_iadd F dX7_moves_39 ?_
        refine lv_aload_n F.1 F.2.1 dX7_moves_40 rfl (lv_at hl 1 rfl) ?_
        refine g_getR (ci := 7) (k := 12) F hH rfl (by decide) iX7 hm (by decide) rfl (b := gh 62 0) r_11a k33 dX7_moves_41 ?_
        refine z_iconst F dX7_moves_44 ?_
        refine lv_iload_n F.1 F.2.1 dX7_moves_45 rfl (lv_at hl 2 rfl) ?_
        refine z_imul F dX7_moves_46 ?_
        refine lv_iload_n F.1 F.2.1 dX7_moves_47 rfl (lv_at hl 0 rfl) ?_
        refine z_iadd F dX7_moves_48 ?_
        have hx49 : 0 ≤ ((4 * fm) + i) ∧ ((4 * fm) + i) < ((164 : Nat) : Int) ∧ ((4 * fm) + i) ≤ 2147483647 := ⟨by omega, by omega, by omega⟩
        refine g_iald F hH r_11b hx49.1 hx49.2.1 hx49.2.2 dX7_moves_49 ?_
        refine z_name (fun v_12 ev_12 => ?_)
        have zv_12 : zr v_12 := by rw [ev_12]; exact zr_t _
        have hx50 : 0 ≤ ((4 * to) + i) ∧ ((4 * to) + i) < ((164 : Nat) : Int) ∧ ((4 * to) + i) ≤ 2147483647 := ⟨by omega, by omega, by omega⟩
        refine g_iast F hH hS r_11b hx50.1 hx50.2.1 hx50.2.2 dX7_moves_50 (fun H locs hH hS => ?_)
        obtain ⟨AI_13, eAI_13⟩ : ∃ qQ, qQ = gup2 AI_8 (gh 62 0) (((4 * to) + i)).toNat (iI (v_12)) := ⟨_, rfl⟩
        rw [← eAI_13] at hH
        have kAI_13 : ∀ b, b ≠ (gh 62 0) → AI_13 b = AI_8 b := fun b hb => by rw [eAI_13]; exact funext fun j => gup2_a _ _ hb
        have hvO := hv
        have t_14 : AI_13 (gh 50 0) = AI_8 (gh 50 0) := mK hv hm (p := (0, 640)) (q := (12, 164)) (by decide) (by decide) (by decide) kAI_13
        have hv : mInv g gh R I AI_13 := mInv_b hv hm (q := (12, 164)) (by decide) (by decide) h62 kAI_13
        have hT : AI_13 (gh 50 0) = T := t_14.trans hT
        have t3 : AI_13 (gh 61 0) = AI_8 (gh 61 0) := mK hvO hm (p := (11, 41)) (q := (12, 164)) (by decide) (by decide) (by decide) kAI_13
        have c3 : AI_13 (gh 63 0) = AI_8 (gh 63 0) := mK hvO hm (p := (13, 41)) (q := (12, 164)) (by decide) (by decide) (by decide) kAI_13
        have mT : (∀ j : Nat, j ≠ to.toNat → AI_13 (gh 61 0) j = AI (gh 61 0) j ∧ AI_13 (gh 63 0) j = AI (gh 63 0) j) ∧ AI_13 (gh 61 0) to.toNat = AI (gh 61 0) fm.toNat ∧ AI_13 (gh 63 0) to.toNat = AI (gh 63 0) fm.toNat := by rw [t3, c3]; exact mT
        have mV : (∀ j : Nat, (j : Int) < 4 * to ∨ 4 * to + (i + 1) ≤ (j : Int) → AI_13 (gh 62 0) j = AI (gh 62 0) j) ∧ ∀ t : Nat, (t : Int) < i + 1 → AI_13 (gh 62 0) ((4 * to).toNat + t) = AI (gh 62 0) ((4 * fm).toNat + t) := ⟨fun j hj => by rw [eAI_13, gup2_k _ _ (by omega)]; exact mV.1 j (by omega), fun t ht => by
          by_cases e9 : (t : Int) = i
          · rw [eAI_13, gup2_e _ _ (by omega), ev_12, iI_self, show (4 * fm).toNat + t = (4 * fm + i).toNat by omega]; exact mV.1 _ (by omega)
          · rw [eAI_13, gup2_k _ _ (by omega)]; exact mV.2 t (by omega)⟩
        have mZ : ∀ b, b ≠ gh 61 0 → b ≠ gh 62 0 → b ≠ gh 63 0 → AI_13 b = AI b := fun b h h2 h3 => (kAI_13 b h2).trans (mZ b h h2 h3)
        refine z_iinc (lv' := [(3, .int (iI (i + 1))), (0, .ref mo), (1, .int (iI fm)), (2, .int (iI to))]) F dX7_moves_51 hl (k := 0) rfl (by decide) rfl (fun ls hl => ?_)
        refine z_goto (tgt := 26) F dX7_moves_54 (by decide) ?_
        exact ih26 (i + 1) AI_13 H locs ls ⟨by omega, by omega⟩ hv hT (by omega) mT mV mZ (by omega) hH hS (lv_sub hl [0, 1, 2, 3] rfl)
  exact cut_26_8 (((4 - 0) + 1 : Int).toNat) 0 AI_6 H locs ls ⟨by decide, by decide⟩ hv hT (by omega) mT mV mZ (by omega) hH hS (lv_sub hl [0, 1, 2, 3] rfl)
