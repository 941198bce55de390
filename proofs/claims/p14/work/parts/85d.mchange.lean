section
def rmX7_isRelationf : Room := { frames := 1, cells := 0, slots := 0, locals := 22 }
set_option maxHeartbeats 4000000 in
set_option maxRecDepth 100000 in
/-- a relation -/
theorem c_X7_isRelationf (l : Launch) (g : gG) (gh : gGh) (T : Nat → Int32) (I : gI) (R : gR) (J : gJ) (AI : gI) (AJ : gJ) (AR : gR) (mo : Nat) (rr : Int) (zrr : zr rr) (hv : mInv g gh R I AI) (hm : gO g mo 7) (hT : AI (gh 50 0) = T) : gMet l g yX7_isRelation tsX7_isRelation rmX7_isRelationf [.ref mo, .int (iI rr)] (I, R, J, AI, AJ, AR) (gQi g (fun (z : Int) (w : gS) => I = w.1 ∧ R = w.2.1 ∧ J = w.2.2.1 ∧ AI = w.2.2.2.1 ∧ AJ = w.2.2.2.2.1 ∧ AR = w.2.2.2.2.2 ∧ ((z = 0 ∨ z = 1) ∧ (z = 1 → 0 ≤ rr ∧ rr < (I mo 2).toInt ∧ rr ≤ 15)) ∧ (z = 0 → rr < 0 ∨ (I mo 2).toInt ≤ rr))) := by
  refine gStart (cc := cX7_isRelation) (maxL := 2) (ret := (some (.boolean))) (by decide) rfl (Nat.le_of_ble_eq_true rfl) ?_
  intro p e s m below meth c ls F hr hlk hH hz hS hl
  have hl : lv_has ls 2 [(0, .ref mo), (1, .int (iI rr))] := hl
  have hS : va_S (gA g) s.heap s.heap [] := hS
  obtain ⟨H, hHe⟩ : ∃ H : Heap, H = s.heap := ⟨_, rfl⟩
  obtain ⟨locs, hlo⟩ : ∃ k : List Loc, k = [] := ⟨_, rfl⟩
  have hH : gH g I R J AI AJ AR H := by rw [hHe]; exact hH
  have hS : va_S (gA g) s.heap H locs := by rw [hHe, hlo]; exact hS
  suffices hw : W p l e rmX7_isRelationf s m ([.ref mo, .int (iI rr)] : List Value).toArray below meth c H locs 0 0 (MQ below (gQi g (fun (z : Int) (w : gS) => I = w.1 ∧ R = w.2.1 ∧ J = w.2.2.1 ∧ AI = w.2.2.2.1 ∧ AJ = w.2.2.2.2.1 ∧ AR = w.2.2.2.2.2 ∧ ((z = 0 ∨ z = 1) ∧ (z = 1 → 0 ≤ rr ∧ rr < (I mo 2).toInt ∧ rr ≤ 15)) ∧ (z = 0 → rr < 0 ∨ (I mo 2).toInt ≤ rr))) ([.ref mo, .int (iI rr)] : List Value).toArray s 0 0 (gA g)) (F0 m 0 ls []) by
    rw [hHe, hlo] at hw; exact hw
  clear hHe hlo
  have iX7 : ∀ w ∈ u_ws RX7 TX7 32, w ∈ tsX7_isRelation := fun w h => List.mem_cons_of_mem _ (inTB7 w h)
  have k64 : Cond.fieldLink RX7 64 (TX7 2).1 (TX7 2).2.1 (TX7 2).2.2.1 ∈ tsX7_isRelation := List.mem_cons_of_mem _ fl_64
  refine lv_iload_n F.1 F.2.1 dX7_isRelation_0 rfl (lv_at hl 1 rfl) ?_
  refine z_iconst F dX7_isRelation_1 ?_
  refine lv_aload_n F.1 F.2.1 dX7_isRelation_2 rfl (lv_at hl 0 rfl) ?_
  refine g_getI (ci := 7) (k := 2) F hH rfl (by decide) iX7 hm (by decide) rfl k64 dX7_isRelation_3 ?_
  have b_1 := mJ hv hm
  unfold mNum1 at b_1
  refine z_iconst F dX7_isRelation_6 ?_
  refine z_isub F dX7_isRelation_7 ?_
  refine g_calli (g_runS (As := [.int (iI rr), .int (iI 0), .int (iI (((I mo 2).toInt) - 1))]) (rest := []) F hl.1 hH hS hz (c_X7_within l g  I R J AI AJ AR rr 0 (((I mo 2).toInt) - 1) zrr ⟨by decide, by decide⟩ ⟨by omega, by omega⟩) (va_cwS 3 F.2.2.2.2.1 (good_up gT_X7_within) rfl rfl rfl hdX7_within.2 ⟨Nat.le_of_ble_eq_true rfl, Nat.le_of_ble_eq_true rfl⟩) rfl rfl (Nat.le_of_ble_eq_true rfl) dX7_isRelation_8 ⟨Nat.zero_le _, Nat.zero_le _⟩) hS (fun v_8 I_2 R_3 J_4 AI_5 AJ_6 AR_7 H locs zv_8 hp_9 hH hS => ?_)
  dsimp only at hp_9
  obtain ⟨rfl, rfl, rfl, rfl, rfl, rfl, q_10⟩ := hp_9
  exact g_zret F hr hlk hH hS hz (by omega) ⟨rfl, rfl, rfl, rfl, rfl, rfl, ⟨by omega, fun _ => by omega⟩, fun h => by omega⟩ dX7_isRelation_11

def rmX7_comparef : Room := { frames := 0, cells := 0, slots := 0, locals := 0 }
set_option maxHeartbeats 4000000 in
set_option maxRecDepth 100000 in
/-- compares -/
theorem c_X7_comparef (l : Launch) (g : gG) (n n2 : Nat) (I : gI) (R : gR) (J : gJ) (AI : gI) (AJ : gJ) (AR : gR) (o : Nat) (fr : Int) (o2 : Nat) (fr2 : Int) (zfr : zr fr) (zfr2 : zr fr2) (ho : gAr g o 9 n) (ho2 : gAr g o2 9 n2) (h0 : 0 ≤ fr ∧ fr + 4 ≤ (n : Int)) (h1 : 0 ≤ fr2 ∧ fr2 + 4 ≤ (n2 : Int)) (hn : n ≤ 126720) (hn2 : n2 ≤ 126720) : gMet l g yX7_compare tsX7_compare rmX7_comparef [.ref o, .int (iI fr), .ref o2, .int (iI fr2)] (I, R, J, AI, AJ, AR) (gQi g (fun (z : Int) (w : gS) => I = w.1 ∧ R = w.2.1 ∧ J = w.2.2.1 ∧ AI = w.2.2.2.1 ∧ AJ = w.2.2.2.2.1 ∧ AR = w.2.2.2.2.2 ∧ (-1 ≤ z ∧ z ≤ 1) ∧ (z = kc 4 (rk (AI o) fr) (rk (AI o2) fr2)))) := by
  refine gStart (cc := cX7_compare) (maxL := 5) (ret := (some (.int))) (by decide) rfl (Nat.le_of_ble_eq_true rfl) ?_
  intro p e s m below meth c ls F hr hlk hH hz hS hl
  have hl : lv_has ls 5 [(0, .ref o), (1, .int (iI fr)), (2, .ref o2), (3, .int (iI fr2))] := hl
  have hS : va_S (gA g) s.heap s.heap [] := hS
  obtain ⟨H, hHe⟩ : ∃ H : Heap, H = s.heap := ⟨_, rfl⟩
  obtain ⟨locs, hlo⟩ : ∃ k : List Loc, k = [] := ⟨_, rfl⟩
  have hH : gH g I R J AI AJ AR H := by rw [hHe]; exact hH
  have hS : va_S (gA g) s.heap H locs := by rw [hHe, hlo]; exact hS
  suffices hw : W p l e rmX7_comparef s m ([.ref o, .int (iI fr), .ref o2, .int (iI fr2)] : List Value).toArray below meth c H locs 0 0 (MQ below (gQi g (fun (z : Int) (w : gS) => I = w.1 ∧ R = w.2.1 ∧ J = w.2.2.1 ∧ AI = w.2.2.2.1 ∧ AJ = w.2.2.2.2.1 ∧ AR = w.2.2.2.2.2 ∧ (-1 ≤ z ∧ z ≤ 1) ∧ (z = kc 4 (rk (AI o) fr) (rk (AI o2) fr2)))) ([.ref o, .int (iI fr), .ref o2, .int (iI fr2)] : List Value).toArray s 0 0 (gA g)) (F0 m 0 ls []) by
    rw [hHe, hlo] at hw; exact hw
  clear hHe hlo
  refine z_iconst F dX7_compare_0 ?_
  refine lv_istore (lv' := [(4, .int (iI 0)), (0, .ref o), (1, .int (iI fr)), (2, .ref o2), (3, .int (iI fr2))]) F.1 F.2.1 dX7_compare_1 hl (by decide) rfl (fun ls hl => ?_)
  have cut_3_0 : ∀ (NN : Nat) (k : Int) (H : Heap) (locs : List Loc) (ls : Array Slot), zr k → (0 ≤ k ∧ k ≤ 4) → (kc 4 (rk (AI o) fr) (rk (AI o2) fr2) = kcF (rk (AI o) fr) (rk (AI o2) fr2) (4 - k.toNat) k.toNat) → (4 - k) < ((NN : Nat) : Int) → gH g I R J AI AJ AR H → va_S (gA g) s.heap H locs → lv_has ls 5 [(4, .int (iI k)), (0, .ref o), (1, .int (iI fr)), (2, .ref o2), (3, .int (iI fr2))] → W p l e rmX7_comparef s m ([.ref o, .int (iI fr), .ref o2, .int (iI fr2)] : List Value).toArray below meth c H locs 0 0 (MQ below (gQi g (fun (z : Int) (w : gS) => I = w.1 ∧ R = w.2.1 ∧ J = w.2.2.1 ∧ AI = w.2.2.2.1 ∧ AJ = w.2.2.2.2.1 ∧ AR = w.2.2.2.2.2 ∧ (-1 ≤ z ∧ z ≤ 1) ∧ (z = kc 4 (rk (AI o) fr) (rk (AI o2) fr2)))) ([.ref o, .int (iI fr), .ref o2, .int (iI fr2)] : List Value).toArray s 0 0 (gA g)) (F0 m 3 ls []) := by
    intro NN3
    induction NN3 with
    | zero =>
      intro k H locs ls zk hk hkc hm3 hH hS hl
      exact absurd hm3 (by omega)
    | succ NN3 ih3 =>
      intro k H locs ls zk hk hkc hm3 hH hS hl
      refine lv_iload F.1 F.2.1 dX7_compare_3 (lv_at hl 0 rfl) ?_
      refine z_iconst F dX7_compare_5 ?_
      refine z_icmp_ge (tgt := 51) F dX7_compare_6 (by decide) zk ⟨by decide, by decide⟩ (fun c_2 => ?_) (fun c_2 => ?_)
      · refine z_iconst F dX7_compare_51 ?_
        exact g_iret F hr hlk hH hS hz ⟨by decide, by decide⟩ ⟨rfl, rfl, rfl, rfl, rfl, rfl, by first | omega | rfl | (dsimp only; omega), by (try dsimp only); rw [hkc, show 4 - k.toNat = 0 by omega]; rfl⟩ dX7_compare_52
      · refine lv_aload_n F.1 F.2.1 dX7_compare_9 rfl (lv_at hl 1 rfl) ?_
        refine lv_iload_n F.1 F.2.1 dX7_compare_10 rfl (lv_at hl 2 rfl) ?_
        refine lv_iload F.1 F.2.1 dX7_compare_11 (lv_at hl 0 rfl) ?_
        refine z_iadd F dX7_compare_13 ?_
        have hx14 : 0 ≤ (fr + k) ∧ (fr + k) < ((n : Nat) : Int) ∧ (fr + k) ≤ 2147483647 := ⟨by omega, by omega, by omega⟩
        refine g_iald F hH ho hx14.1 hx14.2.1 hx14.2.2 dX7_compare_14 ?_
        refine z_name (fun v_3 ev_3 => ?_)
        have zv_3 : zr v_3 := by rw [ev_3]; exact zr_t _
        have t14 : rk (AI o) (fr) k.toNat = v_3 := by rw [rk_at (by omega) (by omega), ev_3]
        refine lv_aload_n F.1 F.2.1 dX7_compare_15 rfl (lv_at hl 3 rfl) ?_
        refine lv_iload_n F.1 F.2.1 dX7_compare_16 rfl (lv_at hl 4 rfl) ?_
        refine lv_iload F.1 F.2.1 dX7_compare_17 (lv_at hl 0 rfl) ?_
        refine z_iadd F dX7_compare_19 ?_
        have hx20 : 0 ≤ (fr2 + k) ∧ (fr2 + k) < ((n2 : Nat) : Int) ∧ (fr2 + k) ≤ 2147483647 := ⟨by omega, by omega, by omega⟩
        refine g_iald F hH ho2 hx20.1 hx20.2.1 hx20.2.2 dX7_compare_20 ?_
        refine z_name (fun v_4 ev_4 => ?_)
        have zv_4 : zr v_4 := by rw [ev_4]; exact zr_t _
        have t20 : rk (AI o2) (fr2) k.toNat = v_4 := by rw [rk_at (by omega) (by omega), ev_4]
        refine z_icmp_eq (tgt := 45) F dX7_compare_21 (by decide) zv_3 zv_4 (fun c_5 => ?_) (fun c_5 => ?_)
        · have hkn := kcF_n (u := (rk (AI o) fr)) (v := (rk (AI o2) fr2)) (K := 4) (k := k) (by omega) (by omega) (by rw [t14, t20]; omega)
          refine z_iinc (lv' := [(4, .int (iI (k + 1))), (0, .ref o), (1, .int (iI fr)), (2, .ref o2), (3, .int (iI fr2))]) F dX7_compare_45 hl (k := 0) rfl (by decide) rfl (fun ls hl => ?_)
          refine z_goto (tgt := 3) F dX7_compare_48 (by decide) ?_
          exact ih3 (k + 1) H locs ls ⟨by omega, by omega⟩ (by omega) (by first | exact hkc.trans hkn | rfl) (by omega) hH hS (lv_sub hl [0, 1, 2, 3, 4] rfl)
        · refine lv_aload_n F.1 F.2.1 dX7_compare_24 rfl (lv_at hl 1 rfl) ?_
          refine lv_iload_n F.1 F.2.1 dX7_compare_25 rfl (lv_at hl 2 rfl) ?_
          refine lv_iload F.1 F.2.1 dX7_compare_26 (lv_at hl 0 rfl) ?_
          refine z_iadd F dX7_compare_28 ?_
          have hx29 : 0 ≤ (fr + k) ∧ (fr + k) < ((n : Nat) : Int) ∧ (fr + k) ≤ 2147483647 := ⟨by omega, by omega, by omega⟩
          refine g_iald F hH ho hx29.1 hx29.2.1 hx29.2.2 dX7_compare_29 ?_
          refine z_name (fun v_6 ev_6 => ?_)
          have zv_6 : zr v_6 := by rw [ev_6]; exact zr_t _
          have t29 : rk (AI o) (fr) k.toNat = v_6 := by rw [rk_at (by omega) (by omega), ev_6]
          refine lv_aload_n F.1 F.2.1 dX7_compare_30 rfl (lv_at hl 3 rfl) ?_
          refine lv_iload_n F.1 F.2.1 dX7_compare_31 rfl (lv_at hl 4 rfl) ?_
          refine lv_iload F.1 F.2.1 dX7_compare_32 (lv_at hl 0 rfl) ?_
          refine z_iadd F dX7_compare_34 ?_
          have hx35 : 0 ≤ (fr2 + k) ∧ (fr2 + k) < ((n2 : Nat) : Int) ∧ (fr2 + k) ≤ 2147483647 := ⟨by omega, by omega, by omega⟩
          refine g_iald F hH ho2 hx35.1 hx35.2.1 hx35.2.2 dX7_compare_35 ?_
          refine z_name (fun v_7 ev_7 => ?_)
          have zv_7 : zr v_7 := by rw [ev_7]; exact zr_t _
          have t35 : rk (AI o2) (fr2) k.toNat = v_7 := by rw [rk_at (by omega) (by omega), ev_7]
          refine z_icmp_ge (tgt := 43) F dX7_compare_36 (by decide) zv_6 zv_7 (fun c_8 => ?_) (fun c_8 => ?_)
          · refine z_iconst F dX7_compare_43 ?_
            exact g_iret F hr hlk hH hS hz ⟨by decide, by decide⟩ ⟨rfl, rfl, rfl, rfl, rfl, rfl, by first | omega | rfl | (dsimp only; omega), by (try dsimp only); rw [hkc]; first | exact (kcF_ln (by omega) (by omega) (by rw [t29, t35]; omega)).symm | exact (kcF_gn (by omega) (by omega) (by rw [t29, t35]; omega)).symm⟩ dX7_compare_44
          · refine z_iconst F dX7_compare_39 ?_
            refine z_goto (tgt := 44) F dX7_compare_40 (by decide) ?_
            exact g_iret F hr hlk hH hS hz ⟨by decide, by decide⟩ ⟨rfl, rfl, rfl, rfl, rfl, rfl, by first | omega | rfl | (dsimp only; omega), by (try dsimp only); rw [hkc]; first | exact (kcF_ln (by omega) (by omega) (by rw [t29, t35]; omega)).symm | exact (kcF_gn (by omega) (by omega) (by rw [t29, t35]; omega)).symm⟩ dX7_compare_44
  exact cut_3_0 (((4 - 0) + 1 : Int).toNat) 0 H locs ls ⟨by decide, by decide⟩ (by omega) (by first | exact hkc.trans hkn | rfl) (by omega) hH hS (lv_sub hl [0, 1, 2, 3, 4] rfl)

def rmX7_movesf : Room := { frames := 0, cells := 0, slots := 0, locals := 0 }
set_option maxHeartbeats 4000000 in
set_option maxRecDepth 100000 in
/-- moves -/
theorem c_X7_movesf (l : Launch) (g : gG) (gh : gGh) (T : Nat → Int32) (I : gI) (R : gR) (J : gJ) (AI : gI) (AJ : gJ) (AR : gR) (mo : Nat) (fm : Int) (to : Int) (zfm : zr fm) (zto : zr to) (hv : mInv g gh R I AI) (hm : gO g mo 7) (hT : AI (gh 50 0) = T) (h0 : 0 ≤ fm ∧ fm ≤ 40 ∧ 0 ≤ to ∧ to ≤ 40) (h61 : gh 9 (gh 61 0) = 5) (h62 : gh 9 (gh 62 0) = 5) (h63 : gh 9 (gh 63 0) = 5) : gMet l g yX7_moves tsX7_moves rmX7_movesf [.ref mo, .int (iI fm), .int (iI to)] (I, R, J, AI, AJ, AR) (gQv g (fun w : gS => I = w.1 ∧ R = w.2.1 ∧ J = w.2.2.1 ∧ AJ = w.2.2.2.2.1 ∧ AR = w.2.2.2.2.2 ∧ (mInv g gh R I (w.2.2.2.1)) ∧ ((w.2.2.2.1) (gh 50 0) = T) ∧ (mvP (AI (gh 61 0)) (AI (gh 62 0)) (AI (gh 63 0)) ((w.2.2.2.1) (gh 61 0)) ((w.2.2.2.1) (gh 62 0)) ((w.2.2.2.1) (gh 63 0)) fm to) ∧ (∀ b, b ≠ gh 61 0 → b ≠ gh 62 0 → b ≠ gh 63 0 → (w.2.2.2.1) b = AI b))) := by
  refine gStart (cc := cX7_moves) (maxL := 4) (ret := none) (by decide) rfl (Nat.le_of_ble_eq_true rfl) ?_
  intro p e s m below meth c ls F hr hlk hH hz hS hl
  have hl : lv_has ls 4 [(0, .ref mo), (1, .int (iI fm)), (2, .int (iI to))] := hl
  have hS : va_S (gA g) s.heap s.heap [] := hS
  obtain ⟨H, hHe⟩ : ∃ H : Heap, H = s.heap := ⟨_, rfl⟩
  obtain ⟨locs, hlo⟩ : ∃ k : List Loc, k = [] := ⟨_, rfl⟩
  have hH : gH g I R J AI AJ AR H := by rw [hHe]; exact hH
  have hS : va_S (gA g) s.heap H locs := by rw [hHe, hlo]; exact hS
  suffices hw : W p l e rmX7_movesf s m ([.ref mo, .int (iI fm), .int (iI to)] : List Value).toArray below meth c H locs 0 0 (MQ below (gQv g (fun w : gS => I = w.1 ∧ R = w.2.1 ∧ J = w.2.2.1 ∧ AJ = w.2.2.2.2.1 ∧ AR = w.2.2.2.2.2 ∧ (mInv g gh R I (w.2.2.2.1)) ∧ ((w.2.2.2.1) (gh 50 0) = T) ∧ (mvP (AI (gh 61 0)) (AI (gh 62 0)) (AI (gh 63 0)) ((w.2.2.2.1) (gh 61 0)) ((w.2.2.2.1) (gh 62 0)) ((w.2.2.2.1) (gh 63 0)) fm to) ∧ (∀ b, b ≠ gh 61 0 → b ≠ gh 62 0 → b ≠ gh 63 0 → (w.2.2.2.1) b = AI b))) ([.ref mo, .int (iI fm), .int (iI to)] : List Value).toArray s 0 0 (gA g)) (F0 m 0 ls []) by
    rw [hHe, hlo] at hw; exact hw
  clear hHe hlo
  have iX7 : ∀ w ∈ u_ws RX7 TX7 32, w ∈ tsX7_moves := fun w h => List.mem_cons_of_mem _ (inTB7 w h)
  have k30 : Cond.fieldLink RX7 30 (TX7 11).1 (TX7 11).2.1 (TX7 11).2.2.1 ∈ tsX7_moves := List.mem_cons_of_mem _ fl_30
  have k36 : Cond.fieldLink RX7 36 (TX7 13).1 (TX7 13).2.1 (TX7 13).2.2.1 ∈ tsX7_moves := List.mem_cons_of_mem _ fl_36
  have k33 : Cond.fieldLink RX7 33 (TX7 12).1 (TX7 12).2.1 (TX7 12).2.2.1 ∈ tsX7_moves := List.mem_cons_of_mem _ fl_33
  refine lv_aload_n F.1 F.2.1 dX7_moves_0 rfl (lv_at hl 0 rfl) ?_
  obtain ⟨r_1a, r_1b⟩ : R mo 11 = some (gh 61 0) ∧ gAr g (gh 61 0) 9 41 := mR hv hm (q := (11, 41)) (by decide)
  refine g_getR (ci := 7) (k := 11) F hH rfl (by decide) iX7 hm (by decide) rfl (b := gh 61 0) r_1a k30 dX7_moves_1 ?_
  refine lv_iload_n F.1 F.2.1 dX7_moves_4 rfl (lv_at hl 2 rfl) ?_
  refine lv_aload_n F.1 F.2.1 dX7_moves_5 rfl (lv_at hl 0 rfl) ?_
  refine g_getR (ci := 7) (k := 11) F hH rfl (by decide) iX7 hm (by decide) rfl (b := gh 61 0) r_1a k30 dX7_moves_6 ?_
  refine lv_iload_n F.1 F.2.1 dX7_moves_9 rfl (lv_at hl 1 rfl) ?_
  have hx10 : 0 ≤ fm ∧ fm < ((41 : Nat) : Int) ∧ fm ≤ 2147483647 := ⟨by omega, by omega, by omega⟩
  refine g_iald F hH r_1b hx10.1 hx10.2.1 hx10.2.2 dX7_moves_10 ?_
  have q10 := mCt hv hm (z := fm) (by omega) (by omega)
  have hx11 : 0 ≤ to ∧ to < ((41 : Nat) : Int) ∧ to ≤ 2147483647 := ⟨by omega, by omega, by omega⟩
  refine g_iast F hH hS r_1b hx11.1 hx11.2.1 hx11.2.2 dX7_moves_11 (fun H locs hH hS => ?_)
  obtain ⟨AI_2, eAI_2⟩ : ∃ qQ, qQ = gup2 AI (gh 61 0) (to).toNat (iI ((AI (gh 61 0) (fm).toNat).toInt)) := ⟨_, rfl⟩
  rw [← eAI_2] at hH
  have kAI_2 : ∀ b, b ≠ (gh 61 0) → AI_2 b = AI b := fun b hb => by rw [eAI_2]; exact funext fun j => gup2_a _ _ hb
  have hvO := hv
  have t_3 : AI_2 (gh 50 0) = AI (gh 50 0) := mK hv hm (p := (0, 640)) (q := (11, 41)) (by decide) (by decide) (by decide) kAI_2
  have hv : mInv g gh R I AI_2 := mInv_ct1 hv hm h61 eAI_2 (by omega) (by omega)
  have hT : AI_2 (gh 50 0) = T := t_3.trans hT
  have p1 : ∀ j : Nat, j ≠ to.toNat → AI_2 (gh 61 0) j = AI (gh 61 0) j := fun j hj => by rw [eAI_2]; exact gup2_k _ _ hj
  have p1b : AI_2 (gh 61 0) to.toNat = AI (gh 61 0) fm.toNat := by rw [eAI_2, gup2_s, iI_self]
  have c1 : AI_2 (gh 63 0) = AI (gh 63 0) := mK hvO hm (p := (13, 41)) (q := (11, 41)) (by decide) (by decide) (by decide) kAI_2
  have v1 : AI_2 (gh 62 0) = AI (gh 62 0) := mK hvO hm (p := (12, 164)) (q := (11, 41)) (by decide) (by decide) (by decide) kAI_2
  have z1 : ∀ b, b ≠ gh 61 0 → b ≠ gh 62 0 → b ≠ gh 63 0 → AI_2 b = AI b := fun b h _ _ => kAI_2 b h
  refine lv_aload_n F.1 F.2.1 dX7_moves_12 rfl (lv_at hl 0 rfl) ?_
  obtain ⟨r_4a, r_4b⟩ : R mo 13 = some (gh 63 0) ∧ gAr g (gh 63 0) 9 41 := mR hv hm (q := (13, 41)) (by decide)
  refine g_getR (ci := 7) (k := 13) F hH rfl (by decide) iX7 hm (by decide) rfl (b := gh 63 0) r_4a k36 dX7_moves_13 ?_
  refine lv_iload_n F.1 F.2.1 dX7_moves_16 rfl (lv_at hl 2 rfl) ?_
  refine lv_aload_n F.1 F.2.1 dX7_moves_17 rfl (lv_at hl 0 rfl) ?_
  refine g_getR (ci := 7) (k := 13) F hH rfl (by decide) iX7 hm (by decide) rfl (b := gh 63 0) r_4a k36 dX7_moves_18 ?_
  refine lv_iload_n F.1 F.2.1 dX7_moves_21 rfl (lv_at hl 1 rfl) ?_
  have hx22 : 0 ≤ fm ∧ fm < ((41 : Nat) : Int) ∧ fm ≤ 2147483647 := ⟨by omega, by omega, by omega⟩
  refine g_iald F hH r_4b hx22.1 hx22.2.1 hx22.2.2 dX7_moves_22 ?_
  refine z_name (fun v_5 ev_5 => ?_)
  have zv_5 : zr v_5 := by rw [ev_5]; exact zr_t _
  have hx23 : 0 ≤ to ∧ to < ((41 : Nat) : Int) ∧ to ≤ 2147483647 := ⟨by omega, by omega, by omega⟩
  refine g_iast F hH hS r_4b hx23.1 hx23.2.1 hx23.2.2 dX7_moves_23 (fun H locs hH hS => ?_)
  obtain ⟨AI_6, eAI_6⟩ : ∃ qQ, qQ = gup2 AI_2 (gh 63 0) (to).toNat (iI (v_5)) := ⟨_, rfl⟩
  rw [← eAI_6] at hH
  have kAI_6 : ∀ b, b ≠ (gh 63 0) → AI_6 b = AI_2 b := fun b hb => by rw [eAI_6]; exact funext fun j => gup2_a _ _ hb
  have hvO := hv
  have t_7 : AI_6 (gh 50 0) = AI_2 (gh 50 0) := mK hv hm (p := (0, 640)) (q := (13, 41)) (by decide) (by decide) (by decide) kAI_6
  have hv : mInv g gh R I AI_6 := mInv_b hv hm (q := (13, 41)) (by decide) (by decide) h63 kAI_6
  have hT : AI_6 (gh 50 0) = T := t_7.trans hT
  have t2 : AI_6 (gh 61 0) = AI_2 (gh 61 0) := mK hvO hm (p := (11, 41)) (q := (13, 41)) (by decide) (by decide) (by decide) kAI_6
  have v2 : AI_6 (gh 62 0) = AI_2 (gh 62 0) := mK hvO hm (p := (12, 164)) (q := (13, 41)) (by decide) (by decide) (by decide) kAI_6
  have mT : (∀ j : Nat, j ≠ to.toNat → AI_6 (gh 61 0) j = AI (gh 61 0) j ∧ AI_6 (gh 63 0) j = AI (gh 63 0) j) ∧ AI_6 (gh 61 0) to.toNat = AI (gh 61 0) fm.toNat ∧ AI_6 (gh 63 0) to.toNat = AI (gh 63 0) fm.toNat := ⟨fun j hj => ⟨by rw [t2]; exact p1 j hj, by rw [eAI_6, gup2_k _ _ hj, c1]⟩, by rw [t2]; exact p1b, by rw [eAI_6, gup2_s, ev_5, iI_self, c1]⟩
  have mV : (∀ j : Nat, (j : Int) < 4 * to ∨ 4 * to + 0 ≤ (j : Int) → AI_6 (gh 62 0) j = AI (gh 62 0) j) ∧ ∀ t : Nat, (t : Int) < 0 → AI_6 (gh 62 0) ((4 * to).toNat + t) = AI (gh 62 0) ((4 * fm).toNat + t) := ⟨fun j _ => by rw [v2, v1], fun t ht => absurd ht (by omega)⟩
  have mZ : ∀ b, b ≠ gh 61 0 → b ≠ gh 62 0 → b ≠ gh 63 0 → AI_6 b = AI b := fun b h h2 h3 => (kAI_6 b h3).trans (z1 b h h2 h3)
  refine z_iconst F dX7_moves_24 ?_
  refine lv_istore_n (lv' := [(3, .int (iI 0)), (0, .ref mo), (1, .int (iI fm)), (2, .int (iI to))]) F.1 F.2.1 dX7_moves_25 rfl hl (by decide) rfl (fun ls hl => ?_)
  have cut_26_8 : ∀ (NN : Nat) (i : Int) (AI_8 : gI) (H : Heap) (locs : List Loc) (ls : Array Slot), zr i → (mInv g gh R I AI_8) → (AI_8 (gh 50 0) = T) → (0 ≤ i ∧ i ≤ 4) → ((∀ j : Nat, j ≠ to.toNat → AI_8 (gh 61 0) j = AI (gh 61 0) j ∧ AI_8 (gh 63 0) j = AI (gh 63 0) j) ∧ AI_8 (gh 61 0) to.toNat = AI (gh 61 0) fm.toNat ∧ AI_8 (gh 63 0) to.toNat = AI (gh 63 0) fm.toNat) → ((∀ j : Nat, (j : Int) < 4 * to ∨ 4 * to + i ≤ (j : Int) → AI_8 (gh 62 0) j = AI (gh 62 0) j) ∧ ∀ t : Nat, (t : Int) < i → AI_8 (gh 62 0) ((4 * to).toNat + t) = AI (gh 62 0) ((4 * fm).toNat + t)) → (∀ b, b ≠ gh 61 0 → b ≠ gh 62 0 → b ≠ gh 63 0 → AI_8 b = AI b) → (4 - i) < ((NN : Nat) : Int) → gH g I R J AI_8 AJ AR H → va_S (gA g) s.heap H locs → lv_has ls 4 [(3, .int (iI i)), (0, .ref mo), (1, .int (iI fm)), (2, .int (iI to))] → W p l e rmX7_movesf s m ([.ref mo, .int (iI fm), .int (iI to)] : List Value).toArray below meth c H locs 0 0 (MQ below (gQv g (fun w : gS => I = w.1 ∧ R = w.2.1 ∧ J = w.2.2.1 ∧ AJ = w.2.2.2.2.1 ∧ AR = w.2.2.2.2.2 ∧ (mInv g gh R I (w.2.2.2.1)) ∧ ((w.2.2.2.1) (gh 50 0) = T) ∧ (mvP (AI (gh 61 0)) (AI (gh 62 0)) (AI (gh 63 0)) ((w.2.2.2.1) (gh 61 0)) ((w.2.2.2.1) (gh 62 0)) ((w.2.2.2.1) (gh 63 0)) fm to) ∧ (∀ b, b ≠ gh 61 0 → b ≠ gh 62 0 → b ≠ gh 63 0 → (w.2.2.2.1) b = AI b))) ([.ref mo, .int (iI fm), .int (iI to)] : List Value).toArray s 0 0 (gA g)) (F0 m 26 ls []) := by
    intro NN26
    induction NN26 with
    | zero =>
      intro i AI_8 H locs ls zi hv hT hi mT mV mZ hm26 hH hS hl
      exact absurd hm26 (by omega)
    | succ NN26 ih26 =>
      intro i AI_8 H locs ls zi hv hT hi mT mV mZ hm26 hH hS hl
      refine lv_iload_n F.1 F.2.1 dX7_moves_26 rfl (lv_at hl 0 rfl) ?_
      refine z_iconst F dX7_moves_27 ?_
      refine z_icmp_ge (tgt := 57) F dX7_moves_28 (by decide) zi ⟨by decide, by decide⟩ (fun c_10 => ?_) (fun c_10 => ?_)
      · exact g_vret F hr hlk hH hS hz ⟨rfl, rfl, rfl, rfl, rfl, hv, hT, ⟨mT.1, mT.2.1, mT.2.2, fun j hj => mV.1 j (by omega), fun t ht => mV.2 t (by omega)⟩, mZ⟩ dX7_moves_57
      · refine lv_aload_n F.1 F.2.1 dX7_moves_31 rfl (lv_at hl 1 rfl) ?_
        obtain ⟨r_11a, r_11b⟩ : R mo 12 = some (gh 62 0) ∧ gAr g (gh 62 0) 9 164 := mR hv hm (q := (12, 164)) (by decide)
        refine g_getR (ci := 7) (k := 12) F hH rfl (by decide) iX7 hm (by decide) rfl (b := gh 62 0) r_11a k33 dX7_moves_32 ?_
        refine z_iconst F dX7_moves_35 ?_
        refine lv_iload_n F.1 F.2.1 dX7_moves_36 rfl (lv_at hl 3 rfl) ?_
        refine z_imul F dX7_moves_37 ?_
        refine lv_iload_n F.1 F.2.1 dX7_moves_38 rfl (lv_at hl 0 rfl) ?_
        refine z_iadd F dX7_moves_39 ?_
        refine lv_aload_n F.1 F.2.1 dX7_moves_40 rfl (lv_at hl 1 rfl) ?_
        refine g_getR (ci := 7) (k := 12) F hH rfl (by decide) iX7 hm (by decide) rfl (b := gh 62 0) r_11a k33 dX7_moves_41 ?_
        refine z_iconst F dX7_moves_44 ?_
        refine lv_iload_n F.1 F.2.1 dX7_moves_45 rfl (lv_at hl 2 rfl) ?_
        refine z_imul F dX7_moves_46 ?_
        refine lv_iload_n F.1 F.2.1 dX7_moves_47 rfl (lv_at hl 0 rfl) ?_
        refine z_iadd F dX7_moves_48 ?_
        have hx49 : 0 ≤ ((4 * fm) + i) ∧ ((4 * fm) + i) < ((164 : Nat) : Int) ∧ ((4 * fm) + i) ≤ 2147483647 := ⟨by omega, by omega, by omega⟩
        refine g_iald F hH r_11b hx49.1 hx49.2.1 hx49.2.2 dX7_moves_49 ?_
        refine z_name (fun v_12 ev_12 => ?_)
        have zv_12 : zr v_12 := by rw [ev_12]; exact zr_t _
        have hx50 : 0 ≤ ((4 * to) + i) ∧ ((4 * to) + i) < ((164 : Nat) : Int) ∧ ((4 * to) + i) ≤ 2147483647 := ⟨by omega, by omega, by omega⟩
        refine g_iast F hH hS r_11b hx50.1 hx50.2.1 hx50.2.2 dX7_moves_50 (fun H locs hH hS => ?_)
        obtain ⟨AI_13, eAI_13⟩ : ∃ qQ, qQ = gup2 AI_8 (gh 62 0) (((4 * to) + i)).toNat (iI (v_12)) := ⟨_, rfl⟩
        rw [← eAI_13] at hH
        have kAI_13 : ∀ b, b ≠ (gh 62 0) → AI_13 b = AI_8 b := fun b hb => by rw [eAI_13]; exact funext fun j => gup2_a _ _ hb
        have hvO := hv
        have t_14 : AI_13 (gh 50 0) = AI_8 (gh 50 0) := mK hv hm (p := (0, 640)) (q := (12, 164)) (by decide) (by decide) (by decide) kAI_13
        have hv : mInv g gh R I AI_13 := mInv_b hv hm (q := (12, 164)) (by decide) (by decide) h62 kAI_13
        have hT : AI_13 (gh 50 0) = T := t_14.trans hT
        have t3 : AI_13 (gh 61 0) = AI_8 (gh 61 0) := mK hvO hm (p := (11, 41)) (q := (12, 164)) (by decide) (by decide) (by decide) kAI_13
        have c3 : AI_13 (gh 63 0) = AI_8 (gh 63 0) := mK hvO hm (p := (13, 41)) (q := (12, 164)) (by decide) (by decide) (by decide) kAI_13
        have mT : (∀ j : Nat, j ≠ to.toNat → AI_13 (gh 61 0) j = AI (gh 61 0) j ∧ AI_13 (gh 63 0) j = AI (gh 63 0) j) ∧ AI_13 (gh 61 0) to.toNat = AI (gh 61 0) fm.toNat ∧ AI_13 (gh 63 0) to.toNat = AI (gh 63 0) fm.toNat := by rw [t3, c3]; exact mT
        have mV : (∀ j : Nat, (j : Int) < 4 * to ∨ 4 * to + (i + 1) ≤ (j : Int) → AI_13 (gh 62 0) j = AI (gh 62 0) j) ∧ ∀ t : Nat, (t : Int) < i + 1 → AI_13 (gh 62 0) ((4 * to).toNat + t) = AI (gh 62 0) ((4 * fm).toNat + t) := ⟨fun j hj => by rw [eAI_13, gup2_k _ _ (by omega)]; exact mV.1 j (by omega), fun t ht => by
          by_cases e9 : (t : Int) = i
          · rw [eAI_13, gup2_e _ _ (by omega), ev_12, iI_self, show (4 * fm).toNat + t = (4 * fm + i).toNat by omega]; exact mV.1 _ (by omega)
          · rw [eAI_13, gup2_k _ _ (by omega)]; exact mV.2 t (by omega)⟩
        have mZ : ∀ b, b ≠ gh 61 0 → b ≠ gh 62 0 → b ≠ gh 63 0 → AI_13 b = AI b := fun b h h2 h3 => (kAI_13 b h2).trans (mZ b h h2 h3)
        refine z_iinc (lv' := [(3, .int (iI (i + 1))), (0, .ref mo), (1, .int (iI fm)), (2, .int (iI to))]) F dX7_moves_51 hl (k := 0) rfl (by decide) rfl (fun ls hl => ?_)
        refine z_goto (tgt := 26) F dX7_moves_54 (by decide) ?_
        exact ih26 (i + 1) AI_13 H locs ls ⟨by omega, by omega⟩ hv hT (by omega) mT mV mZ (by omega) hH hS (lv_sub hl [0, 1, 2, 3] rfl)
  exact cut_26_8 (((4 - 0) + 1 : Int).toNat) 0 AI_6 H locs ls ⟨by decide, by decide⟩ hv hT (by omega) mT mV mZ (by omega) hH hS (lv_sub hl [0, 1, 2, 3] rfl)
end
section
/-! the tables that a text tells: those of kind 0, ahead of all views -/
theorem sVk_r {b : tTx} {n h : Nat} (h0 : (sVk b n h).1 = 0) : 1 ≤ pV b n (h + 1) := by
  unfold sVk at h0
  by_cases k : (sTk b n 61 h).1 = 0
  · rw [thn_y (f := _) rfl k rfl] at h0
    have e : (sTk b n 61 h).2.1 = h + 1 := by
      unfold sTk at k ⊢
      by_cases w : pK b n h = 61
      · rw [if_pos w]
      · rw [if_neg w] at k; exact (pr_no k (by decide)).elim
    rw [e] at h0
    by_cases q : pK b n (h + 1) = 3 ∧ 1 ≤ pV b n (h + 1) ∧ pV b n (h + 1) ≤ 8
    · exact q.2.1
    · rw [if_neg q] at h0; exact (pr_no h0 (by decide)).elim
  · rw [thn_x rfl k] at h0; exact absurd h0 k
theorem sNam_t {b : tTx} {n nr h : Nat} {nt : Nat → Nat} (h0 : (sNam b n nr nt h).1 = 0) : (sNam b n nr nt h).2.1 = h + 1 := by
  unfold sNam at h0 ⊢
  by_cases k : pK b n h = 3 ∧ pV b n h = -1
  · rw [if_pos k] at h0 ⊢
    by_cases q : pFd b n nt nr h = -1
    · rw [if_pos q]
    · rw [if_neg q] at h0; exact (pr_no h0 (by decide)).elim
  · rw [if_neg k] at h0; exact (pr_no h0 (by decide)).elim
/-- a line that is read: a table, all ahead of it tables; or a view -/
theorem sLine_k {b : tTx} {n nr h : Nat} {nt : Nat → Nat} {cl : Nat → Int} {tb : Int} (h0 : (sLine b n nr nt cl tb h).1 = 0) : (pK b n h = 3 ∧ pV b n h = 0 ∧ ¬ tb < (nr : Int)) ∨ (¬ (pK b n h = 3 ∧ pV b n h = 0) ∧ pV b n h = 9 ∧ 1 ≤ pV b n (h + 3)) := by
  have hh : (sHd b n nr nt tb h).1 = 0 := by
    by_cases q : (sHd b n nr nt tb h).1 = 0
    · exact q
    · unfold sLine at h0; rw [thn_x rfl q] at h0; exact absurd h0 q
  unfold sHd at hh
  by_cases k : pK b n h = 3 ∧ pV b n h = 0
  · rw [if_pos k] at hh
    by_cases q : 16 ≤ nr
    · rw [if_pos q] at hh; exact (pr_no hh (by decide)).elim
    · rw [if_neg q] at hh
      by_cases m : tb < (nr : Int)
      · rw [if_pos m] at hh; exact (pr_no hh (by decide)).elim
      · exact Or.inl ⟨k.1, k.2, m⟩
  · rw [if_neg k] at hh
    by_cases k2 : pK b n h = 3 ∧ pV b n h = 9
    · rw [if_pos k2] at hh
      by_cases q : 16 ≤ nr
      · rw [if_pos q] at hh; exact (pr_no hh (by decide)).elim
      · rw [if_neg q] at hh
        by_cases m : (sNam b n nr nt (h + 1)).1 = 0
        · rw [thn_y (f := fun t _ => sVk b n t) rfl m rfl, sNam_t m] at hh
          exact Or.inr ⟨k, k2.2, sVk_r hh⟩
        · rw [thn_x rfl m] at hh; exact absurd hh m
    · rw [if_neg k2] at hh; exact (pr_no hh (by decide)).elim
def kdI (b : tTx) (n : Nat) (s : Nat × (Nat → Nat) × (Nat → Int) × Int) : Prop := 0 ≤ s.2.2.2 ∧ s.2.2.2 ≤ (s.1 : Int) ∧ ∀ r : Nat, r < s.1 → (kdT b n (s.2.1 r) = 0 ↔ (r : Int) < s.2.2.2)
theorem sParF_k {b : tTx} {n : Nat} : ∀ (f nr : Nat) (nt : Nat → Nat) (cl : Nat → Int) (tb : Int) (h : Nat), kdI b n (nr, nt, cl, tb) → kdI b n (sParF b n f nr nt cl tb h)
  | 0, nr, nt, cl, tb, h, k => k
  | f + 1, nr, nt, cl, tb, h, k => by
    rw [sParF]
    by_cases q : pK b n h = 0
    · rw [if_pos q]; exact k
    · rw [if_neg q]
      by_cases m : (sLine b n nr nt cl tb h).1 = 0
      · rw [if_pos m]
        refine sParF_k f _ _ _ _ _ ?_
        obtain ⟨k1, k2, k3⟩ := k
        have k1 : 0 ≤ tb := k1
        have k2 : tb ≤ (nr : Int) := k2
        have k3 : ∀ r : Nat, r < nr → (kdT b n (nt r) = 0 ↔ (r : Int) < tb) := k3
        rcases sLine_k m with ⟨a, c, d⟩ | ⟨a, c, d⟩
        · rw [if_pos ⟨a, c⟩]
          refine ⟨show 0 ≤ tb + 1 by omega, show tb + 1 ≤ ((nr + 1 : Nat) : Int) by omega, fun r hr => ?_⟩
          have hr : r < nr + 1 := hr
          show kdT b n (sUp nt nr (h + 1) r) = 0 ↔ (r : Int) < tb + 1
          by_cases e : r = nr
          · rw [e, sUp_s, kdT_t c]; exact ⟨fun _ => by omega, fun _ => rfl⟩
          · rw [sUp_k e, k3 r (by omega)]; omega
        · rw [if_neg a]
          refine ⟨k1, show tb ≤ ((nr + 1 : Nat) : Int) by omega, fun r hr => ?_⟩
          have hr : r < nr + 1 := hr
          show kdT b n (sUp nt nr (h + 1) r) = 0 ↔ (r : Int) < tb
          by_cases e : r = nr
          · rw [e, sUp_s, kdT_v (by omega)]; omega
          · rw [sUp_k e]; exact k3 r (by omega)
      · rw [if_neg m]; exact k
theorem sPlF_k (b : tTx) (n : Nat) : kdI b n (sPlF b n) := sParF_k 17 0 _ _ 0 0 ⟨Int.le_refl 0, Int.le_refl 0, fun r hr => absurd hr (Nat.not_lt_zero r)⟩
/-! both batches: rows alike -/
def rwE (f T V C : Nat → Int32) (i : Nat) : Prop := f (6 * i) = T i ∧ (∀ t, t < 4 → f (6 * i + 1 + t) = V (4 * i + t)) ∧ f (6 * i + 5) = C i
section RwE
variable {f T V C f' T' V' C' : Nat → Int32} {i j i' j' p : Nat} {u : Nat → Int} {len n : Int}
theorem rwE_k (h : rwE f T V C i) : ∀ t, t < 5 → ry6 f i t = rmk T V i t := fun t ht => by
  rw [ry6_e]
  match t, ht with
  | 0, _ => rw [show 6 * i + 0 = 6 * i by omega, h.1]; rfl
  | t + 1, ht => rw [show 6 * i + (t + 1) = 6 * i + 1 + t by omega, h.2.1 t (by omega)]; rfl
theorem rwE_c (h : rwE f T V C i) : kc 5 (ry6 f i) u = kc 5 (rmk T V i) u := kc_c (rwE_k h) (fun _ _ => rfl)
/-- a row moves on both sides -/
theorem rwE_m (h : rwE f T V C i) (a : ∀ t, t < 6 → f' (6 * i' + t) = f (6 * i + t)) (b : rEq T V C T' V' C' i i') : rwE f' T' V' C' i' := by
  refine ⟨?_, fun t ht => ?_, ?_⟩
  · have q := a 0 (by omega)
    rw [Nat.add_zero, Nat.add_zero] at q
    rw [q, h.1, b.1]
  · rw [show 6 * i' + 1 + t = 6 * i' + (1 + t) by omega, a (1 + t) (by omega), show 6 * i + (1 + t) = 6 * i + 1 + t by omega, h.2.1 t ht, b.2.2 t ht]
  · rw [a 5 (by omega), h.2.2, b.2.1]
theorem rw_ins (hr : ∀ i : Nat, (i : Int) < len → rwE f T V C i) (hp : (p : Int) ≤ len) (a : insP 5 f f' u (p : Int) len n) (b : insM T V C T' V' C' p len n u) : ∀ i : Nat, (i : Int) < len + 1 → rwE f' T' V' C' i := fun i hi => by
  obtain ⟨a1, a2, a3, -, a5⟩ := a
  obtain ⟨b1, b2, b3, b4, b5⟩ := b
  by_cases c : i < p
  · exact rwE_m (hr i (by omega)) (fun t ht => a1 _ (by omega)) (b1 i c)
  · by_cases d : i = p
    · subst d
      refine ⟨?_, fun t ht => ?_, ?_⟩
      · have q := a2 0 (by omega)
        apply Int32.toInt_inj.mp
        rw [b2, ← q, show (6 * (i : Int)).toNat + 0 = 6 * i by omega]
      · have q := a2 (1 + t) (by omega)
        apply Int32.toInt_inj.mp
        rw [b3 t ht, show t + 1 = 1 + t by omega, ← q, show (6 * (i : Int)).toNat + (1 + t) = 6 * i + 1 + t by omega]
      · rw [b4, ← a3, show (6 * (i : Int)).toNat + 5 = 6 * i + 5 by omega]
    · obtain ⟨k, rfl⟩ : ∃ k, i = k + 1 := ⟨i - 1, by omega⟩
      exact rwE_m (hr k (by omega)) (fun t ht => by rw [← a5 (6 * k + t) (by omega) (by omega), show 6 * (k + 1) + t = 6 * k + t + 6 by omega]) (b5 k (by omega) (by omega))
theorem rw_rem (hr : ∀ i : Nat, (i : Int) < len → rwE f T V C i) (a : remP f f' (p : Int) len) (b : remM T V C T' V' C' p len) : ∀ i : Nat, (i : Int) < len - 1 → rwE f' T' V' C' i := fun i hi => by
  by_cases c : i < p
  · exact rwE_m (hr i (by omega)) (fun t ht => a.1 _ (by omega)) (b.1 i c)
  · exact rwE_m (hr (i + 1) (by omega)) (fun t ht => by rw [a.2 _ (by omega) (by omega), show 6 * (i + 1) + t = 6 * i + t + 6 by omega]) (b.2 i (by omega) hi)
theorem rw_set {w : Int} (hr : ∀ i : Nat, (i : Int) < len → rwE f T V C i) (a : setP 5 f f' (p : Int) w) (b : (∀ j : Nat, j ≠ p → C' j = C j) ∧ C' p = iI w) : ∀ i : Nat, (i : Int) < len → rwE f' T V C' i := fun i hi => by
  have h := hr i hi
  refine ⟨by rw [a.1 _ (by omega)]; exact h.1, fun t ht => by rw [a.1 _ (by omega)]; exact h.2.1 t ht, ?_⟩
  by_cases c : i = p
  · subst c; rw [b.2, ← a.2, show (6 * (i : Int)).toNat + 5 = 6 * i + 5 by omega]
  · rw [a.1 _ (by omega), b.1 i c]; exact h.2.2
end RwE
/-- a change of both batches: one answer, rows stay alike and in order -/
theorem ch_eq {f T V C f' T' V' C' : Nat → Int32} {u : Nat → Int} {len len1 len2 tbs many kd tb n z z2 : Int} (h0 : 0 ≤ len ∧ len ≤ 40) (hr : ∀ i : Nat, (i : Int) < len → rwE f T V C i) (hs : srt 5 f len) (hk : 0 ≤ tb → (tb < tbs ↔ tb < many ∧ kd = 0))
    (a : chP tbs tb n z len len1 f f' u) (b : chR many kd tb n z2 len len2 T V C T' V' C' u) : z = z2 ∧ len1 = len2 ∧ (0 ≤ len1 ∧ len1 ≤ 40) ∧ (∀ i : Nat, (i : Int) < len1 → rwE f' T' V' C' i) ∧ srt 5 f' len1 := by
  rcases a with ⟨a1, a2, a3, a4⟩ | ⟨a1, zz, a2, a3⟩
  · rcases b with ⟨b1, b2, b3, b4, b5, b6⟩ | ⟨b1, -⟩
    · subst a4 b4 b5 b6
      rw [a3]
      exact ⟨by omega, by omega, h0, hr, hs⟩
    · exfalso
      have q := hk (by omega)
      omega
  · rcases b with ⟨b1, -⟩ | ⟨b1, p, p1, p2, b2⟩
    · exfalso
      have q := hk (by omega)
      omega
    · have ek : ∀ i : Nat, (i : Int) < len → kc 5 (ry6 f i) u = kc 5 (rmk T V i) u := fun i hi => rwE_c (hr i hi)
      -- at the reference's place no row is less
      have ge : (p : Int) < len → kc 5 (rmk T V p) u ≠ -1 := fun hp e => by
        rcases b2 with ⟨_, w, _⟩ | ⟨_, w, _⟩ | ⟨w, _⟩ | ⟨w, _⟩
        · rw [w] at e; exact absurd e (by decide)
        · rw [w] at e; exact absurd e (by decide)
        · rw [w hp] at e; exact absurd e (by decide)
        · rw [w hp] at e; exact absurd e (by decide)
      rcases a2 with ⟨pc, c1, c2, c3⟩ | ⟨r, c1, c2, c3, c4⟩
      · -- the class finds none
        rcases c1 with ⟨x1, _⟩ | ⟨x1, x2, x3, x4⟩
        · exfalso; omega
        · obtain ⟨pn, epn⟩ : ∃ pn : Nat, (pn : Int) = pc := ⟨pc.toNat, by omega⟩
          have lo := srt_lo (u := u) (p := pn) hs (fun w => by have q := x3 (by omega); rw [show (-1 - (-1 - pc) - 1).toNat = pn - 1 by omega] at q; exact q) (by omega)
          have hi := srt_hi (u := u) (p := pn) hs (fun w => by have q := x4 (by omega); rw [show (-1 - (-1 - pc)).toNat = pn by omega] at q; exact q)
          have ep : p = pn := by
            rcases Nat.lt_trichotomy p pn with w | w | w
            · exact absurd ((ek p (by omega)).symm.trans (lo p w)) (ge (by omega))
            · exact w
            · have q1 := p2 pn w
              have q2 := hi pn (Nat.le_refl _) (by omega)
              rw [ek pn (by omega), q1] at q2
              exact absurd q2 (by decide)
          have n0 : ¬ ((p : Int) < len ∧ kc 5 (rmk T V p) u = 0) := fun w => by
            have q := hi p (by omega) w.1
            rw [ek p w.1, w.2] at q
            exact absurd q (by decide)
          rcases b2 with ⟨w1, w2, _⟩ | ⟨w1, w2, _⟩ | ⟨w1, w2, w3, w4, w5, w6, w7⟩ | ⟨w1, w2, w3, w4, w5⟩
          · exact absurd ⟨w1, w2⟩ n0
          · exact absurd ⟨w1, w2⟩ n0
          · subst w5 w6 w7
            rcases c3 with ⟨y1, _⟩ | ⟨y1, y2, y3, y4, y5⟩ | ⟨y1, y2, _⟩
            · exfalso; omega
            · subst y5
              rw [y4]
              exact ⟨by omega, by omega, h0, hr, hs⟩
            · exfalso; omega
          · rcases c3 with ⟨y1, _⟩ | ⟨y1, y2, _⟩ | ⟨y1, y2, y3, y4, y5⟩
            · exfalso; omega
            · exfalso; omega
            · rw [← epn] at y5
              rw [ep] at w5
              rw [y4]
              exact ⟨by omega, by omega, ⟨by omega, by omega⟩, rw_ins hr (by omega) y5 w5, srt_ins (by decide) hs (by omega) y5 lo hi⟩
      · -- the class finds the row r
        rcases c1 with ⟨x1, x2, x3⟩ | ⟨x1, _⟩
        · obtain ⟨rn, ern⟩ : ∃ rn : Nat, (rn : Int) = r := ⟨r.toNat, by omega⟩
          rw [show r.toNat = rn by omega] at x3
          have ep : p = rn := by
            rcases Nat.lt_trichotomy p rn with w | w | w
            · have q := kc_t (u := ry6 f p) (v := ry6 f rn) (w := u) (m := 5) (by rw [hs p rn w (by omega)]; decide) (by rw [x3]; decide) (Or.inl (by rw [hs p rn w (by omega)]; decide))
              exact absurd ((ek p (by omega)).symm.trans q) (ge (by omega))
            · exact w
            · have q := p2 rn w
              rw [← ek rn (by omega), x3] at q
              exact absurd q (by decide)
          have eC : (f ((6 * r).toNat + 5)) = C p := by rw [show (6 * r).toNat + 5 = 6 * p + 5 by omega]; exact (hr p (by omega)).2.2
          rw [eC] at c4
          rcases b2 with ⟨w1, w2, w3, w4, w5, w6, w7, w8, w9⟩ | ⟨w1, w2, w3, w4, w5, w6⟩ | ⟨w1, _⟩ | ⟨w1, _⟩
          · rcases c4 with ⟨y1, _⟩ | ⟨y1, y2, y3⟩
            · exact absurd y1 w3
            · subst w6 w7
              rw [← ern, ← ep] at y3
              rw [y2]
              exact ⟨by omega, by omega, h0, rw_set hr y3 ⟨w8, w9⟩, srt_set (by decide) hs y3⟩
          · rcases c4 with ⟨y1, y2, y3⟩ | ⟨y1, _⟩
            · rw [← ern, ← ep] at y3
              rw [y2]
              exact ⟨by omega, by omega, ⟨by omega, by omega⟩, rw_rem hr y3 w6, srt_rem (by decide) hs y3⟩
            · exact absurd w3 y1
          · exfalso
            have q := w1 (by omega)
            rw [← ek p (by omega), ep, x3] at q
            exact absurd q (by decide)
          · exfalso
            have q := w1 (by omega)
            rw [← ek p (by omega), ep, x3] at q
            exact absurd q (by decide)
        · exfalso; omega
end
section
/-! bags: tuples of four, an amount and a mark for each; told by rows in order, they are one -/
abbrev Tup : Type := Int32 × Int32 × Int32 × Int32
def tup (f : Nat → Int32) (i : Nat) : Tup := (f (6 * i), f (6 * i + 1), f (6 * i + 2), f (6 * i + 3))
/-- a column of a tuple -/
def tg (t : Tup) : Nat → Int32
  | 0 => t.1
  | 1 => t.2.1
  | 2 => t.2.2.1
  | 3 => t.2.2.2
  | _ => 0
def tu (t : Tup) (k : Nat) : Int := (tg t k).toInt
/-- a tuple told by its columns -/
def tmk (h : Nat → Int32) : Tup := (h 0, h 1, h 2, h 3)
theorem tg_mk {h : Nat → Int32} : ∀ k, k < 4 → tg (tmk h) k = h k := fun k hk => by
  match k, hk with
  | 0, _ => rfl
  | 1, _ => rfl
  | 2, _ => rfl
  | 3, _ => rfl
  | k + 4, h => exact absurd h (by omega)
theorem tg_x {a b : Tup} (h : ∀ k, k < 4 → tg a k = tg b k) : a = b := by
  obtain ⟨a0, a1, a2, a3⟩ := a
  obtain ⟨b0, b1, b2, b3⟩ := b
  have e0 : a0 = b0 := h 0 (by omega)
  have e1 : a1 = b1 := h 1 (by omega)
  have e2 : a2 = b2 := h 2 (by omega)
  have e3 : a3 = b3 := h 3 (by omega)
  rw [e0, e1, e2, e3]
theorem tg_up {f : Nat → Int32} {i : Nat} : ∀ k, k < 4 → tg (tup f i) k = f (6 * i + k) := fun k hk => by
  match k, hk with
  | 0, _ => rfl
  | 1, _ => rfl
  | 2, _ => rfl
  | 3, _ => rfl
  | k + 4, h => exact absurd h (by omega)
theorem tup_mk {f : Nat → Int32} {i : Nat} : tup f i = tmk (fun k => f (6 * i + k)) := rfl
theorem tu_ry {f : Nat → Int32} {i : Nat} : ∀ t, t < 4 → ry6 f i t = tu (tup f i) t := fun t ht => by
  rw [ry6_e]; unfold tu; rw [tg_up t ht]
/-- the order of tuples: -1, 0, 1 -/
def tc (a b : Tup) : Int := kc 4 (tu a) (tu b)
theorem tc_r {a b : Tup} : tc a b = -1 ∨ tc a b = 0 ∨ tc a b = 1 := kc_r
theorem tc_s {a b : Tup} : tc b a = - tc a b := kc_s
theorem tc_0 {a b : Tup} : tc a b = 0 ↔ a = b := by
  unfold tc
  rw [kc_0]
  exact ⟨fun h => tg_x (fun k hk => Int32.toInt_inj.mp (h k hk)), fun h => by rw [h]; exact fun _ _ => rfl⟩
theorem tc_t {a b c : Tup} (h : tc a b ≤ 0) (k : tc b c ≤ 0) (d : tc a b < 0 ∨ tc b c < 0) : tc a c = -1 := kc_t h k d
theorem tc_ne {a b : Tup} (h : tc a b = -1) : a ≠ b := fun e => by rw [tc_0.mpr e] at h; exact absurd h (by decide)
theorem tc_ne1 {a b : Tup} (h : tc a b = 1) : a ≠ b := fun e => by rw [tc_0.mpr e] at h; exact absurd h (by decide)
theorem tc_ry {f f' : Nat → Int32} {i j : Nat} : kc 4 (ry6 f i) (ry6 f' j) = tc (tup f i) (tup f' j) := kc_c tu_ry tu_ry
theorem tc_ku {f : Nat → Int32} {i : Nat} {t : Tup} : kc 4 (ry6 f i) (tu t) = tc (tup f i) t := kc_c tu_ry (fun _ _ => rfl)
theorem tc_kv {f : Nat → Int32} {i : Nat} {t : Tup} {v : Nat → Int} (h : ∀ k, k < 4 → v k = tu t k) : kc 4 (ry6 f i) v = tc (tup f i) t := kc_c tu_ry h
/-- the first place at which two differ -/
theorem kcF_lt {u v : Nat → Int} : ∀ (m s : Nat), kcF u v m s = -1 ↔ ∃ q : Nat, s ≤ q ∧ q < s + m ∧ (∀ r, s ≤ r → r < q → u r = v r) ∧ u q < v q
  | 0, s => ⟨fun h => absurd h (by rw [kcF]; decide), fun ⟨q, a, b, _⟩ => absurd b (by omega)⟩
  | m + 1, s => by
    have ih := kcF_lt (u := u) (v := v) m (s + 1)
    by_cases h : u s = v s
    · rw [kcF_e h, ih]
      constructor
      · rintro ⟨q, a, b, c, d⟩
        exact ⟨q, by omega, by omega, fun r h1 h2 => if e : r = s then by rw [e]; exact h else c r (by omega) h2, d⟩
      · rintro ⟨q, a, b, c, d⟩
        have ne : q ≠ s := fun e => by rw [e, h] at d; omega
        exact ⟨q, by omega, by omega, fun r h1 h2 => c r (by omega) h2, d⟩
    · by_cases k : u s < v s
      · rw [kcF_l k]
        exact ⟨fun _ => ⟨s, Nat.le_refl _, by omega, fun r h1 h2 => absurd h2 (by omega), k⟩, fun _ => rfl⟩
      · rw [kcF_g (by omega)]
        refine ⟨fun e => absurd e (by decide), fun ⟨q, a, b, c, d⟩ => ?_⟩
        by_cases e : q = s
        · rw [e] at d; omega
        · exact absurd (c s (Nat.le_refl _) (by omega)) h
theorem tc_lt {a b : Tup} : tc a b = -1 ↔ ∃ q : Nat, q < 4 ∧ (∀ r, r < q → tg a r = tg b r) ∧ tu a q < tu b q := by
  unfold tc kc
  rw [kcF_lt]
  exact ⟨fun ⟨q, _, b, c, d⟩ => ⟨q, by omega, fun r h => Int32.toInt_inj.mp (c r (Nat.zero_le _) h), d⟩, fun ⟨q, b, c, d⟩ => ⟨q, Nat.zero_le _, by omega, fun r _ h => congrArg Int32.toInt (c r h), d⟩⟩
/-- n rows in order, no two alike -/
def srtB (f : Nat → Int32) (n : Nat) : Prop := ∀ i j : Nat, i < j → j < n → tc (tup f i) (tup f j) = -1
theorem srt_B {f : Nat → Int32} {n : Nat} : srt 4 f (n : Int) ↔ srtB f n :=
  ⟨fun h i j hij hj => by rw [← tc_ry]; exact h i j hij (by omega), fun h i j hij hj => by rw [tc_ry]; exact h i j hij (by omega)⟩
theorem srtB_ne {f : Nat → Int32} {n i j : Nat} (h : srtB f n) (hi : i < n) (hj : j < n) (e : tup f i = tup f j) : i = j := by
  rcases Nat.lt_trichotomy i j with w | w | w
  · exact absurd e (tc_ne (h i j w hj))
  · exact w
  · exact absurd e.symm (tc_ne (h j i w hi))
theorem srtB_le {f : Nat → Int32} {n i j : Nat} (h : srtB f n) (hij : i ≤ j) (hj : j < n) : tc (tup f i) (tup f j) ≤ 0 := by
  by_cases e : i = j
  · rw [e, tc_0.mpr rfl]; decide
  · rw [h i j (by omega) hj]; decide
/-- rows in order: just those of P, with their amounts and marks -/
def isW (f : Nat → Int32) (n : Nat) (P : Tup → Prop) (S M : Tup → Int32) : Prop :=
  srtB f n ∧ (∀ i : Nat, i < n → P (tup f i) ∧ f (6 * i + 4) = S (tup f i) ∧ f (6 * i + 5) = M (tup f i)) ∧ ∀ t : Tup, P t → ∃ i : Nat, i < n ∧ tup f i = t
def rwS (f' : Nat → Int32) (i' : Nat) (f : Nat → Int32) (i : Nat) : Prop := ∀ j, j < 6 → f' (6 * i' + j) = f (6 * i + j)
theorem rwS_t {f f' : Nat → Int32} {i i' : Nat} (h : rwS f' i' f i) : tup f' i' = tup f i := tg_x (fun k hk => by rw [tg_up k hk, tg_up k hk]; exact h k (by omega))
theorem rwS_of {f f' : Nat → Int32} {i i' : Nat} (h : tup f' i' = tup f i) (h4 : f' (6 * i' + 4) = f (6 * i + 4)) (h5 : f' (6 * i' + 5) = f (6 * i + 5)) : rwS f' i' f i := fun j hj => by
  by_cases a : j < 4
  · rw [← tg_up (f := f') (i := i') j a, ← tg_up (f := f) (i := i) j a, h]
  · by_cases b : j = 4
    · rw [b]; exact h4
    · rw [show j = 5 by omega]; exact h5
/-- as many rows, all alike -/
def rwA (f f' : Nat → Int32) (n : Nat) : Prop := ∀ i, i < n → rwS f i f' i
theorem rwA_s {f f' : Nat → Int32} {n : Nat} (h : rwA f f' n) : rwA f' f n := fun i hi j hj => (h i hi j hj).symm
theorem rwA_t {f f' f'' : Nat → Int32} {n : Nat} (h : rwA f f' n) (k : rwA f' f'' n) : rwA f f'' n := fun i hi j hj => (h i hi j hj).trans (k i hi j hj)
theorem rwA_r {f : Nat → Int32} {n : Nat} : rwA f f n := fun _ _ _ _ => rfl
theorem rwA_of {f f' : Nat → Int32} {n : Nat} (h : ∀ j, j < 6 * n → f j = f' j) : rwA f f' n := fun i hi j hj => h _ (by omega)
theorem rwA_at {f f' : Nat → Int32} {n : Nat} (h : rwA f f' n) {j : Nat} (hj : j < 6 * n) : f j = f' j := by
  have q := h (j / 6) (by omega) (j % 6) (by omega)
  rwa [show 6 * (j / 6) + j % 6 = j by omega] at q
section IsW
variable {f f' : Nat → Int32} {n n' p : Nat} {P P' : Tup → Prop} {S S' M M' : Tup → Int32} {t : Tup} {c m : Int32}
theorem isW_c (h : isW f n P S M) (e : rwA f' f n) : isW f' n P S M := by
  have et : ∀ i, i < n → tup f' i = tup f i := fun i hi => rwS_t (e i hi)
  refine ⟨fun i j hij hj => by rw [et i (by omega), et j hj]; exact h.1 i j hij hj, fun i hi => ?_, fun t ht => ?_⟩
  · rw [et i hi, e i hi 4 (by omega), e i hi 5 (by omega)]; exact h.2.1 i hi
  · obtain ⟨i, hi, q⟩ := h.2.2 t ht
    exact ⟨i, hi, (et i hi).trans q⟩
theorem isW_q (h : isW f n P S M) (hP : ∀ t, P' t ↔ P t) (hS : ∀ t, P t → S' t = S t) (hM : ∀ t, P t → M' t = M t) : isW f n P' S' M' := by
  refine ⟨h.1, fun i hi => ?_, fun t ht => h.2.2 t ((hP t).mp ht)⟩
  have q := h.2.1 i hi
  rw [hS _ q.1, hM _ q.1]
  exact ⟨(hP _).mpr q.1, q.2⟩
theorem isW_0 (h : ∀ t, ¬ P t) : isW f 0 P S M := ⟨fun i j _ hj => absurd hj (Nat.not_lt_zero j), fun i hi => absurd hi (Nat.not_lt_zero i), fun t ht => absurd ht (h t)⟩
theorem isW_h (a : isW f n P S M) (b : isW f' n' P S' M') (i : Nat) (ih : ∀ j, j < i → j < n ∧ j < n' ∧ tup f j = tup f' j) (hi : i < n) : i < n' ∧ tup f i = tup f' i := by
  obtain ⟨a1, a2, a3⟩ := a
  obtain ⟨b1, b2, b3⟩ := b
  obtain ⟨j, hj, ej⟩ := b3 (tup f i) (a2 i hi).1
  have ji : i ≤ j := by
    by_cases w : j < i
    · have q := ih j w
      have e := srtB_ne a1 q.1 hi (q.2.2.trans ej)
      omega
    · omega
  have hi' : i < n' := by omega
  refine ⟨hi', ?_⟩
  obtain ⟨k, hk, ek⟩ := a3 (tup f' i) (b2 i hi').1
  have ki : i ≤ k := by
    by_cases w : k < i
    · have q := ih k w
      have e := srtB_ne b1 q.2.1 hi' (q.2.2.symm.trans ek)
      omega
    · omega
  by_cases w : k = i
  · rw [← ek, w]
  · exfalso
    have q1 := a1 i k (by omega) hk
    rw [ek] at q1
    have q2 := srtB_le b1 ji hj
    rw [ej] at q2
    have q3 := tc_t (a := tup f i) (b := tup f' i) (c := tup f i) (by rw [q1]; decide) q2 (Or.inl (by rw [q1]; decide))
    exact tc_ne q3 rfl
/-- rows of one P are one: as many, row by row -/
theorem isW_u (a : isW f n P S M) (b : isW f' n' P S' M') (hS : ∀ t, P t → S t = S' t) (hM : ∀ t, P t → M t = M' t) : n = n' ∧ rwA f f' n := by
  have all : ∀ m i : Nat, i ≤ m → (i < n → i < n' ∧ tup f i = tup f' i) ∧ (i < n' → i < n ∧ tup f i = tup f' i) := by
    intro m
    induction m with
    | zero =>
      intro i hi
      have e : i = 0 := by omega
      subst e
      refine ⟨isW_h a b 0 (fun j hj => absurd hj (Nat.not_lt_zero j)), fun h => ?_⟩
      have q := isW_h b a 0 (fun j hj => absurd hj (Nat.not_lt_zero j)) h
      exact ⟨q.1, q.2.symm⟩
    | succ m ih =>
      intro i hi
      by_cases e : i ≤ m
      · exact ih i e
      · have e : i = m + 1 := by omega
        subst e
        refine ⟨fun h => isW_h a b (m + 1) (fun j hj => ?_) h, fun h => ?_⟩
        · have q := (ih j (by omega)).1 (by omega)
          exact ⟨by omega, q.1, q.2⟩
        · have q := isW_h b a (m + 1) (fun j hj => by
            have q := (ih j (by omega)).2 (by omega)
            exact ⟨by omega, q.1, q.2.symm⟩) h
          exact ⟨q.1, q.2.symm⟩
  have hn : n = n' := by
    rcases Nat.lt_trichotomy n n' with w | w | w
    · have q := ((all n n (Nat.le_refl _)).2 w).1
      omega
    · exact w
    · have q := ((all n' n' (Nat.le_refl _)).1 w).1
      omega
  refine ⟨hn, fun i hi => ?_⟩
  have q := (all i i (Nat.le_refl _)).1 hi
  have pa := a.2.1 i hi
  have pb := b.2.1 i q.1
  refine rwS_of q.2 ?_ ?_
  · rw [pa.2.1, pb.2.1, ← q.2]; exact hS _ pa.1
  · rw [pa.2.2, pb.2.2, ← q.2]; exact hM _ pa.1
theorem isW_n (a : isW f n P S M) (h : ∀ i : Nat, i < n → tup f i ≠ t) : ¬ P t := fun q => by
  obtain ⟨i, hi, e⟩ := a.2.2 t q
  exact h i hi e
theorem isW_i (a : isW f n P S M) {i j : Nat} (hi : i < n) (hj : j < n) (e : tup f i = tup f j) : i = j := srtB_ne a.1 hi hj e
def tUp (S : Tup → Int32) (t : Tup) (c : Int32) : Tup → Int32 := fun s => if s = t then c else S s
theorem tUp_s : tUp S t c t = c := if_pos rfl
theorem tUp_k {s : Tup} (h : s ≠ t) : tUp S t c s = S s := if_neg h
def pAdd (P : Tup → Prop) (t : Tup) : Tup → Prop := fun s => s = t ∨ P s
/-- a row comes in at p -/
def insW (f f' : Nat → Int32) (p n : Nat) (t : Tup) (c m : Int32) : Prop :=
  (∀ i, i < p → rwS f' i f i) ∧ (tup f' p = t ∧ f' (6 * p + 4) = c ∧ f' (6 * p + 5) = m) ∧ ∀ i, p ≤ i → i < n → rwS f' (i + 1) f i
/-- where a tuple would come -/
def atW (f : Nat → Int32) (n p : Nat) (t : Tup) : Prop := p ≤ n ∧ (∀ i : Nat, i < p → tc (tup f i) t = -1) ∧ ∀ i : Nat, p ≤ i → i < n → tc (tup f i) t = 1
theorem atW_n (h : atW f n p t) : ∀ i : Nat, i < n → tup f i ≠ t := fun i hi => by
  by_cases w : i < p
  · exact tc_ne (h.2.1 i w)
  · exact tc_ne1 (h.2.2 i (by omega) hi)
theorem isW_ins (a : isW f n P S M) (h : atW f n p t) (e : insW f f' p n t c m) : ¬ P t ∧ isW f' (n + 1) (pAdd P t) (tUp S t c) (tUp M t m) := by
  have nP := isW_n a (atW_n h)
  obtain ⟨hp, lo, hi⟩ := h
  obtain ⟨e1, e2, e3⟩ := e
  have r1 : ∀ i, i < p → tup f' i = tup f i := fun i w => rwS_t (e1 i w)
  have r3 : ∀ i, p ≤ i → i < n → tup f' (i + 1) = tup f i := fun i w w2 => rwS_t (e3 i w w2)
  refine ⟨nP, fun i j hij hj => ?_, fun i hi2 => ?_, fun s hs => ?_⟩
  · by_cases c1 : j < p
    · rw [r1 i (by omega), r1 j c1]; exact a.1 i j hij (by omega)
    · by_cases c2 : j = p
      · subst c2
        rw [r1 i hij, e2.1]; exact lo i hij
      · obtain ⟨k, rfl⟩ : ∃ k, j = k + 1 := ⟨j - 1, by omega⟩
        rw [r3 k (by omega) (by omega)]
        by_cases c3 : i < p
        · rw [r1 i c3]; exact a.1 i k (by omega) (by omega)
        · by_cases c4 : i = p
          · subst c4
            rw [e2.1, tc_s, hi k (by omega) (by omega)]
          · obtain ⟨l, rfl⟩ : ∃ l, i = l + 1 := ⟨i - 1, by omega⟩
            rw [r3 l (by omega) (by omega)]; exact a.1 l k (by omega) (by omega)
  · by_cases c1 : i < p
    · have q := a.2.1 i (by omega)
      have ne : tup f i ≠ t := tc_ne (lo i c1)
      rw [r1 i c1, e1 i c1 4 (by omega), e1 i c1 5 (by omega), tUp_k ne, tUp_k ne]
      exact ⟨Or.inr q.1, q.2⟩
    · by_cases c2 : i = p
      · subst c2
        rw [e2.1, e2.2.1, e2.2.2, tUp_s, tUp_s]
        exact ⟨Or.inl rfl, rfl, rfl⟩
      · obtain ⟨k, rfl⟩ : ∃ k, i = k + 1 := ⟨i - 1, by omega⟩
        have q := a.2.1 k (by omega)
        have ne : tup f k ≠ t := tc_ne1 (hi k (by omega) (by omega))
        rw [r3 k (by omega) (by omega), e3 k (by omega) (by omega) 4 (by omega), e3 k (by omega) (by omega) 5 (by omega), tUp_k ne, tUp_k ne]
        exact ⟨Or.inr q.1, q.2⟩
  · rcases hs with rfl | hs
    · exact ⟨p, by omega, e2.1⟩
    · obtain ⟨i, hi2, e⟩ := a.2.2 s hs
      by_cases w : i < p
      · exact ⟨i, by omega, (r1 i w).trans e⟩
      · exact ⟨i + 1, by omega, (r3 i (by omega) hi2).trans e⟩
/-- a row's amount, or its mark, becomes another -/
theorem isW_set (a : isW f n P S M) (hp : p < n) (et : tup f p = t) (h1 : ∀ j, j ≠ 6 * p + 4 → f' j = f j) (h2 : f' (6 * p + 4) = c) : isW f' n P (tUp S t c) M := by
  have r1 : ∀ i, tup f' i = tup f i := fun i => tg_x (fun k hk => by rw [tg_up k hk, tg_up k hk, h1 _ (by omega)])
  refine ⟨fun i j hij hj => by rw [r1, r1]; exact a.1 i j hij hj, fun i hi => ?_, fun s hs => ?_⟩
  · have q := a.2.1 i hi
    rw [r1, h1 (6 * i + 5) (by omega)]
    by_cases w : i = p
    · subst w; rw [et, h2, tUp_s]; rw [et] at q; exact ⟨q.1, rfl, q.2.2⟩
    · have ne : tup f i ≠ t := fun e => w (srtB_ne a.1 hi hp (e.trans et.symm))
      rw [tUp_k ne, h1 _ (by omega)]; exact q
  · obtain ⟨i, hi, e⟩ := a.2.2 s hs
    exact ⟨i, hi, (r1 i).trans e⟩
theorem isW_setM (a : isW f n P S M) (hp : p < n) (et : tup f p = t) (h1 : ∀ j, j ≠ 6 * p + 5 → f' j = f j) (h2 : f' (6 * p + 5) = c) : isW f' n P S (tUp M t c) := by
  have r1 : ∀ i, tup f' i = tup f i := fun i => tg_x (fun k hk => by rw [tg_up k hk, tg_up k hk, h1 _ (by omega)])
  refine ⟨fun i j hij hj => by rw [r1, r1]; exact a.1 i j hij hj, fun i hi => ?_, fun s hs => ?_⟩
  · have q := a.2.1 i hi
    rw [r1, h1 (6 * i + 4) (by omega)]
    by_cases w : i = p
    · subst w; rw [et, h2, tUp_s]; rw [et] at q; exact ⟨q.1, q.2.1, rfl⟩
    · have ne : tup f i ≠ t := fun e => w (srtB_ne a.1 hi hp (e.trans et.symm))
      rw [tUp_k ne, h1 _ (by omega)]; exact q
  · obtain ⟨i, hi, e⟩ := a.2.2 s hs
    exact ⟨i, hi, (r1 i).trans e⟩
/-- a row goes out -/
theorem isW_rem (a : isW f n P S M) (hp : p < n) (et : tup f p = t) (i : remP f f' (p : Int) (n : Int)) : isW f' (n - 1) (fun s => P s ∧ s ≠ t) S M := by
  obtain ⟨i1, i2⟩ := i
  have r1 : ∀ j, j < p → rwS f' j f j := fun j hj k hk => i1 _ (by omega)
  have r3 : ∀ j, p ≤ j → j + 1 < n → rwS f' j f (j + 1) := fun j hj hl k hk => by rw [show 6 * (j + 1) + k = 6 * j + k + 6 by omega]; exact i2 _ (by omega) (by omega)
  have ne : ∀ j, j < n → j ≠ p → tup f j ≠ t := fun j hj hn e => hn (srtB_ne a.1 hj hp (e.trans et.symm))
  refine ⟨fun j k hjk hk => ?_, fun j hj => ?_, fun s hs => ?_⟩
  · by_cases c1 : k < p
    · rw [rwS_t (r1 j (by omega)), rwS_t (r1 k c1)]; exact a.1 j k hjk (by omega)
    · rw [rwS_t (r3 k (by omega) (by omega))]
      by_cases c2 : j < p
      · rw [rwS_t (r1 j c2)]; exact a.1 j (k + 1) (by omega) (by omega)
      · rw [rwS_t (r3 j (by omega) (by omega))]; exact a.1 (j + 1) (k + 1) (by omega) (by omega)
  · by_cases c1 : j < p
    · have q := a.2.1 j (by omega)
      rw [rwS_t (r1 j c1), r1 j c1 4 (by omega), r1 j c1 5 (by omega)]
      exact ⟨⟨q.1, ne j (by omega) (by omega)⟩, q.2⟩
    · have q := a.2.1 (j + 1) (by omega)
      have z := r3 j (by omega) (by omega)
      rw [rwS_t z, z 4 (by omega), z 5 (by omega)]
      exact ⟨⟨q.1, ne (j + 1) (by omega) (by omega)⟩, q.2⟩
  · obtain ⟨k, hk, ek⟩ := a.2.2 s hs.1
    have kp : k ≠ p := fun w => hs.2 (by rw [← ek, w, et])
    by_cases w : k < p
    · exact ⟨k, by omega, (rwS_t (r1 k w)).trans ek⟩
    · obtain ⟨l, rfl⟩ : ∃ l, k = l + 1 := ⟨k - 1, by omega⟩
      exact ⟨l, by omega, (rwS_t (r3 l (by omega) hk)).trans ek⟩
/-! a search -/
theorem fd_y {v : Nat → Int} {z : Int} (hv : ∀ k, k < 4 → v k = tu t k) (h : fdK 4 f (n : Int) v z) (h0 : 0 ≤ z) : z.toNat < n ∧ tup f z.toNat = t := by
  rcases h with ⟨_, a, b⟩ | ⟨a, _⟩
  · rw [tc_kv hv] at b
    exact ⟨by omega, tc_0.mp b⟩
  · exact absurd a (by omega)
theorem fd_n {v : Nat → Int} {z : Int} (hs : srtB f n) (hv : ∀ k, k < 4 → v k = tu t k) (h : fdK 4 f (n : Int) v z) (h0 : z < 0) : atW f n (-1 - z).toNat t := by
  rcases h with ⟨a, _⟩ | ⟨_, a, b, c⟩
  · exact absurd a (by omega)
  · have hs' := srt_B.mpr hs
    refine ⟨by omega, fun i w => ?_, fun i w w2 => ?_⟩
    · rw [← tc_kv hv]
      exact srt_lo (p := (-1 - z).toNat) hs' (fun w => by rw [show (-1 - z).toNat - 1 = (-1 - z - 1).toNat by omega]; exact b (by omega)) (by omega) i w
    · rw [← tc_kv hv]
      exact srt_hi (p := (-1 - z).toNat) hs' (fun w => c (by omega)) i w (by omega)
theorem insP_W {v : Nat → Int} {len x r : Int} (hv : ∀ k, k < 4 → v k = tu t k) (hr : 0 ≤ r) (hl : len = (n : Int)) (h : insP 4 f f' v r len x) : insW f f' r.toNat n t (iI x) 0 := by
  obtain ⟨i1, i2, i3, i4, i5⟩ := h
  have e6 : (6 * r).toNat = 6 * r.toNat := by omega
  rw [e6] at i3
  refine ⟨fun i hi j hj => i1 _ (by omega), ⟨tg_x (fun k hk => ?_), i3, by have := i4 rfl; rwa [e6] at this⟩, fun i hi hl2 j hj => ?_⟩
  · have q := i2 k hk
    rw [e6] at q
    rw [tg_up k hk]
    exact Int32.toInt_inj.mp (q.trans (hv k hk))
  · rw [show 6 * (i + 1) + j = 6 * i + j + 6 by omega]
    exact i5 _ (by omega) (by omega)
/-! a bag: no amount is 0 -/
def isB (f : Nat → Int32) (n : Nat) (S M : Tup → Int32) : Prop := isW f n (fun t => S t ≠ 0) S M
abbrev zM : Tup → Int32 := fun _ => 0
def sAdd (S : Tup → Int32) (t : Tup) (c : Int32) : Tup → Int32 := fun s => if s = t then S s + c else S s
theorem sAdd_s : sAdd S t c t = S t + c := if_pos rfl
theorem sAdd_k {s : Tup} (h : s ≠ t) : sAdd S t c s = S s := if_neg h
theorem sAdd_0 : sAdd S t 0 = S := funext fun s => by
  by_cases w : s = t
  · rw [w, sAdd_s, Int32.add_zero]
  · exact sAdd_k w
theorem sAdd_up : sAdd S t c = tUp S t (S t + c) := funext fun s => by
  by_cases w : s = t
  · rw [w, sAdd_s, tUp_s]
  · rw [sAdd_k w, tUp_k w]
/-- what addAmount does to a bag -/
theorem isB_add {v : Nat → Int} {lim len' z x : Int} (a : isB f n S zM) (hv : ∀ k, k < 4 → v k = tu t k) (h : addP 4 lim f f' (n : Int) len' v x z) (zc : zr x) : (z = 1 ∧ 0 ≤ len' ∧ isB f' len'.toNat (sAdd S t (iI x)) zM) ∨ (z = 0 ∧ lim ≤ (n : Int) ∧ S t = 0 ∧ iI x ≠ 0 ∧ f' = f ∧ len' = (n : Int)) := by
  have c0 : iI x = 0 ↔ x = 0 := ⟨fun e => (iI_eq zc zr_0).mp e, fun e => by rw [e]; rfl⟩
  have a' : isW f n (fun t => S t ≠ 0) S zM := a
  rcases h with ⟨q, k1, k2, k3⟩ | ⟨r, k1, k2, k3, k4⟩
  · have hat := fd_n a'.1 hv k1 (by omega)
    have s0 : S t = 0 := by
      have := isW_n a' (atW_n hat)
      exact Classical.byContradiction this
    rcases k3 with ⟨y1, y2, y3, y4⟩ | ⟨y1, y2, y3, y4, y5⟩ | ⟨y1, y2, y3, y4, y5⟩
    · subst y4
      refine Or.inl ⟨y2, by omega, ?_⟩
      rw [c0.mpr y1, sAdd_0, y3, show ((n : Int)).toNat = n by omega]; exact a
    · exact Or.inr ⟨y3, y2, s0, fun e => y1 (c0.mp e), y5, y4⟩
    · refine Or.inl ⟨y3, by omega, ?_⟩
      rw [y4, show ((n : Int) + 1).toNat = n + 1 by omega]
      have iw := insP_W hv k2 rfl y5
      rw [show (-1 - (-1 - q)).toNat = q.toNat by omega] at hat
      refine isW_q (isW_ins a' hat iw).2 (fun s => ?_) (fun s _ => ?_) (fun s _ => ?_)
      · show sAdd S t (iI x) s ≠ 0 ↔ pAdd (fun t => S t ≠ 0) t s
        by_cases w : s = t
        · rw [w, sAdd_s, s0, Int32.zero_add]; exact ⟨fun _ => Or.inl rfl, fun _ e => y1 (c0.mp e)⟩
        · rw [sAdd_k w]; exact ⟨fun e => Or.inr e, fun e => e.resolve_left w⟩
      · rw [sAdd_up, s0, Int32.zero_add]
      · by_cases w : s = t
        · rw [w, tUp_s]
        · rw [tUp_k w]
  · obtain ⟨x2, x3⟩ := fd_y hv k1 k2
    have e6 : (6 * r).toNat = 6 * r.toNat := by omega
    rw [e6] at k4
    have am : f (6 * r.toNat + 4) = S t := by rw [(a'.2.1 _ x2).2.1, x3]
    have hx : iI ((f (6 * r.toNat + 4)).toInt + x) = S t + iI x := by rw [am, ← iI_add, iI_self]
    have er : ((r.toNat : Nat) : Int) = r := by omega
    have pt : S t ≠ 0 := by have := (a'.2.1 _ x2).1; rwa [x3] at this
    rcases k4 with ⟨y1, y2, y3⟩ | ⟨y1, y2, y3⟩
    · refine Or.inl ⟨k3, by omega, ?_⟩
      rw [← er] at y3
      rw [y2, show ((n : Int) - 1).toNat = n - 1 by omega]
      rw [hx] at y1
      refine isW_q (isW_rem a' x2 x3 y3) (fun s => ?_) (fun s q => ?_) (fun _ _ => rfl)
      · show sAdd S t (iI x) s ≠ 0 ↔ S s ≠ 0 ∧ s ≠ t
        by_cases w : s = t
        · rw [w, sAdd_s, y1]; exact ⟨fun e => absurd rfl e, fun e => absurd rfl e.2⟩
        · rw [sAdd_k w]; exact ⟨fun e => ⟨e, w⟩, fun e => e.1⟩
      · exact sAdd_k q.2
    · refine Or.inl ⟨k3, by omega, ?_⟩
      rw [y2, show ((n : Int)).toNat = n by omega]
      obtain ⟨z1, z2⟩ := y3
      rw [e6] at z1 z2
      refine isW_q (isW_set a' x2 x3 z1 (z2.trans hx)) (fun s => ?_) (fun s _ => by rw [sAdd_up]) (fun _ _ => rfl)
      show sAdd S t (iI x) s ≠ 0 ↔ S s ≠ 0
      by_cases w : s = t
      · rw [w, sAdd_s]; rw [hx] at y1; exact ⟨fun _ => pt, fun _ => y1⟩
      · rw [sAdd_k w]
end IsW
/-! how many -/
theorem php : ∀ (n m : Nat) (h : Nat → Nat), (∀ i, i < m → h i < n) → (∀ i j, i < j → j < m → h i ≠ h j) → m ≤ n
  | 0, m, h, h1, _ => by
    by_cases w : m = 0
    · omega
    · exact absurd (h1 0 (by omega)) (Nat.not_lt_zero _)
  | n + 1, 0, h, _, _ => Nat.zero_le _
  | n + 1, k + 1, h, h1, h2 => by
    have ih := php n k (fun i => if h i = n then h k else h i) (fun i hi => by
      have a := h1 i (by omega)
      have b := h1 k (by omega)
      have d := h2 i k hi (by omega)
      show (if h i = n then h k else h i) < n
      by_cases w : h i = n
      · rw [if_pos w]; omega
      · rw [if_neg w]; omega) (fun i j hij hj => by
      have a := h2 i j hij (by omega)
      have b := h2 i k (by omega) (by omega)
      have d := h2 j k hj (by omega)
      show (if h i = n then h k else h i) ≠ (if h j = n then h k else h j)
      by_cases w : h i = n
      · by_cases w2 : h j = n
        · omega
        · rw [if_pos w, if_neg w2]; omega
      · by_cases w2 : h j = n
        · rw [if_neg w, if_pos w2]; omega
        · rw [if_neg w, if_neg w2]; exact a)
    omega
/-- more than L -/
def bigP (L : Nat) (P : Tup → Prop) : Prop := ∃ g : Nat → Tup, (∀ i j, i < j → j ≤ L → g i ≠ g j) ∧ ∀ i, i ≤ L → P (g i)
theorem bigP_m {L : Nat} {P P' : Tup → Prop} (h : bigP L P) (k : ∀ t, P t → P' t) : bigP L P' := ⟨h.choose, h.choose_spec.1, fun i hi => k _ (h.choose_spec.2 i hi)⟩
theorem isW_big {f : Nat → Int32} {n L : Nat} {P : Tup → Prop} {S M : Tup → Int32} (a : isW f n P S M) (h : bigP L P) : L < n := by
  obtain ⟨g, g1, g2⟩ := h
  have q : ∀ i, ∃ j, i ≤ L → j < n ∧ tup f j = g i := fun i => by
    by_cases w : i ≤ L
    · obtain ⟨j, hj, e⟩ := a.2.2 _ (g2 i w)
      exact ⟨j, fun _ => ⟨hj, e⟩⟩
    · exact ⟨0, fun h => absurd h w⟩
  have := php n (L + 1) (fun i => (q i).choose) (fun i hi => ((q i).choose_spec (by omega)).1) (fun i j hij hj e => by
    have e1 := ((q i).choose_spec (by omega)).2
    have e2 := ((q j).choose_spec (by omega)).2
    exact g1 i j hij (by omega) (by rw [← e1, ← e2]; exact congrArg (tup f) e))
  omega
/-- n rows of P, and one more that is none of them -/
theorem bigP_of {f : Nat → Int32} {n : Nat} {P : Tup → Prop} {t : Tup} (hs : srtB f n) (h : ∀ i, i < n → P (tup f i)) (ht : P t) (hn : ∀ i, i < n → tup f i ≠ t) : bigP n P := by
  refine ⟨fun i => if i < n then tup f i else t, fun i j hij hj => ?_, fun i hi => ?_⟩
  · show (if i < n then tup f i else t) ≠ (if j < n then tup f j else t)
    rw [if_pos (by omega)]
    by_cases w : j < n
    · rw [if_pos w]; exact tc_ne (hs i j hij w)
    · rw [if_neg w]; exact hn i (by omega)
  · show P (if i < n then tup f i else t)
    by_cases w : i < n
    · rw [if_pos w]; exact h i w
    · rw [if_neg w]; exact ht
end
section
/-! sums over rows -/
abbrev s0T : Tup → Int32 := fun _ => 0
def sR (κ : Tup → Tup) (α : Tup → Int32 → Int32) (f : Nat → Int32) : Nat → (Tup → Int32) → Tup → Int32
  | 0, S => S
  | i + 1, S => sAdd (sR κ α f i S) (κ (tup f i)) (α (tup f i) (f (6 * i + 4)))
theorem sR_c {κ : Tup → Tup} {α : Tup → Int32 → Int32} {f f' : Nat → Int32} {S : Tup → Int32} : ∀ n, rwA f f' n → sR κ α f n S = sR κ α f' n S
  | 0, _ => rfl
  | n + 1, h => by
    rw [sR, sR, sR_c n (fun i hi => h i (by omega)), rwS_t (h n (by omega)), h n (by omega) 4 (by omega)]
/-- what a bag has of a tuple -/
def bS (f : Nat → Int32) : Nat → Tup → Int32
  | 0, _ => 0
  | i + 1, t => if tup f i = t then f (6 * i + 4) else bS f i t
theorem bS_c {f f' : Nat → Int32} {t : Tup} : ∀ n, rwA f f' n → bS f n t = bS f' n t
  | 0, _ => rfl
  | n + 1, h => by
    rw [bS, bS, bS_c n (fun i hi => h i (by omega)), rwS_t (h n (by omega)), h n (by omega) 4 (by omega)]
theorem bS_n {f : Nat → Int32} {t : Tup} : ∀ n, (∀ i, i < n → tup f i ≠ t) → bS f n t = 0
  | 0, _ => rfl
  | n + 1, h => by rw [bS, if_neg (h n (by omega)), bS_n n (fun i hi => h i (by omega))]
theorem bS_y {f : Nat → Int32} {t : Tup} {j : Nat} : ∀ n, (∀ i, i < n → tup f i = t → i = j) → j < n → tup f j = t → bS f n t = f (6 * j + 4)
  | 0, _, h, _ => absurd h (Nat.not_lt_zero _)
  | n + 1, h, hj, e => by
    rw [bS]
    by_cases w : tup f n = t
    · rw [if_pos w, h n (by omega) w]
    · rw [if_neg w]
      have : j ≠ n := fun q => w (by rw [← q]; exact e)
      exact bS_y n (fun i hi => h i (by omega)) (by omega) e
theorem bS_W {f : Nat → Int32} {n : Nat} {P : Tup → Prop} {S M : Tup → Int32} (h : isW f n P S M) {t : Tup} (ht : P t) : bS f n t = S t := by
  obtain ⟨j, hj, e⟩ := h.2.2 t ht
  rw [bS_y n (fun i hi q => srtB_ne h.1 hi hj (q.trans e.symm)) hj e, (h.2.1 j hj).2.1, e]
theorem bS_Wn {f : Nat → Int32} {n : Nat} {P : Tup → Prop} {S M : Tup → Int32} (h : isW f n P S M) {t : Tup} (ht : ¬ P t) : bS f n t = 0 :=
  bS_n n (fun i hi e => ht (by rw [← e]; exact (h.2.1 i hi).1))
theorem bS_B {f : Nat → Int32} {n : Nat} {S M : Tup → Int32} (h : isB f n S M) : bS f n = S := funext fun t => by
  by_cases w : S t = 0
  · rw [w]; exact bS_Wn h (fun q => q w)
  · exact bS_W h w
theorem bS_s {f : Nat → Int32} {n i : Nat} (h : srtB f n) (hi : i < n) : bS f n (tup f i) = f (6 * i + 4) :=
  bS_y n (fun j hj e => srtB_ne h hj hi e) hi rfl
/-- a list of rows is a bag -/
def okB (f : Nat → Int32) (n : Nat) : Prop := srtB f n ∧ ∀ i, i < n → f (6 * i + 4) ≠ 0
theorem okB_c {f f' : Nat → Int32} {n : Nat} (e : rwA f' f n) (h : okB f n) : okB f' n := by
  have et : ∀ i, i < n → tup f' i = tup f i := fun i hi => rwS_t (e i hi)
  exact ⟨fun i j hij hj => by rw [et i (by omega), et j hj]; exact h.1 i j hij hj, fun i hi => by rw [e i hi 4 (by omega)]; exact h.2 i hi⟩
theorem okB_of {f : Nat → Int32} {n : Nat} {S M : Tup → Int32} (h : isB f n S M) : okB f n := ⟨h.1, fun i hi => by rw [(h.2.1 i hi).2.1]; exact (h.2.1 i hi).1⟩
theorem okB_at {f : Nat → Int32} {n : Nat} (h : okB f n) {t : Tup} (ht : bS f n t ≠ 0) : ∃ i, i < n ∧ tup f i = t := by
  apply Classical.byContradiction
  intro q
  exact ht (bS_n n (fun i hi e => q ⟨i, hi, e⟩))
/-- marks of a list of rows -/
def bM (f : Nat → Int32) : Nat → Tup → Int32
  | 0, _ => 0
  | i + 1, t => if tup f i = t then f (6 * i + 5) else bM f i t
theorem bM_y {f : Nat → Int32} {t : Tup} {j : Nat} : ∀ n, (∀ i, i < n → tup f i = t → i = j) → j < n → tup f j = t → bM f n t = f (6 * j + 5)
  | 0, _, h, _ => absurd h (Nat.not_lt_zero _)
  | n + 1, h, hj, e => by
    rw [bM]
    by_cases w : tup f n = t
    · rw [if_pos w, h n (by omega) w]
    · rw [if_neg w]
      have : j ≠ n := fun q => w (by rw [← q]; exact e)
      exact bM_y n (fun i hi => h i (by omega)) (by omega) e
theorem okB_B {f : Nat → Int32} {n : Nat} (h : okB f n) : isB f n (bS f n) (bM f n) := by
  refine ⟨h.1, fun i hi => ?_, fun t ht => okB_at h ht⟩
  have e := bS_s h.1 hi
  refine ⟨?_, e.symm, (bM_y n (fun j hj e => srtB_ne h.1 hj hi e) hi rfl).symm⟩
  show bS f n (tup f i) ≠ 0
  rw [e]; exact h.2 i hi
/-- sums by a bag's own tuples -/
theorem sR_n {α : Tup → Int32 → Int32} {f : Nat → Int32} {S : Tup → Int32} {t : Tup} : ∀ i, (∀ j, j < i → tup f j ≠ t) → sR id α f i S t = S t
  | 0, _ => rfl
  | i + 1, h => by
    rw [sR, sAdd_k (show t ≠ id (tup f i) from fun e => h i (by omega) e.symm)]
    exact sR_n i (fun j hj => h j (by omega))
theorem sR_y {α : Tup → Int32 → Int32} {f : Nat → Int32} {S : Tup → Int32} {n k : Nat} (hs : srtB f n) : ∀ i, i ≤ n → k < i → sR id α f i S (tup f k) = S (tup f k) + α (tup f k) (f (6 * k + 4))
  | 0, _, h => absurd h (Nat.not_lt_zero _)
  | i + 1, hn, h => by
    rw [sR]
    by_cases w : k = i
    · subst w
      have e : sAdd (sR id α f k S) (id (tup f k)) (α (tup f k) (f (6 * k + 4))) (tup f k) = sR id α f k S (tup f k) + α (tup f k) (f (6 * k + 4)) := sAdd_s
      rw [e, sR_n k (fun j hj e => absurd (srtB_ne hs (by omega) (by omega) e) (by omega))]
    · rw [sAdd_k (show tup f k ≠ id (tup f i) from fun e => w (srtB_ne hs (by omega) (by omega) e))]
      exact sR_y hs i (by omega) (by omega)
theorem sR_all {α : Tup → Int32 → Int32} {f : Nat → Int32} {n : Nat} {S : Tup → Int32} (h : okB f n) (h0 : ∀ t, α t 0 = 0) : sR id α f n S = fun t => S t + α t (bS f n t) := funext fun t => by
  by_cases w : ∃ i, i < n ∧ tup f i = t
  · obtain ⟨i, hi, e⟩ := w
    subst e
    rw [sR_y h.1 n (Nat.le_refl _) hi, bS_s h.1 hi]
  · rw [sR_n n (fun j hj e => w ⟨j, hj, e⟩), bS_n n (fun j hj e => w ⟨j, hj, e⟩), h0, Int32.add_zero]
/-! a row comes behind all -/
def apP (f f' o : Nat → Int32) (row len x : Int) : Prop := (∀ j : Nat, (j : Int) < 6 * len → f' j = f j) ∧ (∀ t : Nat, t < 4 → f' ((6 * len).toNat + t) = o ((6 * row).toNat + t)) ∧ f' ((6 * len).toNat + 4) = iI x ∧ f' ((6 * len).toNat + 5) = 0
theorem ap_p {f f2 f3 f4 o : Nat → Int32} {row len x : Int} (h0 : 0 ≤ len) (h1 : 0 ≤ row) (e2 : f2 = va_cpy o f (row * 6).toNat (len * 6).toNat (4 : Int).toNat) (e3 : ∀ j : Nat, j ≠ (len * 6 + 5).toNat → f3 j = f2 j) (e3' : f3 (len * 6 + 5).toNat = 0) (e4 : ∀ j : Nat, j ≠ (len * 6 + 4).toNat → f4 j = f3 j) (e4' : f4 (len * 6 + 4).toNat = iI x) : apP f f4 o row len x := by
  refine ⟨fun j hj => ?_, fun t ht => ?_, ?_, ?_⟩
  · rw [e4 j (by omega), e3 j (by omega), e2]
    unfold va_cpy
    rw [if_neg (by omega)]
  · rw [e4 _ (by omega), e3 _ (by omega), e2]
    unfold va_cpy
    rw [if_pos ⟨by omega, by omega⟩, show (row * 6).toNat + ((6 * len).toNat + t - (len * 6).toNat) = (6 * row).toNat + t by omega]
  · rw [show (6 * len).toNat + 4 = (len * 6 + 4).toNat by omega]; exact e4'
  · rw [e4 _ (by omega), show (6 * len).toNat + 5 = (len * 6 + 5).toNat by omega]; exact e3'
theorem ap_W {f f' o : Nat → Int32} {row len x : Int} {n : Nat} (h : apP f f' o row len x) (hl : len = (n : Int)) (h1 : 0 ≤ row) : insW f f' n n (tup o row.toNat) (iI x) 0 := by
  obtain ⟨a, b, c, d⟩ := h
  have e6 : (6 * len).toNat = 6 * n := by omega
  have e7 : (6 * row).toNat = 6 * row.toNat := by omega
  rw [e6] at c d
  refine ⟨fun i hi j hj => a _ (by omega), ⟨tg_x (fun k hk => ?_), c, d⟩, fun i hi hl => absurd hl (by omega)⟩
  have q := b k hk
  rw [e6, e7] at q
  rw [tg_up k hk, tg_up k hk]; exact q
theorem isB_ap {f f' : Nat → Int32} {n : Nat} {S : Tup → Int32} {t : Tup} {c : Int32} (a : isB f n S zM) (h : ∀ i, i < n → tc (tup f i) t = -1) (e : insW f f' n n t c 0) (hc : c ≠ 0) : isB f' (n + 1) (sAdd S t c) zM := by
  have hat : atW f n n t := ⟨Nat.le_refl _, h, fun i hi hl => absurd hl (by omega)⟩
  have q := isW_ins a hat e
  have s0 : S t = 0 := Classical.byContradiction q.1
  refine isW_q q.2 (fun s => ?_) (fun s _ => by rw [sAdd_up, s0, Int32.zero_add]) (fun s _ => ?_)
  · show sAdd S t c s ≠ 0 ↔ pAdd (fun t => S t ≠ 0) t s
    by_cases w : s = t
    · rw [w, sAdd_s, s0, Int32.zero_add]; exact ⟨fun _ => Or.inl rfl, fun _ => hc⟩
    · rw [sAdd_k w]; exact ⟨fun e => Or.inr e, fun e => e.resolve_left w⟩
  · by_cases w : s = t
    · rw [w, tUp_s]
    · rw [tUp_k w]
/-! two bags together: i rows of a, j of b are done, m rows are out -/
def gaI (a b f : Nat → Int32) (na nb i j m : Nat) (S : Tup → Int32) : Prop :=
  srtB f m ∧ (∀ r : Nat, r < m → f (6 * r + 4) = S (tup f r) ∧ S (tup f r) ≠ 0 ∧ f (6 * r + 5) = 0) ∧ (∀ r k : Nat, r < m → i ≤ k → k < na → tc (tup f r) (tup a k) = -1) ∧ (∀ r k : Nat, r < m → j ≤ k → k < nb → tc (tup f r) (tup b k) = -1) ∧
  (∀ t : Tup, S t ≠ 0 → (∃ r : Nat, r < m ∧ tup f r = t) ∨ (∃ k : Nat, i ≤ k ∧ k < na ∧ tup a k = t) ∨ (∃ k : Nat, j ≤ k ∧ k < nb ∧ tup b k = t)) ∧
  (∀ k l : Nat, k < j → i ≤ l → l < na → tc (tup b k) (tup a l) = -1) ∧ (∀ k l : Nat, k < i → j ≤ l → l < nb → tc (tup a k) (tup b l) = -1)
/-- the head t is passed -/
def gaT (a b : Nat → Int32) (na nb i j i' j' : Nat) (t : Tup) : Prop :=
  (i' = i ∨ (i' = i + 1 ∧ i < na ∧ tup a i = t)) ∧ (j' = j ∨ (j' = j + 1 ∧ j < nb ∧ tup b j = t)) ∧ (∀ k, i' ≤ k → k < na → tc t (tup a k) = -1) ∧ (∀ k, j' ≤ k → k < nb → tc t (tup b k) = -1) ∧ (i' = i + 1 ∨ j' = j + 1)
section Gather
variable {a b f f' : Nat → Int32} {na nb i j i' j' m : Nat} {S : Tup → Int32} {sg : Int32} {t : Tup} {c : Int32}
theorem ga_0 (hA : okB a na) (hB : okB b nb) (hS : ∀ t, S t = bS a na t + sg * bS b nb t) : gaI a b f na nb 0 0 0 S := by
  refine ⟨fun i j _ h => absurd h (Nat.not_lt_zero j), fun r h => absurd h (Nat.not_lt_zero r), fun r k h => absurd h (Nat.not_lt_zero r), fun r k h => absurd h (Nat.not_lt_zero r), fun t ht => ?_, fun k l h => absurd h (Nat.not_lt_zero k), fun k l h => absurd h (Nat.not_lt_zero k)⟩
  by_cases q : bS a na t = 0
  · by_cases w : bS b nb t = 0
    · rw [hS, q, w, Int32.mul_zero, Int32.add_zero] at ht; exact absurd rfl ht
    · obtain ⟨k, hk, e⟩ := okB_at hB w
      exact Or.inr (Or.inr ⟨k, Nat.zero_le _, hk, e⟩)
  · obtain ⟨k, hk, e⟩ := okB_at hA q
    exact Or.inr (Or.inl ⟨k, Nat.zero_le _, hk, e⟩)
/-- at the end the rows out are the bag -/
theorem ga_e (h : gaI a b f na nb i j m S) (hi : na ≤ i) (hj : nb ≤ j) : isB f m S zM := by
  obtain ⟨h1, h2, -, -, h5, -, -⟩ := h
  refine ⟨h1, fun r hr => ⟨(h2 r hr).2.1, (h2 r hr).1, (h2 r hr).2.2⟩, fun t ht => ?_⟩
  rcases h5 t ht with q | ⟨k, a1, a2, _⟩ | ⟨k, a1, a2, _⟩
  · exact q
  · exact absurd a2 (by omega)
  · exact absurd a2 (by omega)
theorem ga_lt (h : gaI a b f na nb i j m S) (ht : gaT a b na nb i j i' j' t) : ∀ r, r < m → tc (tup f r) t = -1 := fun r hr => by
  obtain ⟨t1, t2, -, -, t5⟩ := ht
  rcases t5 with e | e
  · rcases t1 with q | ⟨_, q, rfl⟩
    · omega
    · exact h.2.2.1 r i hr (Nat.le_refl _) q
  · rcases t2 with q | ⟨_, q, rfl⟩
    · omega
    · exact h.2.2.2.1 r j hr (Nat.le_refl _) q
theorem ga_ord (hA : okB a na) (hB : okB b nb) (h : gaI a b f na nb i j m S) (ht : gaT a b na nb i j i' j' t) :
    (∀ k l : Nat, k < j' → i' ≤ l → l < na → tc (tup b k) (tup a l) = -1) ∧ (∀ k l : Nat, k < i' → j' ≤ l → l < nb → tc (tup a k) (tup b l) = -1) := by
  obtain ⟨t1, t2, t3, t4, t5⟩ := ht
  obtain ⟨-, -, -, -, -, h6, h7⟩ := h
  refine ⟨fun k l hk hl hn => ?_, fun k l hk hl hn => ?_⟩
  · by_cases w : k < j
    · exact h6 k l w (by omega) hn
    · rcases t2 with q | ⟨q, q1, q2⟩
      · omega
      · rw [show k = j by omega, q2]; exact t3 l hl hn
  · by_cases w : k < i
    · exact h7 k l w (by omega) hn
    · rcases t1 with q | ⟨q, q1, q2⟩
      · omega
      · rw [show k = i by omega, q2]; exact t4 l hl hn
theorem ga_skip (hA : okB a na) (hB : okB b nb) (h : gaI a b f na nb i j m S) (ht : gaT a b na nb i j i' j' t) (h0 : S t = 0) : gaI a b f na nb i' j' m S := by
  have ho := ga_ord hA hB h ht
  obtain ⟨t1, t2, t3, t4, t5⟩ := ht
  obtain ⟨h1, h2, h3, h4, h5, -, -⟩ := h
  refine ⟨h1, h2, fun r k hr hk hn => h3 r k hr (by omega) hn, fun r k hr hk hn => h4 r k hr (by omega) hn, fun s hs => ?_, ho.1, ho.2⟩
  have ne : s ≠ t := fun e => hs (by rw [e]; exact h0)
  rcases h5 s hs with q | ⟨k, k1, k2, k3⟩ | ⟨k, k1, k2, k3⟩
  · exact Or.inl q
  · by_cases w : i' ≤ k
    · exact Or.inr (Or.inl ⟨k, w, k2, k3⟩)
    · rcases t1 with q | ⟨q, q1, q2⟩
      · omega
      · exact absurd (by rw [← k3, ← q2, show k = i by omega]) ne
  · by_cases w : j' ≤ k
    · exact Or.inr (Or.inr ⟨k, w, k2, k3⟩)
    · rcases t2 with q | ⟨q, q1, q2⟩
      · omega
      · exact absurd (by rw [← k3, ← q2, show k = j by omega]) ne
theorem ga_app (hA : okB a na) (hB : okB b nb) (h : gaI a b f na nb i j m S) (ht : gaT a b na nb i j i' j' t) (h0 : S t ≠ 0) (e : insW f f' m m t (S t) 0) : gaI a b f' na nb i' j' (m + 1) S := by
  have ho := ga_ord hA hB h ht
  have hlt := ga_lt h ht
  obtain ⟨t1, t2, t3, t4, t5⟩ := ht
  obtain ⟨h1, h2, h3, h4, h5, -, -⟩ := h
  obtain ⟨e1, e2, -⟩ := e
  have r1 : ∀ r, r < m → tup f' r = tup f r := fun r hr => rwS_t (e1 r hr)
  refine ⟨fun r s hrs hs => ?_, fun r hr => ?_, fun r k hr hk hn => ?_, fun r k hr hk hn => ?_, fun s hs => ?_, ho.1, ho.2⟩
  · by_cases w : s < m
    · rw [r1 r (by omega), r1 s w]; exact h1 r s hrs w
    · rw [show s = m by omega, e2.1, r1 r (by omega)]; exact hlt r (by omega)
  · by_cases w : r < m
    · rw [r1 r w, e1 r w 4 (by omega), e1 r w 5 (by omega)]; exact h2 r w
    · rw [show r = m by omega, e2.1]; exact ⟨e2.2.1, h0, e2.2.2⟩
  · by_cases w : r < m
    · rw [r1 r w]; exact h3 r k w (by omega) hn
    · rw [show r = m by omega, e2.1]; exact t3 k hk hn
  · by_cases w : r < m
    · rw [r1 r w]; exact h4 r k w (by omega) hn
    · rw [show r = m by omega, e2.1]; exact t4 k hk hn
  · rcases h5 s hs with ⟨r, hr, q⟩ | ⟨k, k1, k2, k3⟩ | ⟨k, k1, k2, k3⟩
    · exact Or.inl ⟨r, by omega, (r1 r hr).trans q⟩
    · by_cases w : i' ≤ k
      · exact Or.inr (Or.inl ⟨k, w, k2, k3⟩)
      · rcases t1 with q | ⟨q, q1, q2⟩
        · omega
        · exact Or.inl ⟨m, by omega, by rw [e2.1, ← q2, ← k3, show k = i by omega]⟩
    · by_cases w : j' ≤ k
      · exact Or.inr (Or.inr ⟨k, w, k2, k3⟩)
      · rcases t2 with q | ⟨q, q1, q2⟩
        · omega
        · exact Or.inl ⟨m, by omega, by rw [e2.1, ← q2, ← k3, show k = j by omega]⟩
theorem ga_big (h : gaI a b f na nb i j m S) (ht : gaT a b na nb i j i' j' t) (h0 : S t ≠ 0) : bigP m (fun t => S t ≠ 0) :=
  bigP_of h.1 (fun r hr => (h.2.1 r hr).2.1) h0 (fun r hr => tc_ne (ga_lt h ht r hr))
/-- the head of a alone, of b alone, of both -/
theorem ga_a (hA : okB a na) (hB : okB b nb) (hS : ∀ t, S t = bS a na t + sg * bS b nb t) (h : gaI a b f na nb i j m S) (hi : i < na) (hj : j < nb → tc (tup a i) (tup b j) = -1) : gaT a b na nb i j (i + 1) j (tup a i) ∧ S (tup a i) = a (6 * i + 4) := by
  have up : ∀ k, j ≤ k → k < nb → tc (tup a i) (tup b k) = -1 := fun k hk hn => by
    have q := hj (by omega)
    by_cases w : k = j
    · rw [w]; exact q
    · exact tc_t (b := tup b j) (by rw [q]; decide) (srtB_le hB.1 hk hn) (Or.inl (by rw [q]; decide))
  refine ⟨⟨Or.inr ⟨rfl, hi, rfl⟩, Or.inl rfl, fun k hk hn => hA.1 i k (by omega) hn, up, Or.inl rfl⟩, ?_⟩
  rw [hS, bS_s hA.1 hi, bS_n nb (fun k hk e => ?_), Int32.mul_zero, Int32.add_zero]
  by_cases w : k < j
  · exact tc_ne (h.2.2.2.2.2.1 k i w (Nat.le_refl _) hi) e
  · exact tc_ne (up k (by omega) hk) e.symm
theorem ga_b (hA : okB a na) (hB : okB b nb) (hS : ∀ t, S t = bS a na t + sg * bS b nb t) (h : gaI a b f na nb i j m S) (hj : j < nb) (hi : i < na → tc (tup a i) (tup b j) = 1) : gaT a b na nb i j i (j + 1) (tup b j) ∧ S (tup b j) = sg * b (6 * j + 4) := by
  have up : ∀ k, i ≤ k → k < na → tc (tup b j) (tup a k) = -1 := fun k hk hn => by
    have q := hi (by omega)
    have q' : tc (tup b j) (tup a i) = -1 := by rw [tc_s, q]
    by_cases w : k = i
    · rw [w]; exact q'
    · exact tc_t (b := tup a i) (by rw [q']; decide) (srtB_le hA.1 hk hn) (Or.inl (by rw [q']; decide))
  refine ⟨⟨Or.inl rfl, Or.inr ⟨rfl, hj, rfl⟩, up, fun k hk hn => hB.1 j k (by omega) hn, Or.inr rfl⟩, ?_⟩
  rw [hS, bS_s hB.1 hj, bS_n na (fun k hk e => ?_), Int32.zero_add]
  by_cases w : k < i
  · exact tc_ne (h.2.2.2.2.2.2 k j w (Nat.le_refl _) hj) e
  · exact tc_ne (up k (by omega) hk) e.symm
theorem ga_ab (hA : okB a na) (hB : okB b nb) (hS : ∀ t, S t = bS a na t + sg * bS b nb t) (hi : i < na) (hj : j < nb) (e : tc (tup a i) (tup b j) = 0) : gaT a b na nb i j (i + 1) (j + 1) (tup a i) ∧ S (tup a i) = a (6 * i + 4) + sg * b (6 * j + 4) := by
  have e := tc_0.mp e
  refine ⟨⟨Or.inr ⟨rfl, hi, rfl⟩, Or.inr ⟨rfl, hj, e.symm⟩, fun k hk hn => hA.1 i k (by omega) hn, fun k hk hn => by rw [e]; exact hB.1 j k (by omega) hn, Or.inl rfl⟩, ?_⟩
  rw [hS, bS_s hA.1 hi, e, bS_s hB.1 hj]
/-- two bags together are no more than both -/
theorem ga_cnt {L : Nat} (hA : okB a na) (hB : okB b nb) (h : bigP L (fun t => bS a na t + sg * bS b nb t ≠ 0)) : L < na + nb := by
  obtain ⟨g, g1, g2⟩ := h
  have q : ∀ i, ∃ k, i ≤ L → (k < na ∧ tup a k = g i) ∨ (na ≤ k ∧ k < na + nb ∧ tup b (k - na) = g i) := fun i => by
    by_cases w : i ≤ L
    · by_cases z : bS a na (g i) = 0
      · by_cases z2 : bS b nb (g i) = 0
        · exact absurd (by rw [z, z2, Int32.mul_zero, Int32.add_zero]) (g2 i w)
        · obtain ⟨k, hk, e⟩ := okB_at hB z2
          exact ⟨na + k, fun _ => Or.inr ⟨by omega, by omega, by rw [show na + k - na = k by omega]; exact e⟩⟩
      · obtain ⟨k, hk, e⟩ := okB_at hA z
        exact ⟨k, fun _ => Or.inl ⟨hk, e⟩⟩
    · exact ⟨0, fun h => absurd h w⟩
  have := php (na + nb) (L + 1) (fun i => (q i).choose) (fun i hi => by
    rcases (q i).choose_spec (by omega) with ⟨w, _⟩ | ⟨_, w, _⟩
    · show (q i).choose < _
      omega
    · exact w) (fun i j hij hj e => by
    have e : (q i).choose = (q j).choose := e
    rcases (q i).choose_spec (by omega) with ⟨w, x⟩ | ⟨w, w', x⟩
    · rcases (q j).choose_spec (by omega) with ⟨v, y⟩ | ⟨v, v', y⟩
      · exact g1 i j hij (by omega) (by rw [← x, ← y, e])
      · omega
    · rcases (q j).choose_spec (by omega) with ⟨v, y⟩ | ⟨v, v', y⟩
      · omega
      · exact g1 i j hij (by omega) (by rw [← x, ← y, e]))
  omega
end Gather
/-- a choice by a condition -/
noncomputable def pI (p : Prop) (a b : Int32) : Int32 := @ite _ p (Classical.propDecidable p) a b
theorem pI_y {p : Prop} {a b : Int32} (h : p) : pI p a b = a := @if_pos _ (Classical.propDecidable p) h _ _ _
theorem pI_n {p : Prop} {a b : Int32} (h : ¬ p) : pI p a b = b := @if_neg _ (Classical.propDecidable p) h _ _ _
end
