section
def rmX7_isToldf : Room := { frames := 2, cells := 0, slots := 0, locals := 43 }
set_option maxHeartbeats 4000000 in
set_option maxRecDepth 100000 in
/-- told -/
theorem c_X7_isToldf (l : Launch) (g : gG) (gh : gGh) (T : Nat → Int32) (nr : Nat) (I : gI) (R : gR) (J : gJ) (AI : gI) (AJ : gJ) (AR : gR) (mo : Nat) (rr : Int) (wh : Int) (zrr : zr rr) (zwh : zr wh) (hv : mInv g gh R I AI) (hm : gO g mo 7) (hT : AI (gh 50 0) = T) (hmr : (I mo 2).toInt = (nr : Int)) : gMet l g yX7_isTold tsX7_isTold rmX7_isToldf [.ref mo, .int (iI rr), .int (iI wh)] (I, R, J, AI, AJ, AR) (gQi g (fun (z : Int) (w : gS) => I = w.1 ∧ R = w.2.1 ∧ J = w.2.2.1 ∧ AI = w.2.2.2.1 ∧ AJ = w.2.2.2.2.1 ∧ AR = w.2.2.2.2.2 ∧ ((z = 0 ∨ z = 1) ∧ (z = 1 → 0 ≤ rr ∧ rr ≤ 15 ∧ 0 ≤ wh ∧ wh ≤ 4)) ∧ (tIz z (tdM T nr rr wh)))) := by
  refine gStart (cc := cX7_isTold) (maxL := 3) (ret := (some (.boolean))) (by decide) rfl (Nat.le_of_ble_eq_true rfl) ?_
  intro p e s m below meth c ls F hr hlk hH hz hS hl
  have hl : lv_has ls 3 [(0, .ref mo), (1, .int (iI rr)), (2, .int (iI wh))] := hl
  have hS : va_S (gA g) s.heap s.heap [] := hS
  obtain ⟨H, hHe⟩ : ∃ H : Heap, H = s.heap := ⟨_, rfl⟩
  obtain ⟨locs, hlo⟩ : ∃ k : List Loc, k = [] := ⟨_, rfl⟩
  have hH : gH g I R J AI AJ AR H := by rw [hHe]; exact hH
  have hS : va_S (gA g) s.heap H locs := by rw [hHe, hlo]; exact hS
  suffices hw : W p l e rmX7_isToldf s m ([.ref mo, .int (iI rr), .int (iI wh)] : List Value).toArray below meth c H locs 0 0 (MQ below (gQi g (fun (z : Int) (w : gS) => I = w.1 ∧ R = w.2.1 ∧ J = w.2.2.1 ∧ AI = w.2.2.2.1 ∧ AJ = w.2.2.2.2.1 ∧ AR = w.2.2.2.2.2 ∧ ((z = 0 ∨ z = 1) ∧ (z = 1 → 0 ≤ rr ∧ rr ≤ 15 ∧ 0 ≤ wh ∧ wh ≤ 4)) ∧ (tIz z (tdM T nr rr wh)))) ([.ref mo, .int (iI rr), .int (iI wh)] : List Value).toArray s 0 0 (gA g)) (F0 m 0 ls []) by
    rw [hHe, hlo] at hw; exact hw
  clear hHe hlo
  refine lv_aload_n F.1 F.2.1 dX7_isTold_0 rfl (lv_at hl 0 rfl) ?_
  refine lv_iload_n F.1 F.2.1 dX7_isTold_1 rfl (lv_at hl 1 rfl) ?_
  have b_1 := mJ hv hm
  unfold mNum1 at b_1
  refine g_calli (g_runV (As := [.int (iI rr)]) (rest := []) (ci := 7) F hl.1 hH hS hz (c_X7_isRelationf l g gh T I R J AI AJ AR mo rr zrr hv hm hT) (cwV 1 F.2.2.2.2.1 (good_up gT_X7_isRelation) rfl rfl rfl hdX7_isRelation ⟨Nat.le_of_ble_eq_true rfl, Nat.le_of_ble_eq_true rfl⟩) hm (by decide) rfl rfl rfl (Nat.le_of_ble_eq_true rfl) dX7_isTold_2 ⟨Nat.zero_le _, Nat.zero_le _⟩) hS (fun v_8 I_2 R_3 J_4 AI_5 AJ_6 AR_7 H locs zv_8 hp_9 hH hS => ?_)
  dsimp only at hp_9
  obtain ⟨rfl, rfl, rfl, rfl, rfl, rfl, q_10, qis⟩ := hp_9
  refine z_if_eq (tgt := 32) F dX7_isTold_5 (by decide) zv_8 (fun c_11 => ?_) (fun c_11 => ?_)
  · refine z_iconst F dX7_isTold_32 ?_
    exact g_zret F hr hlk hH hS hz (by omega) ⟨rfl, rfl, rfl, rfl, rfl, rfl, ⟨by omega, fun _ => by omega⟩, tIz_f (fun h9 => by have h8 := h9.1; have h7 := qis (by omega); omega)⟩ dX7_isTold_33
  · refine lv_iload_n F.1 F.2.1 dX7_isTold_8 rfl (lv_at hl 2 rfl) ?_
    refine z_iconst F dX7_isTold_9 ?_
    refine z_icmp_eq (tgt := 28) F dX7_isTold_10 (by decide) zwh ⟨by decide, by decide⟩ (fun c_12 => ?_) (fun c_12 => ?_)
    · refine z_iconst F dX7_isTold_28 ?_
      refine z_goto (tgt := 33) F dX7_isTold_29 (by decide) ?_
      exact g_zret F hr hlk hH hS hz (by omega) ⟨rfl, rfl, rfl, rfl, rfl, rfl, ⟨by omega, fun _ => by omega⟩, tIz_t ⟨⟨by omega, by omega⟩, by first | exact Or.inl (by omega) | (refine Or.inr ?_; rw [← qc17]; omega)⟩⟩ dX7_isTold_33
    · have x := mRow hv hm hT (z := rr) (by omega) (by omega)
      have xa := x.1
      refine lv_iload_n F.1 F.2.1 dX7_isTold_13 rfl (lv_at hl 2 rfl) ?_
      refine z_iconst F dX7_isTold_14 ?_
      refine lv_aload_n F.1 F.2.1 dX7_isTold_15 rfl (lv_at hl 0 rfl) ?_
      refine lv_iload_n F.1 F.2.1 dX7_isTold_16 rfl (lv_at hl 1 rfl) ?_
      refine g_calli (g_runV (As := [.int (iI rr)]) (rest := [.int (iI 0), .int (iI wh)]) (ci := 7) F hl.1 hH hS hz (c_X7_columnsOf l g gh T I R J AI AJ AR mo rr zrr hv hm hT (by omega)) (cwV 1 F.2.2.2.2.1 (good_up gT_X7_columnsOf) rfl rfl rfl hdX7_columnsOf ⟨Nat.le_of_ble_eq_true rfl, Nat.le_of_ble_eq_true rfl⟩) hm (by decide) rfl rfl rfl (Nat.le_of_ble_eq_true rfl) dX7_isTold_17 ⟨Nat.zero_le _, Nat.zero_le _⟩) hS (fun v_19 I_13 R_14 J_15 AI_16 AJ_17 AR_18 H locs zv_19 hp_20 hH hS => ?_)
      dsimp only at hp_20
      obtain ⟨rfl, rfl, rfl, rfl, rfl, rfl, qc17⟩ := hp_20
      refine z_iconst F dX7_isTold_20 ?_
      refine z_isub F dX7_isTold_21 ?_
      refine g_calli (g_runS (As := [.int (iI wh), .int (iI 0), .int (iI (v_19 - 1))]) (rest := []) F hl.1 hH hS hz (c_X7_within l g  I R J AI AJ AR wh 0 (v_19 - 1) zwh ⟨by decide, by decide⟩ ⟨by omega, by omega⟩) (va_cwS 3 F.2.2.2.2.1 (good_up gT_X7_within) rfl rfl rfl hdX7_within.2 ⟨Nat.le_of_ble_eq_true rfl, Nat.le_of_ble_eq_true rfl⟩) rfl rfl (Nat.le_of_ble_eq_true rfl) dX7_isTold_22 ⟨Nat.zero_le _, Nat.zero_le _⟩) hS (fun v_27 I_21 R_22 J_23 AI_24 AJ_25 AR_26 H locs zv_27 hp_28 hH hS => ?_)
      dsimp only at hp_28
      obtain ⟨rfl, rfl, rfl, rfl, rfl, rfl, qwi⟩ := hp_28
      refine z_if_eq (tgt := 32) F dX7_isTold_25 (by decide) zv_27 (fun c_29 => ?_) (fun c_29 => ?_)
      · refine z_iconst F dX7_isTold_32 ?_
        exact g_zret F hr hlk hH hS hz (by omega) ⟨rfl, rfl, rfl, rfl, rfl, rfl, ⟨by omega, fun _ => by omega⟩, tIz_f (fun h9 => by have h8 := h9.2; rw [← qc17] at h8; omega)⟩ dX7_isTold_33
      · refine z_iconst F dX7_isTold_28 ?_
        refine z_goto (tgt := 33) F dX7_isTold_29 (by decide) ?_
        exact g_zret F hr hlk hH hS hz (by omega) ⟨rfl, rfl, rfl, rfl, rfl, rfl, ⟨by omega, fun _ => by omega⟩, tIz_t ⟨⟨by omega, by omega⟩, by first | exact Or.inl (by omega) | (refine Or.inr ?_; rw [← qc17]; omega)⟩⟩ dX7_isTold_33

def rmX7_findf : Room := { frames := 1, cells := 0, slots := 0, locals := 24 }
set_option maxHeartbeats 4000000 in
set_option maxRecDepth 100000 in
/-- find -/
theorem c_X7_findf (l : Launch) (g : gG) (gh : gGh) (T : Nat → Int32) (na : Nat) (bxa : Nat → Int32) (I : gI) (R : gR) (J : gJ) (AI : gI) (AJ : gJ) (AR : gR) (mo : Nat) (sd : Int) (rr : Int) (a1 : Int) (b1 : Int) (c1 : Int) (d1 : Int) (zsd : zr sd) (zrr : zr rr) (za1 : zr a1) (zb1 : zr b1) (zc1 : zr c1) (zd1 : zr d1) (hv : mInv g gh R I AI) (hm : gO g mo 7) (hT : AI (gh 50 0) = T) (hs : 0 ≤ sd ∧ sd ≤ 10) (hr0 : 0 ≤ rr ∧ rr ≤ 15) (hna : tI (AI (gh 57 0)) (16 * sd + rr) = (na : Int)) (hXa : ∀ q : Nat, q < 720 → AI (gh 56 0) ((11520 * sd + 720 * rr).toNat + q) = bxa q) (h120 : na ≤ 120) : gMet l g yX7_find tsX7_find rmX7_findf [.ref mo, .int (iI sd), .int (iI rr), .int (iI a1), .int (iI b1), .int (iI c1), .int (iI d1)] (I, R, J, AI, AJ, AR) (gQi g (fun (z : Int) (w : gS) => I = w.1 ∧ R = w.2.1 ∧ J = w.2.2.1 ∧ AJ = w.2.2.2.2.1 ∧ AR = w.2.2.2.2.2 ∧ (mInv g gh R I (w.2.2.2.1)) ∧ ((w.2.2.2.1) (gh 50 0) = T) ∧ (-1 ≤ z ∧ z ≤ 119) ∧ (∀ b, b ≠ gh 77 0 → (w.2.2.2.1) b = AI b) ∧ (fdM bxa na (kyT (tI T (40 * rr + 1)) a1 b1 c1 d1) z))) := by
  refine gStart (cc := cX7_find) (maxL := 9) (ret := (some (.int))) (by decide) rfl (Nat.le_of_ble_eq_true rfl) ?_
  intro p e s m below meth c ls F hr hlk hH hz hS hl
  have hl : lv_has ls 9 [(0, .ref mo), (1, .int (iI sd)), (2, .int (iI rr)), (3, .int (iI a1)), (4, .int (iI b1)), (5, .int (iI c1)), (6, .int (iI d1))] := hl
  have hS : va_S (gA g) s.heap s.heap [] := hS
  obtain ⟨H, hHe⟩ : ∃ H : Heap, H = s.heap := ⟨_, rfl⟩
  obtain ⟨locs, hlo⟩ : ∃ k : List Loc, k = [] := ⟨_, rfl⟩
  have hH : gH g I R J AI AJ AR H := by rw [hHe]; exact hH
  have hS : va_S (gA g) s.heap H locs := by rw [hHe, hlo]; exact hS
  suffices hw : W p l e rmX7_findf s m ([.ref mo, .int (iI sd), .int (iI rr), .int (iI a1), .int (iI b1), .int (iI c1), .int (iI d1)] : List Value).toArray below meth c H locs 0 0 (MQ below (gQi g (fun (z : Int) (w : gS) => I = w.1 ∧ R = w.2.1 ∧ J = w.2.2.1 ∧ AJ = w.2.2.2.2.1 ∧ AR = w.2.2.2.2.2 ∧ (mInv g gh R I (w.2.2.2.1)) ∧ ((w.2.2.2.1) (gh 50 0) = T) ∧ (-1 ≤ z ∧ z ≤ 119) ∧ (∀ b, b ≠ gh 77 0 → (w.2.2.2.1) b = AI b) ∧ (fdM bxa na (kyT (tI T (40 * rr + 1)) a1 b1 c1 d1) z))) ([.ref mo, .int (iI sd), .int (iI rr), .int (iI a1), .int (iI b1), .int (iI c1), .int (iI d1)] : List Value).toArray s 0 0 (gA g)) (F0 m 0 ls []) by
    rw [hHe, hlo] at hw; exact hw
  clear hHe hlo
  have iX7 : ∀ w ∈ u_ws RX7 TX7 32, w ∈ tsX7_find := fun w h => List.mem_cons_of_mem _ (inTB7 w h)
  have k45 : Cond.fieldLink RX7 45 (TX7 27).1 (TX7 27).2.1 (TX7 27).2.2.1 ∈ tsX7_find := List.mem_cons_of_mem _ fl_45
  have k24 : Cond.fieldLink RX7 24 (TX7 6).1 (TX7 6).2.1 (TX7 6).2.2.1 ∈ tsX7_find := List.mem_cons_of_mem _ fl_24
  refine lv_aload_n F.1 F.2.1 dX7_find_0 rfl (lv_at hl 0 rfl) ?_
  refine lv_iload_n F.1 F.2.1 dX7_find_1 rfl (lv_at hl 2 rfl) ?_
  have b_1 := mJ hv hm
  unfold mNum1 at b_1
  refine g_calli (g_runV (As := [.int (iI rr)]) (rest := []) (ci := 7) F hl.1 hH hS hz (c_X7_columnsOf l g gh T I R J AI AJ AR mo rr zrr hv hm hT (by omega)) (cwV 1 F.2.2.2.2.1 (good_up gT_X7_columnsOf) rfl rfl rfl hdX7_columnsOf ⟨Nat.le_of_ble_eq_true rfl, Nat.le_of_ble_eq_true rfl⟩) hm (by decide) rfl rfl rfl (Nat.le_of_ble_eq_true rfl) dX7_find_2 ⟨Nat.zero_le _, Nat.zero_le _⟩) hS (fun v_8 I_2 R_3 J_4 AI_5 AJ_6 AR_7 H locs zv_8 hp_9 hH hS => ?_)
  dsimp only at hp_9
  obtain ⟨rfl, rfl, rfl, rfl, rfl, rfl, qco⟩ := hp_9
  refine lv_istore (lv' := [(7, .int (iI v_8)), (0, .ref mo), (1, .int (iI sd)), (2, .int (iI rr)), (3, .int (iI a1)), (4, .int (iI b1)), (5, .int (iI c1)), (6, .int (iI d1))]) F.1 F.2.1 dX7_find_5 hl (by decide) rfl (fun ls hl => ?_)
  refine lv_aload_n F.1 F.2.1 dX7_find_7 rfl (lv_at hl 1 rfl) ?_
  obtain ⟨r_10a, r_10b⟩ : R mo 27 = some (gh 77 0) ∧ gAr g (gh 77 0) 9 4 := mR hv hm (q := (27, 4)) (by decide)
  refine g_getR (ci := 7) (k := 27) F hH rfl (by decide) iX7 hm (by decide) rfl (b := gh 77 0) r_10a k45 dX7_find_8 ?_
  refine z_iconst F dX7_find_11 ?_
  refine lv_iload_n F.1 F.2.1 dX7_find_12 rfl (lv_at hl 4 rfl) ?_
  have hx13 : 0 ≤ (0 : Int) ∧ (0 : Int) < ((4 : Nat) : Int) ∧ (0 : Int) ≤ 2147483647 := ⟨by omega, by omega, by omega⟩
  refine g_iast F hH hS r_10b hx13.1 hx13.2.1 hx13.2.2 dX7_find_13 (fun H locs hH hS => ?_)
  obtain ⟨AI_11, eAI_11⟩ : ∃ qQ, qQ = gup2 AI (gh 77 0) ((0 : Int)).toNat (iI (a1)) := ⟨_, rfl⟩
  rw [← eAI_11] at hH
  have kAI_11 : ∀ b, b ≠ (gh 77 0) → AI_11 b = AI b := fun b hb => by rw [eAI_11]; exact funext fun j => gup2_a _ _ hb
  have hvO := hv
  have t_12 : AI_11 (gh 50 0) = AI (gh 50 0) := mK hv hm (p := (0, 640)) (q := (27, 4)) (by decide) (by decide) (by decide) kAI_11
  have hv : mInv g gh R I AI_11 := mInv_a hv hm (q := (27, 4)) (by decide) (by decide) kAI_11
  have hT : AI_11 (gh 50 0) = T := t_12.trans hT
  have key0 : AI_11 (gh 77 0) 0 = iI a1 := by rw [eAI_11, gup2_e _ _ (by decide)]
  have fW : ∀ b, b ≠ gh 77 0 → AI_11 b = AI b := fun b hb => kAI_11 b hb
  refine lv_aload_n F.1 F.2.1 dX7_find_14 rfl (lv_at hl 1 rfl) ?_
  refine g_getR (ci := 7) (k := 27) F hH rfl (by decide) iX7 hm (by decide) rfl (b := gh 77 0) r_10a k45 dX7_find_15 ?_
  refine z_iconst F dX7_find_18 ?_
  have cut_31_12 : ∀ (t1 : Int) (H : Heap) (locs : List Loc) (ls : Array Slot), zr t1 → (t1 = if 1 < (tI T (40 * rr + 1)) then b1 else 0) → gH g I R J AI_11 AJ AR H → va_S (gA g) s.heap H locs → lv_has ls 9 [(7, .int (iI v_8)), (0, .ref mo), (1, .int (iI sd)), (2, .int (iI rr)), (3, .int (iI a1)), (4, .int (iI b1)), (5, .int (iI c1)), (6, .int (iI d1))] → W p l e rmX7_findf s m ([.ref mo, .int (iI sd), .int (iI rr), .int (iI a1), .int (iI b1), .int (iI c1), .int (iI d1)] : List Value).toArray below meth c H locs 0 0 (MQ below (gQi g (fun (z : Int) (w : gS) => I = w.1 ∧ R = w.2.1 ∧ J = w.2.2.1 ∧ AJ = w.2.2.2.2.1 ∧ AR = w.2.2.2.2.2 ∧ (mInv g gh R I (w.2.2.2.1)) ∧ ((w.2.2.2.1) (gh 50 0) = T) ∧ (-1 ≤ z ∧ z ≤ 119) ∧ (∀ b, b ≠ gh 77 0 → (w.2.2.2.1) b = AI b) ∧ (fdM bxa na (kyT (tI T (40 * rr + 1)) a1 b1 c1 d1) z))) ([.ref mo, .int (iI sd), .int (iI rr), .int (iI a1), .int (iI b1), .int (iI c1), .int (iI d1)] : List Value).toArray s 0 0 (gA g)) (F0 m 31 ls [.int (iI t1), .int (iI 1), .ref (gh 77 0)]) := by
    intro t1 H locs ls zt1 ht1 hH hS hl
    have hx31 : 0 ≤ (1 : Int) ∧ (1 : Int) < ((4 : Nat) : Int) ∧ (1 : Int) ≤ 2147483647 := ⟨by omega, by omega, by omega⟩
    refine g_iast F hH hS r_10b hx31.1 hx31.2.1 hx31.2.2 dX7_find_31 (fun H locs hH hS => ?_)
    obtain ⟨AI_14, eAI_14⟩ : ∃ qQ, qQ = gup2 AI_11 (gh 77 0) ((1 : Int)).toNat (iI (t1)) := ⟨_, rfl⟩
    rw [← eAI_14] at hH
    have kAI_14 : ∀ b, b ≠ (gh 77 0) → AI_14 b = AI_11 b := fun b hb => by rw [eAI_14]; exact funext fun j => gup2_a _ _ hb
    have hvO := hv
    have t_15 : AI_14 (gh 50 0) = AI_11 (gh 50 0) := mK hv hm (p := (0, 640)) (q := (27, 4)) (by decide) (by decide) (by decide) kAI_14
    have hv : mInv g gh R I AI_14 := mInv_a hv hm (q := (27, 4)) (by decide) (by decide) kAI_14
    have hT : AI_14 (gh 50 0) = T := t_15.trans hT
    have key0 : AI_14 (gh 77 0) 0 = iI a1 := by rw [eAI_14, gup2_k _ _ (by decide)]; exact key0
    have key1 : AI_14 (gh 77 0) 1 = iI t1 := by rw [eAI_14, gup2_e _ _ (by decide)]
    have fW : ∀ b, b ≠ gh 77 0 → AI_14 b = AI b := fun b hb => (kAI_14 b hb).trans (fW b hb)
    refine lv_aload_n F.1 F.2.1 dX7_find_32 rfl (lv_at hl 1 rfl) ?_
    refine g_getR (ci := 7) (k := 27) F hH rfl (by decide) iX7 hm (by decide) rfl (b := gh 77 0) r_10a k45 dX7_find_33 ?_
    refine z_iconst F dX7_find_36 ?_
    have cut_49_15 : ∀ (t2 : Int) (H : Heap) (locs : List Loc) (ls : Array Slot), zr t2 → (t2 = if 2 < (tI T (40 * rr + 1)) then c1 else 0) → gH g I R J AI_14 AJ AR H → va_S (gA g) s.heap H locs → lv_has ls 9 [(7, .int (iI v_8)), (0, .ref mo), (1, .int (iI sd)), (2, .int (iI rr)), (3, .int (iI a1)), (4, .int (iI b1)), (5, .int (iI c1)), (6, .int (iI d1))] → W p l e rmX7_findf s m ([.ref mo, .int (iI sd), .int (iI rr), .int (iI a1), .int (iI b1), .int (iI c1), .int (iI d1)] : List Value).toArray below meth c H locs 0 0 (MQ below (gQi g (fun (z : Int) (w : gS) => I = w.1 ∧ R = w.2.1 ∧ J = w.2.2.1 ∧ AJ = w.2.2.2.2.1 ∧ AR = w.2.2.2.2.2 ∧ (mInv g gh R I (w.2.2.2.1)) ∧ ((w.2.2.2.1) (gh 50 0) = T) ∧ (-1 ≤ z ∧ z ≤ 119) ∧ (∀ b, b ≠ gh 77 0 → (w.2.2.2.1) b = AI b) ∧ (fdM bxa na (kyT (tI T (40 * rr + 1)) a1 b1 c1 d1) z))) ([.ref mo, .int (iI sd), .int (iI rr), .int (iI a1), .int (iI b1), .int (iI c1), .int (iI d1)] : List Value).toArray s 0 0 (gA g)) (F0 m 49 ls [.int (iI t2), .int (iI 2), .ref (gh 77 0)]) := by
      intro t2 H locs ls zt2 ht2 hH hS hl
      have hx49 : 0 ≤ (2 : Int) ∧ (2 : Int) < ((4 : Nat) : Int) ∧ (2 : Int) ≤ 2147483647 := ⟨by omega, by omega, by omega⟩
      refine g_iast F hH hS r_10b hx49.1 hx49.2.1 hx49.2.2 dX7_find_49 (fun H locs hH hS => ?_)
      obtain ⟨AI_17, eAI_17⟩ : ∃ qQ, qQ = gup2 AI_14 (gh 77 0) ((2 : Int)).toNat (iI (t2)) := ⟨_, rfl⟩
      rw [← eAI_17] at hH
      have kAI_17 : ∀ b, b ≠ (gh 77 0) → AI_17 b = AI_14 b := fun b hb => by rw [eAI_17]; exact funext fun j => gup2_a _ _ hb
      have hvO := hv
      have t_18 : AI_17 (gh 50 0) = AI_14 (gh 50 0) := mK hv hm (p := (0, 640)) (q := (27, 4)) (by decide) (by decide) (by decide) kAI_17
      have hv : mInv g gh R I AI_17 := mInv_a hv hm (q := (27, 4)) (by decide) (by decide) kAI_17
      have hT : AI_17 (gh 50 0) = T := t_18.trans hT
      have key0 : AI_17 (gh 77 0) 0 = iI a1 := by rw [eAI_17, gup2_k _ _ (by decide)]; exact key0
      have key1 : AI_17 (gh 77 0) 1 = iI t1 := by rw [eAI_17, gup2_k _ _ (by decide)]; exact key1
      have key2 : AI_17 (gh 77 0) 2 = iI t2 := by rw [eAI_17, gup2_e _ _ (by decide)]
      have fW : ∀ b, b ≠ gh 77 0 → AI_17 b = AI b := fun b hb => (kAI_17 b hb).trans (fW b hb)
      refine lv_aload_n F.1 F.2.1 dX7_find_50 rfl (lv_at hl 1 rfl) ?_
      refine g_getR (ci := 7) (k := 27) F hH rfl (by decide) iX7 hm (by decide) rfl (b := gh 77 0) r_10a k45 dX7_find_51 ?_
      refine z_iconst F dX7_find_54 ?_
      have cut_67_18 : ∀ (t3 : Int) (H : Heap) (locs : List Loc) (ls : Array Slot), zr t3 → (t3 = if 3 < (tI T (40 * rr + 1)) then d1 else 0) → gH g I R J AI_17 AJ AR H → va_S (gA g) s.heap H locs → lv_has ls 9 [(7, .int (iI v_8)), (0, .ref mo), (1, .int (iI sd)), (2, .int (iI rr)), (3, .int (iI a1)), (4, .int (iI b1)), (5, .int (iI c1)), (6, .int (iI d1))] → W p l e rmX7_findf s m ([.ref mo, .int (iI sd), .int (iI rr), .int (iI a1), .int (iI b1), .int (iI c1), .int (iI d1)] : List Value).toArray below meth c H locs 0 0 (MQ below (gQi g (fun (z : Int) (w : gS) => I = w.1 ∧ R = w.2.1 ∧ J = w.2.2.1 ∧ AJ = w.2.2.2.2.1 ∧ AR = w.2.2.2.2.2 ∧ (mInv g gh R I (w.2.2.2.1)) ∧ ((w.2.2.2.1) (gh 50 0) = T) ∧ (-1 ≤ z ∧ z ≤ 119) ∧ (∀ b, b ≠ gh 77 0 → (w.2.2.2.1) b = AI b) ∧ (fdM bxa na (kyT (tI T (40 * rr + 1)) a1 b1 c1 d1) z))) ([.ref mo, .int (iI sd), .int (iI rr), .int (iI a1), .int (iI b1), .int (iI c1), .int (iI d1)] : List Value).toArray s 0 0 (gA g)) (F0 m 67 ls [.int (iI t3), .int (iI 3), .ref (gh 77 0)]) := by
        intro t3 H locs ls zt3 ht3 hH hS hl
        have hx67 : 0 ≤ (3 : Int) ∧ (3 : Int) < ((4 : Nat) : Int) ∧ (3 : Int) ≤ 2147483647 := ⟨by omega, by omega, by omega⟩
        refine g_iast F hH hS r_10b hx67.1 hx67.2.1 hx67.2.2 dX7_find_67 (fun H locs hH hS => ?_)
        obtain ⟨AI_20, eAI_20⟩ : ∃ qQ, qQ = gup2 AI_17 (gh 77 0) ((3 : Int)).toNat (iI (t3)) := ⟨_, rfl⟩
        rw [← eAI_20] at hH
        have kAI_20 : ∀ b, b ≠ (gh 77 0) → AI_20 b = AI_17 b := fun b hb => by rw [eAI_20]; exact funext fun j => gup2_a _ _ hb
        have hvO := hv
        have t_21 : AI_20 (gh 50 0) = AI_17 (gh 50 0) := mK hv hm (p := (0, 640)) (q := (27, 4)) (by decide) (by decide) (by decide) kAI_20
        have hv : mInv g gh R I AI_20 := mInv_a hv hm (q := (27, 4)) (by decide) (by decide) kAI_20
        have hT : AI_20 (gh 50 0) = T := t_21.trans hT
        have key0 : AI_20 (gh 77 0) 0 = iI a1 := by rw [eAI_20, gup2_k _ _ (by decide)]; exact key0
        have key1 : AI_20 (gh 77 0) 1 = iI t1 := by rw [eAI_20, gup2_k _ _ (by decide)]; exact key1
        have key2 : AI_20 (gh 77 0) 2 = iI t2 := by rw [eAI_20, gup2_k _ _ (by decide)]; exact key2
        have key3 : AI_20 (gh 77 0) 3 = iI t3 := by rw [eAI_20, gup2_e _ _ (by decide)]
        have fW : ∀ b, b ≠ gh 77 0 → AI_20 b = AI b := fun b hb => (kAI_20 b hb).trans (fW b hb)
        have hky : ∀ j, j < 4 → AI_20 (gh 77 0) j = tg (kyT (tI T (40 * rr + 1)) a1 b1 c1 d1) j := kyT_of key0 key1 key2 key3 rfl ht1 ht2 ht3
        have h56 : AI_20 (gh 56 0) = AI (gh 56 0) := fW _ (show gh 56 0 ≠ gh 77 0 from mNe hv hm (p := (6, 126720)) (q := (27, 4)) (by decide) (by decide) (by decide))
        have h57 : AI_20 (gh 57 0) = AI (gh 57 0) := fW _ (show gh 57 0 ≠ gh 77 0 from mNe hv hm (p := (7, 176)) (q := (27, 4)) (by decide) (by decide) (by decide))
        refine z_iconst F dX7_find_68 ?_
        refine lv_istore (lv' := [(8, .int (iI 0)), (7, .int (iI v_8)), (0, .ref mo), (1, .int (iI sd)), (2, .int (iI rr)), (3, .int (iI a1)), (4, .int (iI b1)), (5, .int (iI c1)), (6, .int (iI d1))]) F.1 F.2.1 dX7_find_69 hl (by decide) rfl (fun ls hl => ?_)
        have cut_71_21 : ∀ (NN : Nat) (i : Int) (H : Heap) (locs : List Loc) (ls : Array Slot), zr i → (0 ≤ i ∧ i ≤ 120) → (∀ q : Nat, (q : Int) < i → tup bxa q ≠ (kyT (tI T (40 * rr + 1)) a1 b1 c1 d1)) → (i ≤ (na : Int)) → (120 - i) < ((NN : Nat) : Int) → gH g I R J AI_20 AJ AR H → va_S (gA g) s.heap H locs → lv_has ls 9 [(8, .int (iI i)), (7, .int (iI v_8)), (0, .ref mo), (1, .int (iI sd)), (2, .int (iI rr)), (3, .int (iI a1)), (4, .int (iI b1)), (5, .int (iI c1)), (6, .int (iI d1))] → W p l e rmX7_findf s m ([.ref mo, .int (iI sd), .int (iI rr), .int (iI a1), .int (iI b1), .int (iI c1), .int (iI d1)] : List Value).toArray below meth c H locs 0 0 (MQ below (gQi g (fun (z : Int) (w : gS) => I = w.1 ∧ R = w.2.1 ∧ J = w.2.2.1 ∧ AJ = w.2.2.2.2.1 ∧ AR = w.2.2.2.2.2 ∧ (mInv g gh R I (w.2.2.2.1)) ∧ ((w.2.2.2.1) (gh 50 0) = T) ∧ (-1 ≤ z ∧ z ≤ 119) ∧ (∀ b, b ≠ gh 77 0 → (w.2.2.2.1) b = AI b) ∧ (fdM bxa na (kyT (tI T (40 * rr + 1)) a1 b1 c1 d1) z))) ([.ref mo, .int (iI sd), .int (iI rr), .int (iI a1), .int (iI b1), .int (iI c1), .int (iI d1)] : List Value).toArray s 0 0 (gA g)) (F0 m 71 ls []) := by
          intro NN71
          induction NN71 with
          | zero =>
            intro i H locs ls zi hi hno hin hm71 hH hS hl
            exact absurd hm71 (by omega)
          | succ NN71 ih71 =>
            intro i H locs ls zi hi hno hin hm71 hH hS hl
            refine lv_iload F.1 F.2.1 dX7_find_71 (lv_at hl 0 rfl) ?_
            refine lv_aload_n F.1 F.2.1 dX7_find_73 rfl (lv_at hl 2 rfl) ?_
            refine lv_iload_n F.1 F.2.1 dX7_find_74 rfl (lv_at hl 3 rfl) ?_
            refine lv_iload_n F.1 F.2.1 dX7_find_75 rfl (lv_at hl 4 rfl) ?_
            refine g_calli (g_runV (As := [.int (iI sd), .int (iI rr)]) (rest := [.int (iI i)]) (ci := 7) F hl.1 hH hS hz (c_X7_sizeOf l g gh T I R J AI_20 AJ AR mo sd rr zsd zrr hv hm hT (by omega) (by omega)) (cwV 2 F.2.2.2.2.1 (good_up gT_X7_sizeOf) rfl rfl rfl hdX7_sizeOf ⟨Nat.le_of_ble_eq_true rfl, Nat.le_of_ble_eq_true rfl⟩) hm (by decide) rfl rfl rfl (Nat.le_of_ble_eq_true rfl) dX7_find_76 ⟨Nat.zero_le _, Nat.zero_le _⟩) hS (fun v_29 I_23 R_24 J_25 AI_26 AJ_27 AR_28 H locs zv_29 hp_30 hH hS => ?_)
            dsimp only at hp_30
            obtain ⟨rfl, rfl, rfl, rfl, rfl, rfl, q_31, qsz⟩ := hp_30
            have hs76 : v_29 = (na : Int) := by rw [qsz, h57]; exact hna
            refine z_icmp_ge (tgt := 113) F dX7_find_79 (by decide) zi zv_29 (fun c_32 => ?_) (fun c_32 => ?_)
            · refine z_iconst F dX7_find_113 ?_
              exact g_iret F hr hlk hH hS hz ⟨by decide, by decide⟩ ⟨rfl, rfl, rfl, rfl, rfl, hv, hT, by first | omega | rfl | (dsimp only; omega), fW, Or.inr ⟨rfl, fun q hq => hno q (by omega)⟩⟩ dX7_find_114
            · refine lv_aload_n F.1 F.2.1 dX7_find_82 rfl (lv_at hl 2 rfl) ?_
              obtain ⟨r_33a, r_33b⟩ : R mo 6 = some (gh 56 0) ∧ gAr g (gh 56 0) 9 126720 := mR hv hm (q := (6, 126720)) (by decide)
              refine g_getR (ci := 7) (k := 6) F hH rfl (by decide) iX7 hm (by decide) rfl (b := gh 56 0) r_33a k24 dX7_find_83 ?_
              refine lv_iload_n F.1 F.2.1 dX7_find_86 rfl (lv_at hl 3 rfl) ?_
              refine lv_iload_n F.1 F.2.1 dX7_find_87 rfl (lv_at hl 4 rfl) ?_
              refine lv_iload F.1 F.2.1 dX7_find_88 (lv_at hl 0 rfl) ?_
              refine g_calli (g_runS (As := [.int (iI sd), .int (iI rr), .int (iI i)]) (rest := [.ref (gh 56 0)]) F hl.1 hH hS hz (c_X7_spot l g  I R J AI_20 AJ AR sd rr i zsd zrr zi (by omega) (by omega) (by omega)) (va_cwS 3 F.2.2.2.2.1 (good_up gT_X7_spot) rfl rfl rfl hdX7_spot.2 ⟨Nat.le_of_ble_eq_true rfl, Nat.le_of_ble_eq_true rfl⟩) rfl rfl (Nat.le_of_ble_eq_true rfl) dX7_find_90 ⟨Nat.zero_le _, Nat.zero_le _⟩) hS (fun v_40 I_34 R_35 J_36 AI_37 AJ_38 AR_39 H locs zv_40 hp_41 hH hS => ?_)
              dsimp only at hp_41
              obtain ⟨rfl, rfl, rfl, rfl, rfl, rfl, q_42⟩ := hp_41
              refine lv_aload_n F.1 F.2.1 dX7_find_93 rfl (lv_at hl 2 rfl) ?_
              refine g_getR (ci := 7) (k := 27) F hH rfl (by decide) iX7 hm (by decide) rfl (b := gh 77 0) r_10a k45 dX7_find_94 ?_
              refine z_iconst F dX7_find_97 ?_
              refine g_calli (g_runS (As := [.ref (gh 56 0), .int (iI v_40), .ref (gh 77 0), .int (iI 0)]) (rest := []) F hl.1 hH hS hz (c_X7_comparef l g 126720 4 I R J AI_20 AJ AR (gh 56 0) v_40 (gh 77 0) 0 zv_40 ⟨by decide, by decide⟩ r_33b r_10b (by omega) (by omega) (by omega) (by omega)) (va_cwS 4 F.2.2.2.2.1 (good_up gT_X7_compare) rfl rfl rfl hdX7_compare.2 ⟨Nat.le_of_ble_eq_true rfl, Nat.le_of_ble_eq_true rfl⟩) rfl rfl (Nat.le_of_ble_eq_true rfl) dX7_find_98 ⟨Nat.zero_le _, Nat.zero_le _⟩) hS (fun v_49 I_43 R_44 J_45 AI_46 AJ_47 AR_48 H locs zv_49 hp_50 hH hS => ?_)
              dsimp only at hp_50
              obtain ⟨rfl, rfl, rfl, rfl, rfl, rfl, q_51, qc⟩ := hp_50
              have qk : v_49 = tc (tup bxa i.toNat) (kyT (tI T (40 * rr + 1)) a1 b1 c1 d1) := by rw [qc]; exact kc_c (rk_tu (fun k hk => by rw [h56, tg_up k hk, ← hXa _ (by omega)]; congr 1; omega)) (key_tu hky)
              refine z_if_ne (tgt := 107) F dX7_find_101 (by decide) zv_49 (fun c_52 => ?_) (fun c_52 => ?_)
              · refine z_iinc (lv' := [(8, .int (iI (i + 1))), (7, .int (iI v_8)), (0, .ref mo), (1, .int (iI sd)), (2, .int (iI rr)), (3, .int (iI a1)), (4, .int (iI b1)), (5, .int (iI c1)), (6, .int (iI d1))]) F dX7_find_107 hl (k := 0) rfl (by decide) rfl (fun ls hl => ?_)
                refine z_goto (tgt := 71) F dX7_find_110 (by decide) ?_
                exact ih71 (i + 1) H locs ls ⟨by omega, by omega⟩ (by omega) (fun q hq => by by_cases e9 : (q : Int) = i; (· rw [show q = i.toNat by omega]; intro h9; rw [tc_0.mpr h9] at qk; omega); (· exact hno q (by omega))) (by omega) (by omega) hH hS (lv_sub hl [0, 1, 2, 3, 4, 5, 6, 7, 8] rfl)
              · refine lv_iload F.1 F.2.1 dX7_find_104 (lv_at hl 0 rfl) ?_
                exact g_iret F hr hlk hH hS hz zi ⟨rfl, rfl, rfl, rfl, rfl, hv, hT, by first | omega | rfl | (dsimp only; omega), fW, Or.inl ⟨by omega, by omega, tc_0.mp (by rw [← qk]; omega)⟩⟩ dX7_find_106
        exact cut_71_21 (((120 - 0) + 1 : Int).toNat) 0 H locs ls ⟨by decide, by decide⟩ (by omega) (fun q hq => absurd hq (by omega)) (by omega) (by omega) hH hS (lv_sub hl [0, 1, 2, 3, 4, 5, 6, 7, 8] rfl)
      refine lv_iload F.1 F.2.1 dX7_find_55 (lv_at hl 0 rfl) ?_
      refine z_iconst F dX7_find_57 ?_
      refine z_icmp_le (tgt := 66) F dX7_find_58 (by decide) zv_8 ⟨by decide, by decide⟩ (fun c_53 => ?_) (fun c_53 => ?_)
      · refine z_iconst F dX7_find_66 ?_
        exact cut_67_18 0 H locs ls ⟨by decide, by decide⟩ (by first | exact (if_neg (by omega)).symm | exact (if_pos (by omega)).symm) hH hS (lv_sub hl [0, 1, 2, 3, 4, 5, 6, 7] rfl)
      · refine lv_iload F.1 F.2.1 dX7_find_61 (lv_at hl 7 rfl) ?_
        refine z_goto (tgt := 67) F dX7_find_63 (by decide) ?_
        exact cut_67_18 d1 H locs ls zd1 (by first | exact (if_neg (by omega)).symm | exact (if_pos (by omega)).symm) hH hS (lv_sub hl [0, 1, 2, 3, 4, 5, 6, 7] rfl)
    refine lv_iload F.1 F.2.1 dX7_find_37 (lv_at hl 0 rfl) ?_
    refine z_iconst F dX7_find_39 ?_
    refine z_icmp_le (tgt := 48) F dX7_find_40 (by decide) zv_8 ⟨by decide, by decide⟩ (fun c_54 => ?_) (fun c_54 => ?_)
    · refine z_iconst F dX7_find_48 ?_
      exact cut_49_15 0 H locs ls ⟨by decide, by decide⟩ (by first | exact (if_neg (by omega)).symm | exact (if_pos (by omega)).symm) hH hS (lv_sub hl [0, 1, 2, 3, 4, 5, 6, 7] rfl)
    · refine lv_iload F.1 F.2.1 dX7_find_43 (lv_at hl 6 rfl) ?_
      refine z_goto (tgt := 49) F dX7_find_45 (by decide) ?_
      exact cut_49_15 c1 H locs ls zc1 (by first | exact (if_neg (by omega)).symm | exact (if_pos (by omega)).symm) hH hS (lv_sub hl [0, 1, 2, 3, 4, 5, 6, 7] rfl)
  refine lv_iload F.1 F.2.1 dX7_find_19 (lv_at hl 0 rfl) ?_
  refine z_iconst F dX7_find_21 ?_
  refine z_icmp_le (tgt := 30) F dX7_find_22 (by decide) zv_8 ⟨by decide, by decide⟩ (fun c_55 => ?_) (fun c_55 => ?_)
  · refine z_iconst F dX7_find_30 ?_
    exact cut_31_12 0 H locs ls ⟨by decide, by decide⟩ (by first | exact (if_neg (by omega)).symm | exact (if_pos (by omega)).symm) hH hS (lv_sub hl [0, 1, 2, 3, 4, 5, 6, 7] rfl)
  · refine lv_iload F.1 F.2.1 dX7_find_25 (lv_at hl 5 rfl) ?_
    refine z_goto (tgt := 31) F dX7_find_27 (by decide) ?_
    exact cut_31_12 b1 H locs ls zb1 (by first | exact (if_neg (by omega)).symm | exact (if_pos (by omega)).symm) hH hS (lv_sub hl [0, 1, 2, 3, 4, 5, 6, 7] rfl)
end
section
/-! the reference: reckoned afresh -/
def dfI (gh : gGh) (AI AI' : gI) (nr : Nat) : Prop := ∀ q : Nat, q < nr → rfA (rfM gh AI' 10) (rfM gh AI 0) q
theorem bgOK_f {F F' : RF} {cl : Nat → Int} {q : Nat} (h : rfA F F' q) (b : bgOK F' cl q) : bgOK F cl q := by
  obtain ⟨h1, h2⟩ := h
  obtain ⟨b1, b2, b3⟩ := b
  refine ⟨?_, by omega, fun i hi => ?_⟩
  · rw [h1] at h2 ⊢; exact okB_c h2 b1
  · have e := rwS_t (h2 i hi)
    rw [e]; exact b3 i (by omega)
section Dfm
variable {gh : gGh} {AI AI' AI2 : gI} {nr k : Nat} {z : Int} {cc : Nat → LC} {cl : Nat → Int}
theorem df_0 (h : ∀ q : Nat, q < 16 → rfM gh AI' 10 q = rfM gh AI 0 q) (hn : nr ≤ 16) : dfI gh AI AI' nr := fun q hq => by
  unfold rfA; rw [h q (by omega)]; exact ⟨rfl, rwA_r⟩
theorem df_s (h : dfI gh AI AI' nr) (hk : k < nr) (hn : nr ≤ 16) (q : rkM gh 10 (k : Int) AI' AI2) (vw : vwP (cc k) (rfM gh AI' 10) z (rfM gh AI2 10 k).2 (rfM gh AI2 10 k).1) (hv : vwP (cc k) (rfM gh AI 0) 0 (rfM gh AI 0 k).2 (rfM gh AI 0 k).1) (hc : cOK (cc k) k cl) : z = 0 ∧ dfI gh AI AI2 nr := by
  have c1 := hc.1
  have v2 := vwP_c (h ((cc k).1 2).toNat (by omega)) (h ((cc k).1 3).toNat (by omega)) vw
  have u := vwP_u hv v2
  refine ⟨u.1.symm, fun p hp => ?_⟩
  by_cases w : p = k
  · subst w
    have u2 := u.2 rfl
    refine ⟨u2.1.symm, ?_⟩
    rw [← u2.1]; exact rwA_s u2.2
  · unfold rfA
    rw [rk_F q ⟨by omega, by omega, by omega⟩ ⟨by omega, by omega⟩ (Or.inr (by omega))]; exact h p hp
theorem df_g (h : dfI gh AI AI' nr) (hk : k < nr) (b : bgOK (rfM gh AI 0) cl k) : bgOK (rfM gh AI' 10) cl k := bgOK_f (h k hk) b
/-- row i of what is, row j of what was reckoned -/
theorem df_e {f f' : Nat → Int32} {n i j : Nat} (ok : okB f n) (h : rwA f' f n) (hi : i < n) (hj : j < n) : (tup f i = tup f' j ↔ i = j) := by
  rw [rwS_t (h j hj)]
  exact ⟨fun e => srtB_ne ok.1 hi hj e, fun e => by rw [e]⟩
theorem df_4 {f f' : Nat → Int32} {n i : Nat} (h : rwA f' f n) (hi : i < n) : f' (6 * i + 4) = f (6 * i + 4) := h i hi 4 (by omega)
end Dfm
/-- what came to a view -/
noncomputable def ctF (gh : gGh) (AI : gI) (cc : Nat → LC) (r : Nat) : Int := ((bgN (mvF gh AI ((cc r).1 2).toNat) : Nat) : Int) + (if (cc r).1 3 < 0 then 0 else ((bgN (mvF gh AI ((cc r).1 3).toNat) : Nat) : Int))
end
section
/-! the reference: a column's values -/
def cvM (f : Nat → Int32) (c q : Nat) : Int := (f (6 * q + c)).toInt
def leI (f : Nat → Int32) (c : Nat) (i : Nat) (v : Int) : Prop := (∀ q, q < i → v ≤ cvM f c q) ∧ (v = 2147483647 ∨ ∃ q, q < i ∧ v = cvM f c q)
def moI (f : Nat → Int32) (c : Nat) (i : Nat) (v : Int) : Prop := (∀ q, q < i → cvM f c q ≤ v) ∧ (v = -2147483648 ∨ ∃ q, q < i ∧ v = cvM f c q)
def leL (f : Nat → Int32) (c n : Nat) (v : Int) : Prop := (∀ q, q < n → v ≤ cvM f c q) ∧ ∃ q, q < n ∧ v = cvM f c q
def moL (f : Nat → Int32) (c n : Nat) (v : Int) : Prop := (∀ q, q < n → cvM f c q ≤ v) ∧ ∃ q, q < n ∧ v = cvM f c q
noncomputable def unC (f : Nat → Int32) (c : Nat) : Nat → Nat
  | 0 => 0
  | i + 1 => unC f c i + pN1 (∀ q, q < i → cvM f c q ≠ cvM f c i)
section Clm
variable {f : Nat → Int32} {c i n : Nat} {v w is j : Int}
theorem cv_r : -2147483648 ≤ cvM f c i ∧ cvM f c i ≤ 2147483647 := zr_t _
theorem leI_0 : leI f c 0 2147483647 := ⟨fun q h => absurd h (Nat.not_lt_zero q), Or.inl rfl⟩
theorem moI_0 : moI f c 0 (-2147483648) := ⟨fun q h => absurd h (Nat.not_lt_zero q), Or.inl rfl⟩
theorem leI_k (h : leI f c i v) (hw : v ≤ cvM f c i) : leI f c (i + 1) v := by
  refine ⟨fun q hq => ?_, h.2.imp id (fun ⟨q, a, b⟩ => ⟨q, by omega, b⟩)⟩
  by_cases e : q = i
  · rw [e]; exact hw
  · exact h.1 q (by omega)
theorem leI_n (h : leI f c i v) (hw : cvM f c i ≤ v) : leI f c (i + 1) (cvM f c i) := by
  refine ⟨fun q hq => ?_, Or.inr ⟨i, by omega, rfl⟩⟩
  by_cases e : q = i
  · rw [e]; exact Int.le_refl _
  · have := h.1 q (by omega); omega
theorem moI_k (h : moI f c i v) (hw : cvM f c i ≤ v) : moI f c (i + 1) v := by
  refine ⟨fun q hq => ?_, h.2.imp id (fun ⟨q, a, b⟩ => ⟨q, by omega, b⟩)⟩
  by_cases e : q = i
  · rw [e]; exact hw
  · exact h.1 q (by omega)
theorem moI_n (h : moI f c i v) (hw : v ≤ cvM f c i) : moI f c (i + 1) (cvM f c i) := by
  refine ⟨fun q hq => ?_, Or.inr ⟨i, by omega, rfl⟩⟩
  by_cases e : q = i
  · rw [e]; exact Int.le_refl _
  · have := h.1 q (by omega); omega
theorem leI_e (h : leI f c n v) (hn : 0 < n) : leL f c n v := ⟨h.1, by
  rcases h.2 with e | e
  · have a := h.1 0 hn
    have b := cv_r (f := f) (c := c) (i := 0)
    exact ⟨0, hn, by omega⟩
  · exact e⟩
theorem moI_e (h : moI f c n v) (hn : 0 < n) : moL f c n v := ⟨h.1, by
  rcases h.2 with e | e
  · have a := h.1 0 hn
    have b := cv_r (f := f) (c := c) (i := 0)
    exact ⟨0, hn, by omega⟩
  · exact e⟩
/-- so far none ahead is alike -/
def unI (f : Nat → Int32) (c i : Nat) (is j : Int) : Prop := (is = 1 ∧ ∀ q : Nat, (q : Int) < j → cvM f c q ≠ cvM f c i) ∨ (is = 0 ∧ ¬ ∀ q, q < i → cvM f c q ≠ cvM f c i)
theorem unI_0 : unI f c i 1 0 := Or.inl ⟨rfl, fun q h => absurd h (by omega)⟩
theorem unI_y (h : unI f c i is j) (hi : is ≠ 0) (h0 : 0 ≤ j) (e : cvM f c j.toNat ≠ cvM f c i) : unI f c i 1 (j + 1) := by
  rcases h with ⟨_, h⟩ | ⟨h, _⟩
  · exact Or.inl ⟨rfl, fun q hq => by
      by_cases w : (q : Int) = j
      · rw [show q = j.toNat by omega]; exact e
      · exact h q (by omega)⟩
  · exact absurd h hi
theorem unI_n (h0 : 0 ≤ j) (hj : j < (i : Int)) (e : cvM f c j.toNat = cvM f c i) : unI f c i 0 (j + 1) := Or.inr ⟨rfl, fun q => q j.toNat (by omega) e⟩
theorem unI_z (h : unI f c i is j) (hi : is = 0) : unI f c i 0 (j + 1) := by
  rcases h with ⟨h, _⟩ | ⟨_, h⟩
  · omega
  · exact Or.inr ⟨rfl, h⟩
theorem unI_r (h : unI f c i is j) : is = 0 ∨ is = 1 := h.elim (fun a => Or.inr a.1) (fun a => Or.inl a.1)
theorem unI_e (h : unI f c i is j) (hj : (i : Int) ≤ j) : ((unC f c (i + 1) : Nat) : Int) = ((unC f c i : Nat) : Int) + is := by
  rcases h with ⟨e, h⟩ | ⟨e, h⟩
  · rw [unC, pN1_y (fun q hq => h q (by omega)), e]; omega
  · rw [unC, pN1_n h, e]; omega
end Clm
def clM (T : Nat → Int32) (nr : Nat) (n : Nat) (rr cl wh : Int) : Prop := (0 ≤ rr ∧ rr < (nr : Int)) ∧ (0 ≤ cl ∧ cl < tI T (40 * rr + 1)) ∧ (0 ≤ wh ∧ wh ≤ 2) ∧ (wh = 2 ∨ 0 < n)
def clP (f : Nat → Int32) (n : Nat) (cl wh z : Int) : Prop := (wh = 0 ∧ leL f cl.toNat n z) ∨ (wh = 1 ∧ moL f cl.toNat n z) ∨ (wh = 2 ∧ z = ((unC f cl.toNat n : Nat) : Int))
end
