section
def rmX7_ringsf : Room := { frames := 4, cells := 0, slots := 0, locals := 102 }
set_option maxHeartbeats 4000000 in
set_option maxRecDepth 100000 in
/-- a ring -/
theorem c_X7_ringsf (l : Launch) (g : gG) (gh : gGh) (T : Nat → Int32) (lc : LC) (na my : Nat) (bxa bxb : Nat → Int32) (I : gI) (R : gR) (J : gJ) (AI : gI) (AJ : gJ) (AR : gR) (mo : Nat) (sd : Int) (rr : Int) (zsd : zr sd) (zrr : zr rr) (hv : mInv g gh R I AI) (hm : gO g mo 7) (hT : AI (gh 50 0) = T) (hs : 0 ≤ sd ∧ sd ≤ 10) (hr0 : 0 ≤ rr ∧ rr < (I mo 2).toInt) (hk : tI T (40 * rr) = 8) (hw : (I mo 26).toInt = 0) (hgm : rgM T rr lc) (hro : rOK lc) (hna : tI (AI (gh 57 0)) (16 * sd + tI T (40 * rr + 2)) = (na : Int)) (hXa : ∀ q : Nat, q < 720 → AI (gh 56 0) ((11520 * sd + 720 * tI T (40 * rr + 2)).toNat + q) = bxa q) (hnb : tI (AI (gh 57 0)) (16 * sd + tI T (40 * rr + 3)) = (my : Int)) (hXb : ∀ q : Nat, q < 720 → AI (gh 56 0) ((11520 * sd + 720 * tI T (40 * rr + 3)).toNat + q) = bxb q) (h120 : na ≤ 120 ∧ my ≤ 120) (hA : okB bxa na) : gMet l g yX7_rings tsX7_rings rmX7_ringsf [.ref mo, .int (iI sd), .int (iI rr)] (I, R, J, AI, AJ, AR) (gQi g (fun (z : Int) (w : gS) => R = w.2.1 ∧ J = w.2.2.1 ∧ AJ = w.2.2.2.2.1 ∧ AR = w.2.2.2.2.2 ∧ (mInv g gh R (w.1) (w.2.2.2.1)) ∧ ((w.2.2.2.1) (gh 50 0) = T) ∧ (wF mo I (w.1)) ∧ (∀ b, b ≠ gh 75 0 → b ≠ gh 77 0 → b ≠ gh 78 0 → b ≠ gh 79 0 → b ≠ gh 80 0 → (w.2.2.2.1) b = AI b) ∧ (rgP lc bxa na bxb my z ((w.2.2.2.1) (gh 75 0)) ((w.1) mo 26).toInt.toNat ∧ (z = 0 → ∃ R : Nat, rgY lc bxa na bxb my R ((w.2.2.2.1) (gh 75 0)) ((w.1) mo 26).toInt.toNat ∧ (w.2.2.2.1) (gh 79 0) (16 * sd + rr).toNat = iI (R : Int)) ∧ (z = 0 ∨ z = -3 ∨ z = -4) ∧ ∀ j : Nat, j ≠ (16 * sd + rr).toNat → (w.2.2.2.1) (gh 79 0) j = AI (gh 79 0) j))) := by
  refine gStart (cc := cX7_rings) (maxL := 9) (ret := (some (.int))) (by decide) rfl (Nat.le_of_ble_eq_true rfl) ?_
  intro p e s m below meth c ls F hr hlk hH hz hS hl
  have hl : lv_has ls 9 [(0, .ref mo), (1, .int (iI sd)), (2, .int (iI rr))] := hl
  have hS : va_S (gA g) s.heap s.heap [] := hS
  obtain ⟨H, hHe⟩ : ∃ H : Heap, H = s.heap := ⟨_, rfl⟩
  obtain ⟨locs, hlo⟩ : ∃ k : List Loc, k = [] := ⟨_, rfl⟩
  have hH : gH g I R J AI AJ AR H := by rw [hHe]; exact hH
  have hS : va_S (gA g) s.heap H locs := by rw [hHe, hlo]; exact hS
  suffices hw : W p l e rmX7_ringsf s m ([.ref mo, .int (iI sd), .int (iI rr)] : List Value).toArray below meth c H locs 0 0 (MQ below (gQi g (fun (z : Int) (w : gS) => R = w.2.1 ∧ J = w.2.2.1 ∧ AJ = w.2.2.2.2.1 ∧ AR = w.2.2.2.2.2 ∧ (mInv g gh R (w.1) (w.2.2.2.1)) ∧ ((w.2.2.2.1) (gh 50 0) = T) ∧ (wF mo I (w.1)) ∧ (∀ b, b ≠ gh 75 0 → b ≠ gh 77 0 → b ≠ gh 78 0 → b ≠ gh 79 0 → b ≠ gh 80 0 → (w.2.2.2.1) b = AI b) ∧ (rgP lc bxa na bxb my z ((w.2.2.2.1) (gh 75 0)) ((w.1) mo 26).toInt.toNat ∧ (z = 0 → ∃ R : Nat, rgY lc bxa na bxb my R ((w.2.2.2.1) (gh 75 0)) ((w.1) mo 26).toInt.toNat ∧ (w.2.2.2.1) (gh 79 0) (16 * sd + rr).toNat = iI (R : Int)) ∧ (z = 0 ∨ z = -3 ∨ z = -4) ∧ ∀ j : Nat, j ≠ (16 * sd + rr).toNat → (w.2.2.2.1) (gh 79 0) j = AI (gh 79 0) j))) ([.ref mo, .int (iI sd), .int (iI rr)] : List Value).toArray s 0 0 (gA g)) (F0 m 0 ls []) by
    rw [hHe, hlo] at hw; exact hw
  clear hHe hlo
  have wf : wF mo I I := wF_r
  have hb0 := mJ hv hm
  unfold mNum1 at hb0
  have x := mRow hv hm hT (z := rr) (by omega) (by omega)
  have xa := x.1
  have xc := x.2.2.1
  have xb := x.2.1 (by omega)
  have x8 := x.2.2.2.2.2.2.2.2.2 (by omega)
  obtain ⟨x8a, x8b, x8c, x8d, x8e, x8f, x8g, x8h⟩ := x8
  have y := mRow hv hm hT (z := tI T (40 * rr + 2)) (by omega) (by omega)
  have ya := y.1
  have yc := y.2.2.1
  have hgmN := hgm
  obtain ⟨hgm0, hgm1, hgm2, hgm3, hgm4, hgm5⟩ := hgmN
  have r4 := hro.2.2.2.1
  have iX7 : ∀ w ∈ u_ws RX7 TX7 32, w ∈ tsX7_rings := fun w h => List.mem_cons_of_mem _ (inTB7 w h)
  have k24 : Cond.fieldLink RX7 24 (TX7 6).1 (TX7 6).2.1 (TX7 6).2.2.1 ∈ tsX7_rings := List.mem_cons_of_mem _ fl_24
  have k51 : Cond.fieldLink RX7 51 (TX7 29).1 (TX7 29).2.1 (TX7 29).2.2.1 ∈ tsX7_rings := List.mem_cons_of_mem _ fl_51
  have k269 : Cond.fieldLink RX7 269 (TX7 26).1 (TX7 26).2.1 (TX7 26).2.2.1 ∈ tsX7_rings := List.mem_cons_of_mem _ fl_269
  have k42 : Cond.fieldLink RX7 42 (TX7 25).1 (TX7 25).2.1 (TX7 25).2.2.1 ∈ tsX7_rings := List.mem_cons_of_mem _ fl_42
  have k54 : Cond.fieldLink RX7 54 (TX7 30).1 (TX7 30).2.1 (TX7 30).2.2.1 ∈ tsX7_rings := List.mem_cons_of_mem _ fl_54
  refine lv_aload_n F.1 F.2.1 dX7_rings_0 rfl (lv_at hl 0 rfl) ?_
  refine lv_iload_n F.1 F.2.1 dX7_rings_1 rfl (lv_at hl 2 rfl) ?_
  have b_1 := mJ hv hm
  unfold mNum1 at b_1
  refine g_calli (g_runV (As := [.int (iI rr)]) (rest := []) (ci := 7) F hl.1 hH hS hz (c_X7_firstOf l g gh T I R J AI AJ AR mo rr zrr hv hm hT (by omega)) (cwV 1 F.2.2.2.2.1 (good_up gT_X7_firstOf) rfl rfl rfl hdX7_firstOf ⟨Nat.le_of_ble_eq_true rfl, Nat.le_of_ble_eq_true rfl⟩) hm (by decide) rfl rfl rfl (Nat.le_of_ble_eq_true rfl) dX7_rings_2 ⟨Nat.zero_le _, Nat.zero_le _⟩) hS (fun v_8 I_2 R_3 J_4 AI_5 AJ_6 AR_7 H locs zv_8 hp_9 hH hS => ?_)
  dsimp only at hp_9
  obtain ⟨rfl, rfl, rfl, rfl, rfl, rfl, qa⟩ := hp_9
  have hna9 : tI (AI (gh 57 0)) (16 * sd + v_8) = (na : Int) := by rw [qa]; exact hna
  have hXa9 : ∀ q : Nat, q < 720 → AI (gh 56 0) ((11520 * sd + 720 * v_8).toNat + q) = bxa q := by rw [qa]; exact hXa
  refine lv_istore_n (lv' := [(3, .int (iI v_8)), (0, .ref mo), (1, .int (iI sd)), (2, .int (iI rr))]) F.1 F.2.1 dX7_rings_5 rfl hl (by decide) rfl (fun ls hl => ?_)
  refine lv_aload_n F.1 F.2.1 dX7_rings_6 rfl (lv_at hl 1 rfl) ?_
  refine lv_iload_n F.1 F.2.1 dX7_rings_7 rfl (lv_at hl 0 rfl) ?_
  refine g_calli (g_runV (As := [.int (iI v_8)]) (rest := []) (ci := 7) F hl.1 hH hS hz (c_X7_columnsOf l g gh T I R J AI AJ AR mo v_8 zv_8 hv hm hT (by omega)) (cwV 1 F.2.2.2.2.1 (good_up gT_X7_columnsOf) rfl rfl rfl hdX7_columnsOf ⟨Nat.le_of_ble_eq_true rfl, Nat.le_of_ble_eq_true rfl⟩) hm (by decide) rfl rfl rfl (Nat.le_of_ble_eq_true rfl) dX7_rings_8 ⟨Nat.zero_le _, Nat.zero_le _⟩) hS (fun v_16 I_10 R_11 J_12 AI_13 AJ_14 AR_15 H locs zv_16 hp_17 hH hS => ?_)
  dsimp only at hp_17
  obtain ⟨rfl, rfl, rfl, rfl, rfl, rfl, qn⟩ := hp_17
  refine lv_istore (lv' := [(4, .int (iI v_16)), (3, .int (iI v_8)), (0, .ref mo), (1, .int (iI sd)), (2, .int (iI rr))]) F.1 F.2.1 dX7_rings_11 hl (by decide) rfl (fun ls hl => ?_)
  refine z_iconst F dX7_rings_13 ?_
  refine lv_istore (lv' := [(5, .int (iI 0)), (4, .int (iI v_16)), (3, .int (iI v_8)), (0, .ref mo), (1, .int (iI sd)), (2, .int (iI rr))]) F.1 F.2.1 dX7_rings_14 hl (by decide) rfl (fun ls hl => ?_)
  have cut_16_19 : ∀ (NN : Nat) (i : Int) (I_18 : gI) (AI_19 : gI) (H : Heap) (locs : List Loc) (ls : Array Slot), zr i → (mInv g gh R I_18 AI_19) → (AI_19 (gh 50 0) = T) → (wF mo I I_18) → (0 ≤ i ∧ i ≤ 120 ∧ (I_18 mo 26).toInt ≤ i) → (∀ b, b ≠ gh 75 0 → b ≠ gh 77 0 → b ≠ gh 78 0 → b ≠ gh 79 0 → b ≠ gh 80 0 → AI_19 b = AI b) → (AI_19 (gh 79 0) = AI (gh 79 0)) → (isW (AI_19 (gh 75 0)) (I_18 mo 26).toInt.toNat (rQ0 bxa i.toNat) (fun _ => 1) zM) → (i ≤ (na : Int)) → (120 - i) < ((NN : Nat) : Int) → gH g I_18 R J AI_19 AJ AR H → va_S (gA g) s.heap H locs → lv_has ls 9 [(5, .int (iI i)), (4, .int (iI v_16)), (3, .int (iI v_8)), (0, .ref mo), (1, .int (iI sd)), (2, .int (iI rr))] → W p l e rmX7_ringsf s m ([.ref mo, .int (iI sd), .int (iI rr)] : List Value).toArray below meth c H locs 0 0 (MQ below (gQi g (fun (z : Int) (w : gS) => R = w.2.1 ∧ J = w.2.2.1 ∧ AJ = w.2.2.2.2.1 ∧ AR = w.2.2.2.2.2 ∧ (mInv g gh R (w.1) (w.2.2.2.1)) ∧ ((w.2.2.2.1) (gh 50 0) = T) ∧ (wF mo I (w.1)) ∧ (∀ b, b ≠ gh 75 0 → b ≠ gh 77 0 → b ≠ gh 78 0 → b ≠ gh 79 0 → b ≠ gh 80 0 → (w.2.2.2.1) b = AI b) ∧ (rgP lc bxa na bxb my z ((w.2.2.2.1) (gh 75 0)) ((w.1) mo 26).toInt.toNat ∧ (z = 0 → ∃ R : Nat, rgY lc bxa na bxb my R ((w.2.2.2.1) (gh 75 0)) ((w.1) mo 26).toInt.toNat ∧ (w.2.2.2.1) (gh 79 0) (16 * sd + rr).toNat = iI (R : Int)) ∧ (z = 0 ∨ z = -3 ∨ z = -4) ∧ ∀ j : Nat, j ≠ (16 * sd + rr).toNat → (w.2.2.2.1) (gh 79 0) j = AI (gh 79 0) j))) ([.ref mo, .int (iI sd), .int (iI rr)] : List Value).toArray s 0 0 (gA g)) (F0 m 16 ls []) := by
    intro NN16
    induction NN16 with
    | zero =>
      intro i I_18 AI_19 H locs ls zi hv hT wf hi fW hr79 hq0 hin hm16 hH hS hl
      exact absurd hm16 (by omega)
    | succ NN16 ih16 =>
      intro i I_18 AI_19 H locs ls zi hv hT wf hi fW hr79 hq0 hin hm16 hH hS hl
      have uc_2 : (I_18 mo 2).toInt = (I mo 2).toInt := by rw [wf 2 (by decide)]
      have uc_5 : (I_18 mo 5).toInt = (I mo 5).toInt := by rw [wf 5 (by decide)]
      have uc_14 : (I_18 mo 14).toInt = (I mo 14).toInt := by rw [wf 14 (by decide)]
      have uc_16 : (I_18 mo 16).toInt = (I mo 16).toInt := by rw [wf 16 (by decide)]
      have uc_24 : (I_18 mo 24).toInt = (I mo 24).toInt := by rw [wf 24 (by decide)]
      have h56 : AI_19 (gh 56 0) = AI (gh 56 0) := fW _ (show gh 56 0 ≠ gh 75 0 from mNe hv hm (p := (6, 126720)) (q := (25, 9600)) (by decide) (by decide) (by decide)) (show gh 56 0 ≠ gh 77 0 from mNe hv hm (p := (6, 126720)) (q := (27, 4)) (by decide) (by decide) (by decide)) (show gh 56 0 ≠ gh 78 0 from mNe hv hm (p := (6, 126720)) (q := (28, 8)) (by decide) (by decide) (by decide)) (show gh 56 0 ≠ gh 79 0 from mNe hv hm (p := (6, 126720)) (q := (29, 176)) (by decide) (by decide) (by decide)) (show gh 56 0 ≠ gh 80 0 from mNe hv hm (p := (6, 126720)) (q := (30, 600)) (by decide) (by decide) (by decide))
      have h57 : AI_19 (gh 57 0) = AI (gh 57 0) := fW _ (show gh 57 0 ≠ gh 75 0 from mNe hv hm (p := (7, 176)) (q := (25, 9600)) (by decide) (by decide) (by decide)) (show gh 57 0 ≠ gh 77 0 from mNe hv hm (p := (7, 176)) (q := (27, 4)) (by decide) (by decide) (by decide)) (show gh 57 0 ≠ gh 78 0 from mNe hv hm (p := (7, 176)) (q := (28, 8)) (by decide) (by decide) (by decide)) (show gh 57 0 ≠ gh 79 0 from mNe hv hm (p := (7, 176)) (q := (29, 176)) (by decide) (by decide) (by decide)) (show gh 57 0 ≠ gh 80 0 from mNe hv hm (p := (7, 176)) (q := (30, 600)) (by decide) (by decide) (by decide))
      refine lv_iload F.1 F.2.1 dX7_rings_16 (lv_at hl 0 rfl) ?_
      refine lv_aload_n F.1 F.2.1 dX7_rings_18 rfl (lv_at hl 3 rfl) ?_
      refine lv_iload_n F.1 F.2.1 dX7_rings_19 rfl (lv_at hl 4 rfl) ?_
      refine lv_iload_n F.1 F.2.1 dX7_rings_20 rfl (lv_at hl 2 rfl) ?_
      have b_21 := mJ hv hm
      unfold mNum1 at b_21
      refine g_calli (g_runV (As := [.int (iI sd), .int (iI v_8)]) (rest := [.int (iI i)]) (ci := 7) F hl.1 hH hS hz (c_X7_sizeOf l g gh T I_18 R J AI_19 AJ AR mo sd v_8 zsd zv_8 hv hm hT (by omega) (by omega)) (cwV 2 F.2.2.2.2.1 (good_up gT_X7_sizeOf) rfl rfl rfl hdX7_sizeOf ⟨Nat.le_of_ble_eq_true rfl, Nat.le_of_ble_eq_true rfl⟩) hm (by decide) rfl rfl rfl (Nat.le_of_ble_eq_true rfl) dX7_rings_21 ⟨Nat.zero_le _, Nat.zero_le _⟩) hS (fun v_28 I_22 R_23 J_24 AI_25 AJ_26 AR_27 H locs zv_28 hp_29 hH hS => ?_)
      dsimp only at hp_29
      obtain ⟨rfl, rfl, rfl, rfl, rfl, rfl, q_30, qz21⟩ := hp_29
      have hsqz21 : v_28 = (na : Int) := by rw [qz21, h57]; exact hna9
      refine z_icmp_ge (tgt := 72) F dX7_rings_24 (by decide) zi zv_28 (fun c_31 => ?_) (fun c_31 => ?_)
      · refine lv_aload_n F.1 F.2.1 dX7_rings_72 rfl (lv_at hl 3 rfl) ?_
        obtain ⟨r_32a, r_32b⟩ : R mo 29 = some (gh 79 0) ∧ gAr g (gh 79 0) 9 176 := mR hv hm (q := (29, 176)) (by decide)
        refine g_getR (ci := 7) (k := 29) F hH rfl (by decide) iX7 hm (by decide) rfl (b := gh 79 0) r_32a k51 dX7_rings_73 ?_
        refine z_bipush F dX7_rings_76 (by decide) ?_
        refine lv_iload_n F.1 F.2.1 dX7_rings_78 rfl (lv_at hl 4 rfl) ?_
        refine z_imul F dX7_rings_79 ?_
        refine lv_iload_n F.1 F.2.1 dX7_rings_80 rfl (lv_at hl 5 rfl) ?_
        refine z_iadd F dX7_rings_81 ?_
        refine z_iconst F dX7_rings_82 ?_
        have hx83 : 0 ≤ ((16 * sd) + rr) ∧ ((16 * sd) + rr) < ((176 : Nat) : Int) ∧ ((16 * sd) + rr) ≤ 2147483647 := ⟨by omega, by omega, by omega⟩
        refine g_iast F hH hS r_32b hx83.1 hx83.2.1 hx83.2.2 dX7_rings_83 (fun H locs hH hS => ?_)
        obtain ⟨AI_33, eAI_33⟩ : ∃ qQ, qQ = gup2 AI_19 (gh 79 0) (((16 * sd) + rr)).toNat (iI (0)) := ⟨_, rfl⟩
        rw [← eAI_33] at hH
        have kAI_33 : ∀ b, b ≠ (gh 79 0) → AI_33 b = AI_19 b := fun b hb => by rw [eAI_33]; exact funext fun j => gup2_a _ _ hb
        have hvO := hv
        have t_34 : AI_33 (gh 50 0) = AI_19 (gh 50 0) := mK hv hm (p := (0, 640)) (q := (29, 176)) (by decide) (by decide) (by decide) kAI_33
        have hv : mInv g gh R I_18 AI_33 := mInv_a hv hm (q := (29, 176)) (by decide) (by decide) kAI_33
        have hT : AI_33 (gh 50 0) = T := t_34.trans hT
        have hrm : AI_33 (gh 79 0) (16 * sd + rr).toNat = iI ((1 - 1 : Int).toNat : Int) ∧ ∀ j : Nat, j ≠ (16 * sd + rr).toNat → AI_33 (gh 79 0) j = AI (gh 79 0) j := ⟨by rw [eAI_33, gup2_e _ _ (by omega)]; rfl, fun j hj => by rw [eAI_33, gup2_k _ _ hj, hr79]⟩
        have hq0 : isW (AI_33 (gh 75 0)) (I_18 mo 26).toInt.toNat (rQ0 bxa i.toNat) (fun _ => 1) zM := by rw [kAI_33 _ (show gh 75 0 ≠ gh 79 0 from mNe hv hm (p := (25, 9600)) (q := (29, 176)) (by decide) (by decide) (by decide))]; exact hq0
        have fW : ∀ b, b ≠ gh 75 0 → b ≠ gh 77 0 → b ≠ gh 78 0 → b ≠ gh 79 0 → b ≠ gh 80 0 → AI_33 b = AI b := fun b h1 h2 h3 h4 h5 => (kAI_33 b h4).trans (fW b h1 h2 h3 h4 h5)
        refine z_iconst F dX7_rings_84 ?_
        refine lv_istore (lv' := [(5, .int (iI 1)), (4, .int (iI v_16)), (3, .int (iI v_8)), (0, .ref mo), (1, .int (iI sd)), (2, .int (iI rr))]) F.1 F.2.1 dX7_rings_85 hl (by decide) rfl (fun ls hl => ?_)
        have cut_87_36 : ∀ (NN : Nat) (rd : Int) (I_35 : gI) (AI_36 : gI) (H : Heap) (locs : List Loc) (ls : Array Slot), zr rd → (mInv g gh R I_35 AI_36) → (AI_36 (gh 50 0) = T) → (wF mo I I_35) → (1 ≤ rd ∧ rd ≤ 41 ∧ (I_35 mo 26).toInt ≤ 120) → (∀ b, b ≠ gh 75 0 → b ≠ gh 77 0 → b ≠ gh 78 0 → b ≠ gh 79 0 → b ≠ gh 80 0 → AI_36 b = AI b) → (AI_36 (gh 79 0) (16 * sd + rr).toNat = iI ((rd - 1).toNat : Int) ∧ ∀ j : Nat, j ≠ (16 * sd + rr).toNat → AI_36 (gh 79 0) j = AI (gh 79 0) j) → (rhM lc bxa na bxb my (AI_36 (gh 75 0)) (I_35 mo 26).toInt.toNat (rd - 1).toNat) → (42 - rd) < ((NN : Nat) : Int) → gH g I_35 R J AI_36 AJ AR H → va_S (gA g) s.heap H locs → lv_has ls 9 [(5, .int (iI rd)), (4, .int (iI v_16)), (3, .int (iI v_8)), (0, .ref mo), (1, .int (iI sd)), (2, .int (iI rr))] → W p l e rmX7_ringsf s m ([.ref mo, .int (iI sd), .int (iI rr)] : List Value).toArray below meth c H locs 0 0 (MQ below (gQi g (fun (z : Int) (w : gS) => R = w.2.1 ∧ J = w.2.2.1 ∧ AJ = w.2.2.2.2.1 ∧ AR = w.2.2.2.2.2 ∧ (mInv g gh R (w.1) (w.2.2.2.1)) ∧ ((w.2.2.2.1) (gh 50 0) = T) ∧ (wF mo I (w.1)) ∧ (∀ b, b ≠ gh 75 0 → b ≠ gh 77 0 → b ≠ gh 78 0 → b ≠ gh 79 0 → b ≠ gh 80 0 → (w.2.2.2.1) b = AI b) ∧ (rgP lc bxa na bxb my z ((w.2.2.2.1) (gh 75 0)) ((w.1) mo 26).toInt.toNat ∧ (z = 0 → ∃ R : Nat, rgY lc bxa na bxb my R ((w.2.2.2.1) (gh 75 0)) ((w.1) mo 26).toInt.toNat ∧ (w.2.2.2.1) (gh 79 0) (16 * sd + rr).toNat = iI (R : Int)) ∧ (z = 0 ∨ z = -3 ∨ z = -4) ∧ ∀ j : Nat, j ≠ (16 * sd + rr).toNat → (w.2.2.2.1) (gh 79 0) j = AI (gh 79 0) j))) ([.ref mo, .int (iI sd), .int (iI rr)] : List Value).toArray s 0 0 (gA g)) (F0 m 87 ls []) := by
          intro NN87
          induction NN87 with
          | zero =>
            intro rd I_35 AI_36 H locs ls zrd hv hT wf hrd fW hrm hrh hm87 hH hS hl
            exact absurd hm87 (by omega)
          | succ NN87 ih87 =>
            intro rd I_35 AI_36 H locs ls zrd hv hT wf hrd fW hrm hrh hm87 hH hS hl
            have uc_2 : (I_35 mo 2).toInt = (I mo 2).toInt := by rw [wf 2 (by decide)]
            have uc_5 : (I_35 mo 5).toInt = (I mo 5).toInt := by rw [wf 5 (by decide)]
            have uc_14 : (I_35 mo 14).toInt = (I mo 14).toInt := by rw [wf 14 (by decide)]
            have uc_16 : (I_35 mo 16).toInt = (I mo 16).toInt := by rw [wf 16 (by decide)]
            have uc_24 : (I_35 mo 24).toInt = (I mo 24).toInt := by rw [wf 24 (by decide)]
            have hb9 := mJ hv hm
            unfold mNum1 at hb9
            obtain ⟨Mk, hd1, hd2, hd3, hd4⟩ := hrh
            obtain ⟨W0, e75⟩ : ∃ f, f = AI_36 (gh 75 0) := ⟨_, rfl⟩
            rw [← e75] at hd1
            have e75 := e75.symm
            refine z_iconst F dX7_rings_87 ?_
            refine lv_istore (lv' := [(6, .int (iI 0)), (5, .int (iI rd)), (4, .int (iI v_16)), (3, .int (iI v_8)), (0, .ref mo), (1, .int (iI sd)), (2, .int (iI rr))]) F.1 F.2.1 dX7_rings_88 hl (by decide) rfl (fun ls hl => ?_)
            refine z_iconst F dX7_rings_90 ?_
            refine lv_istore (lv' := [(7, .int (iI 0)), (6, .int (iI 0)), (5, .int (iI rd)), (4, .int (iI v_16)), (3, .int (iI v_8)), (0, .ref mo), (1, .int (iI sd)), (2, .int (iI rr))]) F.1 F.2.1 dX7_rings_91 hl (by decide) rfl (fun ls hl => ?_)
            have cut_93_38 : ∀ (NN : Nat) (was k : Int) (AI_38 : gI) (H : Heap) (locs : List Loc) (ls : Array Slot), zr was → zr k → (mInv g gh R I_35 AI_38) → (AI_38 (gh 50 0) = T) → (0 ≤ was ∧ was ≤ k ∧ k ≤ (I_35 mo 26).toInt) → (∀ b, b ≠ gh 75 0 → b ≠ gh 77 0 → b ≠ gh 78 0 → b ≠ gh 79 0 → b ≠ gh 80 0 → AI_38 b = AI b) → (AI_38 (gh 75 0) = W0) → (AI_38 (gh 79 0) (16 * sd + rr).toNat = iI ((rd - 1).toNat : Int) ∧ ∀ j : Nat, j ≠ (16 * sd + rr).toNat → AI_38 (gh 79 0) j = AI (gh 79 0) j) → (frW W0 (rd - 1).toNat (AI_38 (gh 80 0)) was.toNat k.toNat) → ((I_35 mo 26).toInt - k) < ((NN : Nat) : Int) → gH g I_35 R J AI_38 AJ AR H → va_S (gA g) s.heap H locs → lv_has ls 9 [(7, .int (iI k)), (6, .int (iI was)), (5, .int (iI rd)), (4, .int (iI v_16)), (3, .int (iI v_8)), (0, .ref mo), (1, .int (iI sd)), (2, .int (iI rr))] → W p l e rmX7_ringsf s m ([.ref mo, .int (iI sd), .int (iI rr)] : List Value).toArray below meth c H locs 0 0 (MQ below (gQi g (fun (z : Int) (w : gS) => R = w.2.1 ∧ J = w.2.2.1 ∧ AJ = w.2.2.2.2.1 ∧ AR = w.2.2.2.2.2 ∧ (mInv g gh R (w.1) (w.2.2.2.1)) ∧ ((w.2.2.2.1) (gh 50 0) = T) ∧ (wF mo I (w.1)) ∧ (∀ b, b ≠ gh 75 0 → b ≠ gh 77 0 → b ≠ gh 78 0 → b ≠ gh 79 0 → b ≠ gh 80 0 → (w.2.2.2.1) b = AI b) ∧ (rgP lc bxa na bxb my z ((w.2.2.2.1) (gh 75 0)) ((w.1) mo 26).toInt.toNat ∧ (z = 0 → ∃ R : Nat, rgY lc bxa na bxb my R ((w.2.2.2.1) (gh 75 0)) ((w.1) mo 26).toInt.toNat ∧ (w.2.2.2.1) (gh 79 0) (16 * sd + rr).toNat = iI (R : Int)) ∧ (z = 0 ∨ z = -3 ∨ z = -4) ∧ ∀ j : Nat, j ≠ (16 * sd + rr).toNat → (w.2.2.2.1) (gh 79 0) j = AI (gh 79 0) j))) ([.ref mo, .int (iI sd), .int (iI rr)] : List Value).toArray s 0 0 (gA g)) (F0 m 93 ls []) := by
              intro NN93
              induction NN93 with
              | zero =>
                intro was k AI_38 H locs ls zwas zk hv hT hk1 fW e75 hrm hfw hm93 hH hS hl
                exact absurd hm93 (by omega)
              | succ NN93 ih93 =>
                intro was k AI_38 H locs ls zwas zk hv hT hk1 fW e75 hrm hfw hm93 hH hS hl
                have h56 : AI_38 (gh 56 0) = AI (gh 56 0) := fW _ (show gh 56 0 ≠ gh 75 0 from mNe hv hm (p := (6, 126720)) (q := (25, 9600)) (by decide) (by decide) (by decide)) (show gh 56 0 ≠ gh 77 0 from mNe hv hm (p := (6, 126720)) (q := (27, 4)) (by decide) (by decide) (by decide)) (show gh 56 0 ≠ gh 78 0 from mNe hv hm (p := (6, 126720)) (q := (28, 8)) (by decide) (by decide) (by decide)) (show gh 56 0 ≠ gh 79 0 from mNe hv hm (p := (6, 126720)) (q := (29, 176)) (by decide) (by decide) (by decide)) (show gh 56 0 ≠ gh 80 0 from mNe hv hm (p := (6, 126720)) (q := (30, 600)) (by decide) (by decide) (by decide))
                have h57 : AI_38 (gh 57 0) = AI (gh 57 0) := fW _ (show gh 57 0 ≠ gh 75 0 from mNe hv hm (p := (7, 176)) (q := (25, 9600)) (by decide) (by decide) (by decide)) (show gh 57 0 ≠ gh 77 0 from mNe hv hm (p := (7, 176)) (q := (27, 4)) (by decide) (by decide) (by decide)) (show gh 57 0 ≠ gh 78 0 from mNe hv hm (p := (7, 176)) (q := (28, 8)) (by decide) (by decide) (by decide)) (show gh 57 0 ≠ gh 79 0 from mNe hv hm (p := (7, 176)) (q := (29, 176)) (by decide) (by decide) (by decide)) (show gh 57 0 ≠ gh 80 0 from mNe hv hm (p := (7, 176)) (q := (30, 600)) (by decide) (by decide) (by decide))
                refine lv_iload F.1 F.2.1 dX7_rings_93 (lv_at hl 0 rfl) ?_
                refine lv_aload_n F.1 F.2.1 dX7_rings_95 rfl (lv_at hl 5 rfl) ?_
                refine g_getI (ci := 7) (k := 26) F hH rfl (by decide) iX7 hm (by decide) rfl k269 dX7_rings_96 ?_
                have b_40 := mJ hv hm
                unfold mNum1 at b_40
                refine z_icmp_ge (tgt := 173) F dX7_rings_99 (by decide) zk (zr_t _) (fun c_41 => ?_) (fun c_41 => ?_)
                · rw [show k.toNat = ((I_35 mo 26).toInt).toNat by omega] at hfw
                  have hfr := frW_e hd1 hd2 (by omega) hfw
                  have hrf : rfI (AI_38 (gh 75 0)) (I_35 mo 26).toInt.toNat (rS lc bxa na bxb my (rd - 1).toNat).2 (rqM lc bxb my (arT (AI_38 (gh 80 0))) 0 0) Mk (iI rd) := by rw [e75]; exact isW_q hd1 (fun s => ⟨fun w => w.elim id (fun w => absurd w rqM_0), Or.inl⟩) (fun _ _ => rfl) (fun s hs => pI_y hs)
                  refine lv_aload_n F.1 F.2.1 dX7_rings_173 rfl (lv_at hl 5 rfl) ?_
                  refine g_getI (ci := 7) (k := 26) F hH rfl (by decide) iX7 hm (by decide) rfl k269 dX7_rings_174 ?_
                  refine lv_istore (lv' := [(7, .int (iI ((I_35 mo 26).toInt))), (6, .int (iI was)), (5, .int (iI rd)), (4, .int (iI v_16)), (3, .int (iI v_8)), (0, .ref mo), (1, .int (iI sd)), (2, .int (iI rr))]) F.1 F.2.1 dX7_rings_177 hl (by decide) rfl (fun ls hl => ?_)
                  refine lv_aload_n F.1 F.2.1 dX7_rings_179 rfl (lv_at hl 5 rfl) ?_
                  refine lv_iload_n F.1 F.2.1 dX7_rings_180 rfl (lv_at hl 6 rfl) ?_
                  refine lv_iload_n F.1 F.2.1 dX7_rings_181 rfl (lv_at hl 7 rfl) ?_
                  refine lv_iload F.1 F.2.1 dX7_rings_182 (lv_at hl 3 rfl) ?_
                  refine lv_iload F.1 F.2.1 dX7_rings_184 (lv_at hl 1 rfl) ?_
                  refine lv_iload F.1 F.2.1 dX7_rings_186 (lv_at hl 2 rfl) ?_
                  refine g_calli (g_runV (As := [.int (iI sd), .int (iI rr), .int (iI v_16), .int (iI was), .int (iI rd)]) (rest := []) (ci := 7) F hl.1 hH hS hz (c_X7_ringsOncef l g gh T lc my bxb ((rS lc bxa na bxb my (rd - 1).toNat).2) Mk (arT (AI_38 (gh 80 0))) I_35 R J AI_38 AJ AR mo sd rr v_16 was rd zsd zrr zv_16 zwas zrd hv hm hT (by omega) (by omega) (by omega) (by rw [qn, qa]) (by omega) (by omega) hgm hro (by rw [h57]; exact hnb) (fun q hq => by rw [h56]; exact hXb q hq) (by omega) (fun i hi => rfl) hrf) (cwV 5 F.2.2.2.2.1 (good_up gT_X7_ringsOnce) rfl rfl rfl hdX7_ringsOnce ⟨Nat.le_of_ble_eq_true rfl, Nat.le_of_ble_eq_true rfl⟩) hm (by decide) rfl rfl rfl (Nat.le_of_ble_eq_true rfl) dX7_rings_188 ⟨Nat.zero_le _, Nat.zero_le _⟩) hS (fun v_48 I_42 R_43 J_44 AI_45 AJ_46 AR_47 H locs zv_48 hp_49 hH hS => ?_)
                  dsimp only at hp_49
                  obtain ⟨rfl, rfl, rfl, rfl, hv, hT, wfq, q_50, fWq, qro⟩ := hp_49
                  have wf := wF_t wf wfq
                  have u_51_2 : (I_42 mo 2).toInt = (I mo 2).toInt := by rw [wf 2 (by decide)]
                  have u_51_5 : (I_42 mo 5).toInt = (I mo 5).toInt := by rw [wf 5 (by decide)]
                  have u_51_14 : (I_42 mo 14).toInt = (I mo 14).toInt := by rw [wf 14 (by decide)]
                  have u_51_16 : (I_42 mo 16).toInt = (I mo 16).toInt := by rw [wf 16 (by decide)]
                  have u_51_24 : (I_42 mo 24).toInt = (I mo 24).toInt := by rw [wf 24 (by decide)]
                  have hrm : AI_45 (gh 79 0) (16 * sd + rr).toNat = iI ((rd - 1).toNat : Int) ∧ ∀ j : Nat, j ≠ (16 * sd + rr).toNat → AI_45 (gh 79 0) j = AI (gh 79 0) j := by rw [fWq _ (show gh 79 0 ≠ gh 75 0 from mNe hv hm (p := (29, 176)) (q := (25, 9600)) (by decide) (by decide) (by decide)) (show gh 79 0 ≠ gh 77 0 from mNe hv hm (p := (29, 176)) (q := (27, 4)) (by decide) (by decide) (by decide)) (show gh 79 0 ≠ gh 78 0 from mNe hv hm (p := (29, 176)) (q := (28, 8)) (by decide) (by decide) (by decide))]; exact hrm
                  have fW : ∀ b, b ≠ gh 75 0 → b ≠ gh 77 0 → b ≠ gh 78 0 → b ≠ gh 79 0 → b ≠ gh 80 0 → AI_45 b = AI b := fun b h1 h2 h3 h4 h5 => (fWq b h1 h2 h3).trans (fW b h1 h2 h3 h4 h5)
                  clear fWq
                  refine lv_istore (lv' := [(8, .int (iI v_48)), (7, .int (iI ((I_35 mo 26).toInt))), (6, .int (iI was)), (5, .int (iI rd)), (4, .int (iI v_16)), (3, .int (iI v_8)), (0, .ref mo), (1, .int (iI sd)), (2, .int (iI rr))]) F.1 F.2.1 dX7_rings_191 hl (by decide) rfl (fun ls hl => ?_)
                  refine lv_iload F.1 F.2.1 dX7_rings_193 (lv_at hl 0 rfl) ?_
                  refine z_if_ge (tgt := 201) F dX7_rings_195 (by decide) zv_48 (fun c_52 => ?_) (fun c_52 => ?_)
                  · have hrf : rfI (AI_45 (gh 75 0)) (I_42 mo 26).toInt.toNat (rS lc bxa na bxb my (rd - 1).toNat).2 (rqM lc bxb my (arT (AI_38 (gh 80 0))) was.toNat 0) Mk (iI (((rd - 1).toNat : Int) + 1)) := by rw [show (((rd - 1).toNat : Nat) : Int) + 1 = rd by omega]; exact (qro.resolve_right (fun h => by rcases h with h | h <;> omega)).2
                    clear qro
                    refine lv_aload_n F.1 F.2.1 dX7_rings_201 rfl (lv_at hl 6 rfl) ?_
                    refine g_getI (ci := 7) (k := 26) F hH rfl (by decide) iX7 hm (by decide) rfl k269 dX7_rings_202 ?_
                    have b_53 := mJ hv hm
                    unfold mNum1 at b_53
                    refine lv_iload F.1 F.2.1 dX7_rings_205 (lv_at hl 1 rfl) ?_
                    refine z_icmp_ne (tgt := 212) F dX7_rings_207 (by decide) (zr_t _) (zr_t _) (fun c_54 => ?_) (fun c_54 => ?_)
                    · refine lv_aload_n F.1 F.2.1 dX7_rings_212 rfl (lv_at hl 6 rfl) ?_
                      refine g_getR (ci := 7) (k := 29) F hH rfl (by decide) iX7 hm (by decide) rfl (b := gh 79 0) r_32a k51 dX7_rings_213 ?_
                      refine z_bipush F dX7_rings_216 (by decide) ?_
                      refine lv_iload_n F.1 F.2.1 dX7_rings_218 rfl (lv_at hl 7 rfl) ?_
                      refine z_imul F dX7_rings_219 ?_
                      refine lv_iload_n F.1 F.2.1 dX7_rings_220 rfl (lv_at hl 8 rfl) ?_
                      refine z_iadd F dX7_rings_221 ?_
                      refine lv_iload F.1 F.2.1 dX7_rings_222 (lv_at hl 3 rfl) ?_
                      have hx224 : 0 ≤ ((16 * sd) + rr) ∧ ((16 * sd) + rr) < ((176 : Nat) : Int) ∧ ((16 * sd) + rr) ≤ 2147483647 := ⟨by omega, by omega, by omega⟩
                      refine g_iast F hH hS r_32b hx224.1 hx224.2.1 hx224.2.2 dX7_rings_224 (fun H locs hH hS => ?_)
                      obtain ⟨AI_55, eAI_55⟩ : ∃ qQ, qQ = gup2 AI_45 (gh 79 0) (((16 * sd) + rr)).toNat (iI (rd)) := ⟨_, rfl⟩
                      rw [← eAI_55] at hH
                      have kAI_55 : ∀ b, b ≠ (gh 79 0) → AI_55 b = AI_45 b := fun b hb => by rw [eAI_55]; exact funext fun j => gup2_a _ _ hb
                      have hvO := hv
                      have t_56 : AI_55 (gh 50 0) = AI_45 (gh 50 0) := mK hv hm (p := (0, 640)) (q := (29, 176)) (by decide) (by decide) (by decide) kAI_55
                      have hv : mInv g gh R I_42 AI_55 := mInv_a hv hm (q := (29, 176)) (by decide) (by decide) kAI_55
                      have hT : AI_55 (gh 50 0) = T := t_56.trans hT
                      have hrm9 : AI_55 (gh 79 0) (16 * sd + rr).toNat = iI ((rd + 1 - 1 : Int).toNat : Int) ∧ ∀ j : Nat, j ≠ (16 * sd + rr).toNat → AI_55 (gh 79 0) j = AI (gh 79 0) j := ⟨by rw [eAI_55, gup2_e _ _ (by omega)]; congr 1; omega, fun j hj => by rw [eAI_55, gup2_k _ _ hj]; exact hrm.2 j hj⟩
                      have hrh9 : rhM lc bxa na bxb my (AI_55 (gh 75 0)) (I_42 mo 26).toInt.toNat (rd + 1 - 1).toNat := by rw [kAI_55 _ (show gh 75 0 ≠ gh 79 0 from mNe hv hm (p := (25, 9600)) (q := (29, 176)) (by decide) (by decide) (by decide)), show (rd + 1 - 1).toNat = (rd - 1).toNat + 1 by omega]; exact rh_next hd1 hd2 hfr hrf (by omega) (by omega)
                      have fW : ∀ b, b ≠ gh 75 0 → b ≠ gh 77 0 → b ≠ gh 78 0 → b ≠ gh 79 0 → b ≠ gh 80 0 → AI_55 b = AI b := fun b h1 h2 h3 h4 h5 => (kAI_55 b h4).trans (fW b h1 h2 h3 h4 h5)
                      refine z_iinc (lv' := [(5, .int (iI (rd + 1))), (8, .int (iI v_48)), (7, .int (iI ((I_35 mo 26).toInt))), (6, .int (iI was)), (4, .int (iI v_16)), (3, .int (iI v_8)), (0, .ref mo), (1, .int (iI sd)), (2, .int (iI rr))]) F dX7_rings_225 hl (k := 3) rfl (by decide) rfl (fun ls hl => ?_)
                      refine z_goto (tgt := 87) F dX7_rings_228 (by decide) ?_
                      exact ih87 (rd + 1) I_42 AI_55 H locs ls ⟨by omega, by omega⟩ hv hT wf (by omega) fW hrm9 hrh9 (by omega) hH hS (lv_sub hl [0, 4, 5, 6, 7, 8] rfl)
                    · refine z_iconst F dX7_rings_210 ?_
                      exact g_iret F hr hlk hH hS hz ⟨by decide, by decide⟩ ⟨rfl, rfl, rfl, rfl, hv, hT, wf, fW, (have h9 := rh_end hd1 hd2 hd4 (by omega) (by omega) hfr hrf (by omega); ⟨Or.inl ⟨rfl, _, h9⟩, fun _ => ⟨_, h9, hrm.1⟩, Or.inl rfl, hrm.2⟩)⟩ dX7_rings_211
                  · refine lv_iload F.1 F.2.1 dX7_rings_198 (lv_at hl 0 rfl) ?_
                    exact g_iret F hr hlk hH hS hz zv_48 ⟨rfl, rfl, rfl, rfl, hv, hT, wf, fW, by
                  rcases qro with h9 | h9 | h9
                  · exact absurd h9.1 (by omega)
                  · refine ⟨Or.inr (Or.inl ⟨h9.1, rh_big hfr (by omega) h9.2.2⟩), fun h8 => absurd h8 (by omega), Or.inr (Or.inl h9.1), hrm.2⟩
                  · refine ⟨Or.inr (Or.inr ⟨h9.1, rh_many hd1 (by omega) hfr (by omega) h9.2.2⟩), fun h8 => absurd h8 (by omega), Or.inr (Or.inr h9.1), hrm.2⟩⟩ dX7_rings_200
                · refine lv_aload_n F.1 F.2.1 dX7_rings_102 rfl (lv_at hl 5 rfl) ?_
                  obtain ⟨r_57a, r_57b⟩ : R mo 25 = some (gh 75 0) ∧ gAr g (gh 75 0) 9 9600 := mR hv hm (q := (25, 9600)) (by decide)
                  refine g_getR (ci := 7) (k := 25) F hH rfl (by decide) iX7 hm (by decide) rfl (b := gh 75 0) r_57a k42 dX7_rings_103 ?_
                  refine z_bipush F dX7_rings_106 (by decide) ?_
                  refine lv_iload F.1 F.2.1 dX7_rings_108 (lv_at hl 0 rfl) ?_
                  refine z_imul F dX7_rings_110 ?_
                  refine z_iconst F dX7_rings_111 ?_
                  refine z_iadd F dX7_rings_112 ?_
                  have hx113 : 0 ≤ ((6 * k) + 5) ∧ ((6 * k) + 5) < ((9600 : Nat) : Int) ∧ ((6 * k) + 5) ≤ 2147483647 := ⟨by omega, by omega, by omega⟩
                  refine g_iald F hH r_57b hx113.1 hx113.2.1 hx113.2.2 dX7_rings_113 ?_
                  refine z_name (fun v_58 ev_58 => ?_)
                  have zv_58 : zr v_58 := by rw [ev_58]; exact zr_t _
                  have c113 : iI v_58 = W0 (6 * k.toNat + 5) := by rw [ev_58, iI_self, e75]; congr 1; omega
                  refine lv_iload F.1 F.2.1 dX7_rings_114 (lv_at hl 2 rfl) ?_
                  refine z_iconst F dX7_rings_116 ?_
                  refine z_isub F dX7_rings_117 ?_
                  refine z_icmp_eq (tgt := 124) F dX7_rings_118 (by decide) zv_58 ⟨by omega, by omega⟩ (fun c_59 => ?_) (fun c_59 => ?_)
                  · obtain ⟨F0_, eF0⟩ : ∃ f, f = AI_38 (gh 80 0) := ⟨_, rfl⟩
                    rw [← eF0] at hfw
                    have hmk : W0 (6 * k.toNat + 5) = iI ((rd - 1).toNat : Int) := by rw [← c113]; congr 1; omega
                    refine z_iconst F dX7_rings_124 ?_
                    refine lv_istore (lv' := [(8, .int (iI 0)), (7, .int (iI k)), (6, .int (iI was)), (5, .int (iI rd)), (4, .int (iI v_16)), (3, .int (iI v_8)), (0, .ref mo), (1, .int (iI sd)), (2, .int (iI rr))]) F.1 F.2.1 dX7_rings_125 hl (by decide) rfl (fun ls hl => ?_)
                    have cut_127_60 : ∀ (NN : Nat) (i : Int) (AI_60 : gI) (H : Heap) (locs : List Loc) (ls : Array Slot), zr i → (mInv g gh R I_35 AI_60) → (AI_60 (gh 50 0) = T) → (0 ≤ i ∧ i ≤ 4) → (∀ b, b ≠ gh 75 0 → b ≠ gh 77 0 → b ≠ gh 78 0 → b ≠ gh 79 0 → b ≠ gh 80 0 → AI_60 b = AI b) → (AI_60 (gh 75 0) = W0) → (AI_60 (gh 79 0) (16 * sd + rr).toNat = iI ((rd - 1).toNat : Int) ∧ ∀ j : Nat, j ≠ (16 * sd + rr).toNat → AI_60 (gh 79 0) j = AI (gh 79 0) j) → ((∀ j : Nat, (j : Int) < 4 * was → AI_60 (gh 80 0) j = F0_ j) ∧ ∀ j : Nat, (j : Int) < i → AI_60 (gh 80 0) (4 * was.toNat + j) = W0 (6 * k.toNat + j)) → (4 - i) < ((NN : Nat) : Int) → gH g I_35 R J AI_60 AJ AR H → va_S (gA g) s.heap H locs → lv_has ls 9 [(8, .int (iI i)), (7, .int (iI k)), (6, .int (iI was)), (5, .int (iI rd)), (4, .int (iI v_16)), (3, .int (iI v_8)), (0, .ref mo), (1, .int (iI sd)), (2, .int (iI rr))] → W p l e rmX7_ringsf s m ([.ref mo, .int (iI sd), .int (iI rr)] : List Value).toArray below meth c H locs 0 0 (MQ below (gQi g (fun (z : Int) (w : gS) => R = w.2.1 ∧ J = w.2.2.1 ∧ AJ = w.2.2.2.2.1 ∧ AR = w.2.2.2.2.2 ∧ (mInv g gh R (w.1) (w.2.2.2.1)) ∧ ((w.2.2.2.1) (gh 50 0) = T) ∧ (wF mo I (w.1)) ∧ (∀ b, b ≠ gh 75 0 → b ≠ gh 77 0 → b ≠ gh 78 0 → b ≠ gh 79 0 → b ≠ gh 80 0 → (w.2.2.2.1) b = AI b) ∧ (rgP lc bxa na bxb my z ((w.2.2.2.1) (gh 75 0)) ((w.1) mo 26).toInt.toNat ∧ (z = 0 → ∃ R : Nat, rgY lc bxa na bxb my R ((w.2.2.2.1) (gh 75 0)) ((w.1) mo 26).toInt.toNat ∧ (w.2.2.2.1) (gh 79 0) (16 * sd + rr).toNat = iI (R : Int)) ∧ (z = 0 ∨ z = -3 ∨ z = -4) ∧ ∀ j : Nat, j ≠ (16 * sd + rr).toNat → (w.2.2.2.1) (gh 79 0) j = AI (gh 79 0) j))) ([.ref mo, .int (iI sd), .int (iI rr)] : List Value).toArray s 0 0 (gA g)) (F0 m 127 ls []) := by
                      intro NN127
                      induction NN127 with
                      | zero =>
                        intro i AI_60 H locs ls zi hv hT hi2 fW e75 hrm hfr8 hm127 hH hS hl
                        exact absurd hm127 (by omega)
                      | succ NN127 ih127 =>
                        intro i AI_60 H locs ls zi hv hT hi2 fW e75 hrm hfr8 hm127 hH hS hl
                        have h56 : AI_60 (gh 56 0) = AI (gh 56 0) := fW _ (show gh 56 0 ≠ gh 75 0 from mNe hv hm (p := (6, 126720)) (q := (25, 9600)) (by decide) (by decide) (by decide)) (show gh 56 0 ≠ gh 77 0 from mNe hv hm (p := (6, 126720)) (q := (27, 4)) (by decide) (by decide) (by decide)) (show gh 56 0 ≠ gh 78 0 from mNe hv hm (p := (6, 126720)) (q := (28, 8)) (by decide) (by decide) (by decide)) (show gh 56 0 ≠ gh 79 0 from mNe hv hm (p := (6, 126720)) (q := (29, 176)) (by decide) (by decide) (by decide)) (show gh 56 0 ≠ gh 80 0 from mNe hv hm (p := (6, 126720)) (q := (30, 600)) (by decide) (by decide) (by decide))
                        have h57 : AI_60 (gh 57 0) = AI (gh 57 0) := fW _ (show gh 57 0 ≠ gh 75 0 from mNe hv hm (p := (7, 176)) (q := (25, 9600)) (by decide) (by decide) (by decide)) (show gh 57 0 ≠ gh 77 0 from mNe hv hm (p := (7, 176)) (q := (27, 4)) (by decide) (by decide) (by decide)) (show gh 57 0 ≠ gh 78 0 from mNe hv hm (p := (7, 176)) (q := (28, 8)) (by decide) (by decide) (by decide)) (show gh 57 0 ≠ gh 79 0 from mNe hv hm (p := (7, 176)) (q := (29, 176)) (by decide) (by decide) (by decide)) (show gh 57 0 ≠ gh 80 0 from mNe hv hm (p := (7, 176)) (q := (30, 600)) (by decide) (by decide) (by decide))
                        refine lv_iload F.1 F.2.1 dX7_rings_127 (lv_at hl 0 rfl) ?_
                        refine z_iconst F dX7_rings_129 ?_
                        refine z_icmp_ge (tgt := 164) F dX7_rings_130 (by decide) zi ⟨by decide, by decide⟩ (fun c_62 => ?_) (fun c_62 => ?_)
                        · have hfw9 := frW_y (F' := AI_60 (gh 80 0)) hfw hmk (fun j hj => hfr8.1 j (by omega)) (fun j hj => hfr8.2 j (by omega))
                          rw [show was.toNat + 1 = (was + 1).toNat by omega, show k.toNat + 1 = (k + 1).toNat by omega] at hfw9
                          refine z_iinc (lv' := [(6, .int (iI (was + 1))), (8, .int (iI i)), (7, .int (iI k)), (5, .int (iI rd)), (4, .int (iI v_16)), (3, .int (iI v_8)), (0, .ref mo), (1, .int (iI sd)), (2, .int (iI rr))]) F dX7_rings_164 hl (k := 2) rfl (by decide) rfl (fun ls hl => ?_)
                          refine z_iinc (lv' := [(7, .int (iI (k + 1))), (6, .int (iI (was + 1))), (8, .int (iI i)), (5, .int (iI rd)), (4, .int (iI v_16)), (3, .int (iI v_8)), (0, .ref mo), (1, .int (iI sd)), (2, .int (iI rr))]) F dX7_rings_167 hl (k := 2) rfl (by decide) rfl (fun ls hl => ?_)
                          refine z_goto (tgt := 93) F dX7_rings_170 (by decide) ?_
                          exact ih93 (was + 1) (k + 1) AI_60 H locs ls ⟨by omega, by omega⟩ ⟨by omega, by omega⟩ hv hT (by omega) fW e75 hrm hfw9 (by omega) hH hS (lv_sub hl [0, 1, 3, 4, 5, 6, 7, 8] rfl)
                        · refine lv_aload_n F.1 F.2.1 dX7_rings_133 rfl (lv_at hl 6 rfl) ?_
                          obtain ⟨r_63a, r_63b⟩ : R mo 30 = some (gh 80 0) ∧ gAr g (gh 80 0) 9 600 := mR hv hm (q := (30, 600)) (by decide)
                          refine g_getR (ci := 7) (k := 30) F hH rfl (by decide) iX7 hm (by decide) rfl (b := gh 80 0) r_63a k54 dX7_rings_134 ?_
                          refine z_iconst F dX7_rings_137 ?_
                          refine lv_iload F.1 F.2.1 dX7_rings_138 (lv_at hl 2 rfl) ?_
                          refine z_imul F dX7_rings_140 ?_
                          refine lv_iload F.1 F.2.1 dX7_rings_141 (lv_at hl 0 rfl) ?_
                          refine z_iadd F dX7_rings_143 ?_
                          refine lv_aload_n F.1 F.2.1 dX7_rings_144 rfl (lv_at hl 6 rfl) ?_
                          refine g_getR (ci := 7) (k := 25) F hH rfl (by decide) iX7 hm (by decide) rfl (b := gh 75 0) r_57a k42 dX7_rings_145 ?_
                          refine z_bipush F dX7_rings_148 (by decide) ?_
                          refine lv_iload F.1 F.2.1 dX7_rings_150 (lv_at hl 1 rfl) ?_
                          refine z_imul F dX7_rings_152 ?_
                          refine lv_iload F.1 F.2.1 dX7_rings_153 (lv_at hl 0 rfl) ?_
                          refine z_iadd F dX7_rings_155 ?_
                          have hx156 : 0 ≤ ((6 * k) + i) ∧ ((6 * k) + i) < ((9600 : Nat) : Int) ∧ ((6 * k) + i) ≤ 2147483647 := ⟨by omega, by omega, by omega⟩
                          refine g_iald F hH r_57b hx156.1 hx156.2.1 hx156.2.2 dX7_rings_156 ?_
                          refine z_name (fun v_64 ev_64 => ?_)
                          have zv_64 : zr v_64 := by rw [ev_64]; exact zr_t _
                          have hx157 : 0 ≤ ((4 * was) + i) ∧ ((4 * was) + i) < ((600 : Nat) : Int) ∧ ((4 * was) + i) ≤ 2147483647 := ⟨by omega, by omega, by omega⟩
                          refine g_iast F hH hS r_63b hx157.1 hx157.2.1 hx157.2.2 dX7_rings_157 (fun H locs hH hS => ?_)
                          obtain ⟨AI_65, eAI_65⟩ : ∃ qQ, qQ = gup2 AI_60 (gh 80 0) (((4 * was) + i)).toNat (iI (v_64)) := ⟨_, rfl⟩
                          rw [← eAI_65] at hH
                          have kAI_65 : ∀ b, b ≠ (gh 80 0) → AI_65 b = AI_60 b := fun b hb => by rw [eAI_65]; exact funext fun j => gup2_a _ _ hb
                          have c156 : iI v_64 = W0 (6 * k.toNat + i.toNat) := by rw [ev_64, iI_self, e75]; congr 1; omega
                          have hvO := hv
                          have t_66 : AI_65 (gh 50 0) = AI_60 (gh 50 0) := mK hv hm (p := (0, 640)) (q := (30, 600)) (by decide) (by decide) (by decide) kAI_65
                          have hv : mInv g gh R I_35 AI_65 := mInv_a hv hm (q := (30, 600)) (by decide) (by decide) kAI_65
                          have hT : AI_65 (gh 50 0) = T := t_66.trans hT
                          have e75 : AI_65 (gh 75 0) = W0 := (kAI_65 _ (show gh 75 0 ≠ gh 80 0 from mNe hv hm (p := (25, 9600)) (q := (30, 600)) (by decide) (by decide) (by decide))).trans e75
                          have hrm : AI_65 (gh 79 0) (16 * sd + rr).toNat = iI ((rd - 1).toNat : Int) ∧ ∀ j : Nat, j ≠ (16 * sd + rr).toNat → AI_65 (gh 79 0) j = AI (gh 79 0) j := by rw [kAI_65 _ (show gh 79 0 ≠ gh 80 0 from mNe hv hm (p := (29, 176)) (q := (30, 600)) (by decide) (by decide) (by decide))]; exact hrm
                          have hfr8 : (∀ j : Nat, (j : Int) < 4 * was → AI_65 (gh 80 0) j = F0_ j) ∧ ∀ j : Nat, (j : Int) < i + 1 → AI_65 (gh 80 0) (4 * was.toNat + j) = W0 (6 * k.toNat + j) := ⟨fun j hj => by rw [eAI_65, gup2_k _ _ (by omega)]; exact hfr8.1 j hj, fun j hj => by
                            by_cases e9 : (j : Int) = i
                            · rw [eAI_65, gup2_e _ _ (by omega), c156, show j = i.toNat by omega]
                            · rw [eAI_65, gup2_k _ _ (by omega)]; exact hfr8.2 j (by omega)⟩
                          have fW : ∀ b, b ≠ gh 75 0 → b ≠ gh 77 0 → b ≠ gh 78 0 → b ≠ gh 79 0 → b ≠ gh 80 0 → AI_65 b = AI b := fun b h1 h2 h3 h4 h5 => (kAI_65 b h5).trans (fW b h1 h2 h3 h4 h5)
                          refine z_iinc (lv' := [(8, .int (iI (i + 1))), (7, .int (iI k)), (6, .int (iI was)), (5, .int (iI rd)), (4, .int (iI v_16)), (3, .int (iI v_8)), (0, .ref mo), (1, .int (iI sd)), (2, .int (iI rr))]) F dX7_rings_158 hl (k := 0) rfl (by decide) rfl (fun ls hl => ?_)
                          refine z_goto (tgt := 127) F dX7_rings_161 (by decide) ?_
                          exact ih127 (i + 1) AI_65 H locs ls ⟨by omega, by omega⟩ hv hT (by omega) fW e75 hrm hfr8 (by omega) hH hS (lv_sub hl [0, 1, 2, 3, 4, 5, 6, 7, 8] rfl)
                    exact cut_127_60 (((4 - 0) + 1 : Int).toNat) 0 AI_38 H locs ls ⟨by decide, by decide⟩ hv hT (by omega) fW e75 hrm ⟨fun j _ => by rw [eF0], fun j hj => absurd hj (by omega)⟩ (by omega) hH hS (lv_sub hl [0, 1, 2, 3, 4, 5, 6, 7, 8] rfl)
                  · have hfw9 := frW_n hfw (fun h9 => by rw [← c113] at h9; exact absurd ((iI_eq zv_58 ⟨by omega, by omega⟩).mp h9) (by omega))
                    rw [show k.toNat + 1 = (k + 1).toNat by omega] at hfw9
                    refine z_goto (tgt := 167) F dX7_rings_121 (by decide) ?_
                    refine z_iinc (lv' := [(7, .int (iI (k + 1))), (6, .int (iI was)), (5, .int (iI rd)), (4, .int (iI v_16)), (3, .int (iI v_8)), (0, .ref mo), (1, .int (iI sd)), (2, .int (iI rr))]) F dX7_rings_167 hl (k := 0) rfl (by decide) rfl (fun ls hl => ?_)
                    refine z_goto (tgt := 93) F dX7_rings_170 (by decide) ?_
                    exact ih93 was (k + 1) AI_38 H locs ls zwas ⟨by omega, by omega⟩ hv hT (by omega) fW e75 hrm hfw9 (by omega) hH hS (lv_sub hl [0, 1, 2, 3, 4, 5, 6, 7] rfl)
            exact cut_93_38 ((((I_35 mo 26).toInt - 0) + 1 : Int).toNat) 0 0 AI_36 H locs ls ⟨by decide, by decide⟩ ⟨by decide, by decide⟩ hv hT (by omega) fW e75 hrm frW_0 (by omega) hH hS (lv_sub hl [0, 1, 2, 3, 4, 5, 6, 7] rfl)
        exact cut_87_36 (((42 - 1) + 1 : Int).toNat) 1 I_18 AI_33 H locs ls ⟨by decide, by decide⟩ hv hT wf (by omega) fW hrm (rh_0 (by rw [show i.toNat = na by omega] at hq0; exact hq0) (by omega)) (by omega) hH hS (lv_sub hl [0, 1, 2, 3, 4, 5] rfl)
      · refine lv_aload_n F.1 F.2.1 dX7_rings_27 rfl (lv_at hl 3 rfl) ?_
        obtain ⟨r_67a, r_67b⟩ : R mo 6 = some (gh 56 0) ∧ gAr g (gh 56 0) 9 126720 := mR hv hm (q := (6, 126720)) (by decide)
        refine g_getR (ci := 7) (k := 6) F hH rfl (by decide) iX7 hm (by decide) rfl (b := gh 56 0) r_67a k24 dX7_rings_28 ?_
        refine lv_iload_n F.1 F.2.1 dX7_rings_31 rfl (lv_at hl 4 rfl) ?_
        refine lv_iload_n F.1 F.2.1 dX7_rings_32 rfl (lv_at hl 2 rfl) ?_
        refine lv_iload F.1 F.2.1 dX7_rings_33 (lv_at hl 0 rfl) ?_
        refine g_calli (g_runS (As := [.int (iI sd), .int (iI v_8), .int (iI i)]) (rest := [.ref (gh 56 0)]) F hl.1 hH hS hz (c_X7_spot l g  I_18 R J AI_19 AJ AR sd v_8 i zsd zv_8 zi (by omega) (by omega) (by omega)) (va_cwS 3 F.2.2.2.2.1 (good_up gT_X7_spot) rfl rfl rfl hdX7_spot.2 ⟨Nat.le_of_ble_eq_true rfl, Nat.le_of_ble_eq_true rfl⟩) rfl rfl (Nat.le_of_ble_eq_true rfl) dX7_rings_35 ⟨Nat.zero_le _, Nat.zero_le _⟩) hS (fun v_74 I_68 R_69 J_70 AI_71 AJ_72 AR_73 H locs zv_74 hp_75 hH hS => ?_)
        dsimp only at hp_75
        obtain ⟨rfl, rfl, rfl, rfl, rfl, rfl, q_76⟩ := hp_75
        refine z_iconst F dX7_rings_38 ?_
        refine z_iadd F dX7_rings_39 ?_
        have hx40 : 0 ≤ (v_74 + 4) ∧ (v_74 + 4) < ((126720 : Nat) : Int) ∧ (v_74 + 4) ≤ 2147483647 := ⟨by omega, by omega, by omega⟩
        refine g_iald F hH r_67b hx40.1 hx40.2.1 hx40.2.2 dX7_rings_40 ?_
        refine z_name (fun v_77 ev_77 => ?_)
        have zv_77 : zr v_77 := by rw [ev_77]; exact zr_t _
        have c40 : iI v_77 = bxa (6 * i.toNat + 4) := by rw [ev_77, iI_self, h56, ← hXa9 _ (by omega)]; congr 1; omega
        refine z_if_gt (tgt := 47) F dX7_rings_41 (by decide) zv_77 (fun c_78 => ?_) (fun c_78 => ?_)
        · refine lv_aload_n F.1 F.2.1 dX7_rings_47 rfl (lv_at hl 3 rfl) ?_
          refine lv_iload_n F.1 F.2.1 dX7_rings_48 rfl (lv_at hl 4 rfl) ?_
          refine lv_iload_n F.1 F.2.1 dX7_rings_49 rfl (lv_at hl 2 rfl) ?_
          refine lv_iload F.1 F.2.1 dX7_rings_50 (lv_at hl 0 rfl) ?_
          refine g_calli (g_runS (As := [.int (iI sd), .int (iI v_8), .int (iI i)]) (rest := [.ref mo]) F hl.1 hH hS hz (c_X7_spot l g  I_18 R J AI_19 AJ AR sd v_8 i zsd zv_8 zi (by omega) (by omega) (by omega)) (va_cwS 3 F.2.2.2.2.1 (good_up gT_X7_spot) rfl rfl rfl hdX7_spot.2 ⟨Nat.le_of_ble_eq_true rfl, Nat.le_of_ble_eq_true rfl⟩) rfl rfl (Nat.le_of_ble_eq_true rfl) dX7_rings_52 ⟨Nat.zero_le _, Nat.zero_le _⟩) hS (fun v_85 I_79 R_80 J_81 AI_82 AJ_83 AR_84 H locs zv_85 hp_86 hH hS => ?_)
          dsimp only at hp_86
          obtain ⟨rfl, rfl, rfl, rfl, rfl, rfl, q_87⟩ := hp_86
          refine g_callv (g_runV (As := [.int (iI v_85)]) (rest := []) (ci := 7) F hl.1 hH hS hz (c_X7_takesf l g gh T I_18 R J AI_19 AJ AR mo v_85 zv_85 hv hm hT (by omega)) (cwV 1 F.2.2.2.2.1 (good_up gT_X7_takes) rfl rfl rfl hdX7_takes ⟨Nat.le_of_ble_eq_true rfl, Nat.le_of_ble_eq_true rfl⟩) hm (by decide) rfl rfl rfl (Nat.le_of_ble_eq_true rfl) dX7_rings_55 ⟨Nat.zero_le _, Nat.zero_le _⟩) hS (fun I_88 R_89 J_90 AI_91 AJ_92 AR_93 H locs hp_94 hH hS => ?_)
          dsimp only at hp_94
          obtain ⟨rfl, rfl, rfl, rfl, rfl, hv, hT, fWq, taq⟩ := hp_94
          have htk : ∀ j, j < 4 → AI_91 (gh 77 0) j = tg (tup bxa i.toNat) j := fun j hj => by rw [taq j hj, h56, tg_up j hj, ← hXa9 _ (by omega)]; congr 1; omega
          have hq0 : isW (AI_91 (gh 75 0)) (I_18 mo 26).toInt.toNat (rQ0 bxa i.toNat) (fun _ => 1) zM := by rw [fWq _ (show gh 75 0 ≠ gh 77 0 from mNe hv hm (p := (25, 9600)) (q := (27, 4)) (by decide) (by decide) (by decide))]; exact hq0
          have hr79 := (fWq _ (show gh 79 0 ≠ gh 77 0 from mNe hv hm (p := (29, 176)) (q := (27, 4)) (by decide) (by decide) (by decide))).trans hr79
          have fW : ∀ b, b ≠ gh 75 0 → b ≠ gh 77 0 → b ≠ gh 78 0 → b ≠ gh 79 0 → b ≠ gh 80 0 → AI_91 b = AI b := fun b h1 h2 h3 h4 h5 => (fWq b h2).trans (fW b h1 h2 h3 h4 h5)
          have hpos : 0 < (bxa (6 * i.toNat + 4)).toInt := by rw [← c40, iI_val zv_77]; omega
          refine lv_aload_n F.1 F.2.1 dX7_rings_58 rfl (lv_at hl 3 rfl) ?_
          refine z_iconst F dX7_rings_59 ?_
          refine z_iconst F dX7_rings_60 ?_
          refine g_calli (g_runV (As := [.int (iI 1), .int (iI 0)]) (rest := []) (ci := 7) F hl.1 hH hS hz (c_X7_gathersf l g gh T ((I_18 mo 26).toInt.toNat) (rQ0 bxa i.toNat) (fun _ => 1) zM (tup bxa i.toNat) I_18 R J AI_91 AJ AR mo 1 0 ⟨by decide, by decide⟩ ⟨by decide, by decide⟩ hv hm hT (by omega) hq0 (by omega) htk) (cwV 2 F.2.2.2.2.1 (good_up gT_X7_gathers) rfl rfl rfl hdX7_gathers ⟨Nat.le_of_ble_eq_true rfl, Nat.le_of_ble_eq_true rfl⟩) hm (by decide) rfl rfl rfl (Nat.le_of_ble_eq_true rfl) dX7_rings_61 ⟨Nat.zero_le _, Nat.zero_le _⟩) hS (fun v_101 I_95 R_96 J_97 AI_98 AJ_99 AR_100 H locs zv_101 hp_102 hH hS => ?_)
          dsimp only at hp_102
          obtain ⟨rfl, rfl, rfl, rfl, hv, hT, wfq, q_103, qga, fWq⟩ := hp_102
          have wf := wF_t wf wfq
          have u_104_2 : (I_95 mo 2).toInt = (I mo 2).toInt := by rw [wf 2 (by decide)]
          have u_104_5 : (I_95 mo 5).toInt = (I mo 5).toInt := by rw [wf 5 (by decide)]
          have u_104_14 : (I_95 mo 14).toInt = (I mo 14).toInt := by rw [wf 14 (by decide)]
          have u_104_16 : (I_95 mo 16).toInt = (I mo 16).toInt := by rw [wf 16 (by decide)]
          have u_104_24 : (I_95 mo 24).toInt = (I mo 24).toInt := by rw [wf 24 (by decide)]
          have hq9 := rq_s (rq_no hA (by omega)) hpos rfl qga
          clear qga
          have hr79 := (fWq _ (show gh 79 0 ≠ gh 75 0 from mNe hv hm (p := (29, 176)) (q := (25, 9600)) (by decide) (by decide) (by decide))).trans hr79
          have fW : ∀ b, b ≠ gh 75 0 → b ≠ gh 77 0 → b ≠ gh 78 0 → b ≠ gh 79 0 → b ≠ gh 80 0 → AI_98 b = AI b := fun b h1 h2 h3 h4 h5 => (fWq b h1).trans (fW b h1 h2 h3 h4 h5)
          refine lv_istore (lv' := [(6, .int (iI v_101)), (5, .int (iI i)), (4, .int (iI v_16)), (3, .int (iI v_8)), (0, .ref mo), (1, .int (iI sd)), (2, .int (iI rr))]) F.1 F.2.1 dX7_rings_64 hl (by decide) rfl (fun ls hl => ?_)
          rw [show i.toNat + 1 = (i + 1).toNat by omega] at hq9
          refine z_iinc (lv' := [(5, .int (iI (i + 1))), (6, .int (iI v_101)), (4, .int (iI v_16)), (3, .int (iI v_8)), (0, .ref mo), (1, .int (iI sd)), (2, .int (iI rr))]) F dX7_rings_66 hl (k := 1) rfl (by decide) rfl (fun ls hl => ?_)
          refine z_goto (tgt := 16) F dX7_rings_69 (by decide) ?_
          exact ih16 (i + 1) I_95 AI_98 H locs ls ⟨by omega, by omega⟩ hv hT wf (by omega) fW hr79 hq9 (by omega) (by omega) hH hS (lv_sub hl [0, 2, 3, 4, 5, 6] rfl)
        · refine z_goto (tgt := 66) F dX7_rings_44 (by decide) ?_
          have hq9 := rq_n (by rw [← c40, iI_val zv_77]; omega) hq0
          rw [show i.toNat + 1 = (i + 1).toNat by omega] at hq9
          refine z_iinc (lv' := [(5, .int (iI (i + 1))), (4, .int (iI v_16)), (3, .int (iI v_8)), (0, .ref mo), (1, .int (iI sd)), (2, .int (iI rr))]) F dX7_rings_66 hl (k := 0) rfl (by decide) rfl (fun ls hl => ?_)
          refine z_goto (tgt := 16) F dX7_rings_69 (by decide) ?_
          exact ih16 (i + 1) I_18 AI_19 H locs ls ⟨by omega, by omega⟩ hv hT wf (by omega) fW hr79 hq9 (by omega) (by omega) hH hS (lv_sub hl [0, 1, 2, 3, 4, 5] rfl)
  exact cut_16_19 (((120 - 0) + 1 : Int).toNat) 0 I AI H locs ls ⟨by decide, by decide⟩ hv hT wf (by omega) (fun _ _ _ _ _ _ => rfl) rfl (by rw [show (I mo 26).toInt = 0 by omega]; exact isW_0 (fun t h => Nat.not_lt_zero _ h.choose_spec.1)) (by omega) (by omega) hH hS (lv_sub hl [0, 1, 2, 3, 4, 5] rfl)
end
section
/-! the reference: a side's bags, a view reckoned -/
def rfM (gh : gGh) (AI : gI) (sd : Int) : RF := fun r => ((AI (gh 57 0) (16 * sd + (r : Int)).toNat).toInt.toNat, fun q => if q < 720 then AI (gh 56 0) ((11520 * sd + 720 * (r : Int)).toNat + q) else 0)
def lnM (T : Nat → Int32) (r : Int) (c : LC) : Prop := (tI T (40 * r) = c.1 0 ∧ tI T (40 * r + 1) = c.1 1 ∧ tI T (40 * r + 2) = c.1 2 ∧ tI T (40 * r + 3) = c.1 3) ∧ (c.1 0 = 1 → tsM T r c) ∧ (c.1 0 = 2 → tmM T r 0 c ∧ tI T (40 * r + 4) = c.1 4) ∧ (c.1 0 = 3 → jnM T r c) ∧ (c.1 0 = 7 → gfM T r c) ∧ (c.1 0 = 8 → rgM T r c)
def rkM (gh : gGh) (sd rr : Int) (AI AI' : gI) : Prop :=
  (∀ b, b ≠ gh 56 0 → b ≠ gh 57 0 → b ≠ gh 75 0 → b ≠ gh 77 0 → b ≠ gh 78 0 → b ≠ gh 79 0 → b ≠ gh 80 0 → AI' b = AI b) ∧
  (∀ q : Nat, q < (11520 * sd + 720 * rr).toNat ∨ (11520 * sd + 720 * rr).toNat + 720 ≤ q → AI' (gh 56 0) q = AI (gh 56 0) q) ∧
  (∀ j : Nat, j ≠ (16 * sd + rr).toNat → AI' (gh 57 0) j = AI (gh 57 0) j) ∧ ∀ j : Nat, j ≠ (16 * sd + rr).toNat → AI' (gh 79 0) j = AI (gh 79 0) j
def visP (c : LC) (t : Tup) (a : Int32) : Prop := (c.1 0 = 1 → hldP c t) ∧ (c.1 0 = 6 → 0 < a.toInt)
def sgU (c : LC) : Int := if c.1 0 = 4 then 1 else -1
section Rkm
variable {g : gG} {gh : gGh} {R : gR} {I I2 AI AI' AI1 AI2 : gI} {mo : Nat} {sd rr k z a : Int} {c : LC} {F : RF} {x y f f' : Nat → Int32} {n m R0 k1 k2 : Nat} {t : Tup} {am : Int32}
theorem rfM_s (e : rfM gh AI sd a.toNat = (n, f)) (h0 : 0 ≤ a) (hs : 0 ≤ tI (AI (gh 57 0)) (16 * sd + a)) : tI (AI (gh 57 0)) (16 * sd + a) = (n : Int) ∧ ∀ q : Nat, q < 720 → AI (gh 56 0) ((11520 * sd + 720 * a).toNat + q) = f q := by
  unfold rfM at e
  rw [Int.toNat_of_nonneg h0] at e
  have e1 := congrArg Prod.fst e
  have e2 := congrArg Prod.snd e
  dsimp only at e1 e2
  unfold tI at hs ⊢
  refine ⟨by omega, fun q hq => ?_⟩
  rw [← e2]
  show _ = if q < 720 then _ else _
  rw [if_pos hq]
theorem rfM_1 (h0 : 0 ≤ rr) : (rfM gh AI sd rr.toNat).1 = (AI (gh 57 0) (16 * sd + rr).toNat).toInt.toNat := by
  unfold rfM; rw [Int.toNat_of_nonneg h0]
theorem rfM_2 (h0 : 0 ≤ rr) {q : Nat} (hq : q < 720) : (rfM gh AI sd rr.toNat).2 q = AI (gh 56 0) ((11520 * sd + 720 * rr).toNat + q) := by
  unfold rfM; rw [Int.toNat_of_nonneg h0]
  show (if q < 720 then _ else _) = _
  rw [if_pos hq]
theorem rfM_w (h0 : 0 ≤ rr) {k9 : Nat} (hk : k9 ≤ 120) : rwA (rfM gh AI sd rr.toNat).2 (fun q => AI (gh 56 0) ((11520 * sd + 720 * rr).toNat + q)) k9 := rwA_of (fun j hj => rfM_2 h0 (by omega))
theorem vis_1 (hk : c.1 0 = 1) : visP c t am ↔ hldP c t := ⟨fun h => h.1 hk, fun h => ⟨fun _ => h, fun q => absurd q (by omega)⟩⟩
theorem vA_0 (h : ¬ visP c t am) : vA c t am = 0 := by
  by_cases w : c.1 0 = 1
  · exact vA1_n w (fun q => h ((vis_1 w).mpr q))
  · by_cases v : c.1 0 = 6
    · exact vA6_n v (fun q => h ⟨fun p => absurd p w, fun _ => q⟩)
    · exact absurd ⟨fun p => absurd p w, fun p => absurd p v⟩ h
theorem vA_6 (h : visP c t am) (hk : c.1 0 = 6) : vA c t am = 1 := vA6_y hk (h.2 hk)
theorem vA_y (h : visP c t am) (hk : c.1 0 ≠ 6) : vA c t am = am := by
  by_cases w : c.1 0 = 1
  · exact vA1_y w (h.1 w)
  · exact vA_id w hk
theorem vS_1 (hk : c.1 0 = 1 ∨ c.1 0 = 2 ∨ c.1 0 = 6) (h1 : F (c.1 2).toNat = (n, x)) : vS c F = sR (vK c) (vA c) x n s0T := by
  unfold vS
  rw [if_neg (by omega), if_neg (by omega), if_neg (by omega), if_neg (by omega), h1]
theorem vS_7 (hk : c.1 0 = 7) (h1 : F (c.1 2).toNat = (n, x)) : vS c F = sG c x n := by
  unfold vS
  rw [if_neg (by omega), if_neg (by omega), if_neg (by omega), if_pos hk, h1]
theorem vS_3 (hk : c.1 0 = 3) (h1 : F (c.1 2).toNat = (n, x)) (h2 : F (c.1 3).toNat = (m, y)) : vS c F = sJ c x y m n := by
  unfold vS; rw [if_pos hk, h1, h2]
theorem vM_3 (hk : c.1 0 = 3) (h1 : F (c.1 2).toNat = (n, x)) (h2 : F (c.1 3).toNat = (m, y)) : vMany c F ↔ 1500 < pJ c x y m n := by
  unfold vMany; rw [h1, h2]; exact ⟨fun q => q.2, fun q => ⟨hk, q⟩⟩
theorem vM_n (hk : c.1 0 ≠ 3) : ¬ vMany c F := fun q => hk q.1
theorem vS_45 (hk : c.1 0 = 4 ∨ c.1 0 = 5) (h1 : F (c.1 2).toNat = (n, x)) (h2 : F (c.1 3).toNat = (m, y)) (hA : okB x n) (hB : okB y m) : sR id (fun _ a => iI (sgU c) * a) y m (sR (vK c) (vA c) x n s0T) = vS c F := by
  have eK : vK c = id := funext fun t => vK_id (by omega)
  have eA : vA c = fun _ a => a := funext fun t => funext fun a => vA_id (by omega) (by omega)
  rw [eK, eA, sR_all hB (fun _ => Int32.mul_zero), sR_all hA (fun _ => rfl)]
  rcases hk with hk | hk
  · have e : sgU c = 1 := if_pos hk
    rw [e]; unfold vS
    rw [if_neg (by omega), if_pos hk, h1, h2]
    funext t
    show (s0T t + bS x n t) + iI 1 * bS y m t = bS x n t + iI 1 * bS y m t
    rw [show s0T t = 0 from rfl, Int32.zero_add]
  · have e : sgU c = -1 := if_neg (by omega)
    rw [e]; unfold vS
    rw [if_neg (by omega), if_neg (by omega), if_pos hk, h1, h2]
    funext t
    show (s0T t + bS x n t) + iI (-1) * bS y m t = bS x n t + iI (-1) * bS y m t
    rw [show s0T t = 0 from rfl, Int32.zero_add]
theorem rgP_z (h : rgP c x n y m z f k1) (hz : z ≠ 0) : rgP c x n y m z f' k2 := by
  rcases h with h | h
  · exact absurd h.1 hz
  · exact Or.inr h
theorem lay_v0 (hk8 : c.1 0 ≠ 8) (hm : ¬ vMany c F) (hn : 0 ≤ k) (h : gaR (AI (gh 75 0)) k.toNat (vS c F)) (hl : lyP gh sd rr k AI AI' z) : vwP c F z (fun q => AI' (gh 56 0) ((11520 * sd + 720 * rr).toNat + q)) (AI' (gh 57 0) (16 * sd + rr).toNat).toInt.toNat := by
  unfold vwP; rw [if_neg hk8]
  rcases hl with ⟨a, b, _, d, e⟩ | ⟨a, b, _⟩
  · have w0 := wCnt_0 (f := AI (gh 75 0)) (a := k.toNat)
    rw [d, iI_val ⟨by omega, by omega⟩]
    exact Or.inl ⟨a, hm, gaR_lay h (by rw [Int.toNat_of_nonneg hn]; exact b), by omega⟩
  · exact Or.inr ⟨a, Or.inr (gaR_big h b)⟩
theorem lay_80 (hn : 0 ≤ k) (h : rgY c x n y m R0 (AI (gh 75 0)) k.toNat) (hl : lyP gh sd rr k AI AI' z) : z = 0 ∧ rgY c x n y m R0 (fun q => AI' (gh 56 0) ((11520 * sd + 720 * rr).toNat + q)) (AI' (gh 57 0) (16 * sd + rr).toNat).toInt.toNat := by
  have w0 := wCnt_0 (f := AI (gh 75 0)) (a := k.toNat)
  have wu := wCnt_u (f := AI (gh 75 0)) (a := k.toNat)
  have h120 := h.2.2.2.1
  rcases hl with ⟨a, b, _, d, e⟩ | ⟨a, b, _⟩
  · rw [d, iI_val ⟨by omega, by omega⟩]
    exact ⟨a, rgY_lay h (by rw [Int.toNat_of_nonneg hn]; exact b)⟩
  · omega
theorem lay_v (h0 : 0 ≤ rr) (h1 : tI (AI' (gh 57 0)) (16 * sd + rr) ≤ 120) (hk8 : c.1 0 ≠ 8) (hm : ¬ vMany c F) (hn : 0 ≤ k) (h : gaR (AI (gh 75 0)) k.toNat (vS c F)) (hl : lyP gh sd rr k AI AI' z) : vwP c F z (rfM gh AI' sd rr.toNat).2 (rfM gh AI' sd rr.toNat).1 := by
  rw [rfM_1 h0]; unfold tI at h1
  exact vwP_f (rfM_w h0 (by omega)) (lay_v0 hk8 hm hn h hl)
theorem rgY_f {f2 : Nat → Int32} (e : rwA f2 f k1) (h : rgY c x n y m R0 f k1) : rgY c x n y m R0 f2 k1 := by
  obtain ⟨h1, h2, h3, h4, M, h5, h6⟩ := h
  exact ⟨h1, h2, h3, h4, M, isW_c h5 e, h6⟩
theorem lay_8 (h0 : 0 ≤ rr) (h1 : tI (AI' (gh 57 0)) (16 * sd + rr) ≤ 120) (hn : 0 ≤ k) (h : rgY c x n y m R0 (AI (gh 75 0)) k.toNat) (hl : lyP gh sd rr k AI AI' z) : z = 0 ∧ rgY c x n y m R0 (rfM gh AI' sd rr.toNat).2 (rfM gh AI' sd rr.toNat).1 := by
  have q := lay_80 hn h hl
  rw [rfM_1 h0]; unfold tI at h1
  exact ⟨q.1, rgY_f (rfM_w h0 (by omega)) q.2⟩
theorem rk_F (h : rkM gh sd rr AI AI') {sd' : Int} {r' : Nat} (h0 : 0 ≤ sd ∧ 0 ≤ rr ∧ rr ≤ 15) (h1 : 0 ≤ sd' ∧ r' < 16) (hne : sd' ≠ sd ∨ (r' : Int) ≠ rr) : rfM gh AI' sd' r' = rfM gh AI sd' r' := by
  unfold rfM
  refine Prod.ext ?_ (funext fun q => ?_)
  · show (AI' (gh 57 0) _).toInt.toNat = _
    rw [h.2.2.1 _ (by omega)]
  · show (if q < 720 then _ else _) = if q < 720 then _ else _
    by_cases w : q < 720
    · rw [if_pos w, if_pos w, h.2.1 _ (by omega)]
    · rw [if_neg w, if_neg w]
theorem rk_1 (hv : mInv g gh R I AI) (hm : gO g mo 7) (f : ∀ b, b ≠ gh 75 0 → b ≠ gh 77 0 → b ≠ gh 78 0 → b ≠ gh 79 0 → b ≠ gh 80 0 → AI1 b = AI b) (h79 : ∀ j : Nat, j ≠ (16 * sd + rr).toNat → AI1 (gh 79 0) j = AI (gh 79 0) j) : rkM gh sd rr AI AI1 := by
  refine ⟨fun b _ _ h1 h2 h3 h4 h5 => f b h1 h2 h3 h4 h5, fun q _ => ?_, fun j _ => ?_, h79⟩
  · rw [f (gh 56 0) (mNe hv hm (p := (6, 126720)) (q := (25, 9600)) (by decide) (by decide) (by decide)) (mNe hv hm (p := (6, 126720)) (q := (27, 4)) (by decide) (by decide) (by decide)) (mNe hv hm (p := (6, 126720)) (q := (28, 8)) (by decide) (by decide) (by decide)) (mNe hv hm (p := (6, 126720)) (q := (29, 176)) (by decide) (by decide) (by decide)) (mNe hv hm (p := (6, 126720)) (q := (30, 600)) (by decide) (by decide) (by decide))]
  · rw [f (gh 57 0) (mNe hv hm (p := (7, 176)) (q := (25, 9600)) (by decide) (by decide) (by decide)) (mNe hv hm (p := (7, 176)) (q := (27, 4)) (by decide) (by decide) (by decide)) (mNe hv hm (p := (7, 176)) (q := (28, 8)) (by decide) (by decide) (by decide)) (mNe hv hm (p := (7, 176)) (q := (29, 176)) (by decide) (by decide) (by decide)) (mNe hv hm (p := (7, 176)) (q := (30, 600)) (by decide) (by decide) (by decide))]
theorem rk_2 (hv : mInv g gh R I AI) (hm : gO g mo 7) (h : rkM gh sd rr AI AI1) (hf : ∀ b, b ≠ gh 56 0 → b ≠ gh 57 0 → AI2 b = AI1 b) (hl : lyP gh sd rr k AI1 AI2 z) : rkM gh sd rr AI AI2 := by
  obtain ⟨f1, f2, f3, f4⟩ := h
  refine ⟨fun b h1 h2 h3 h4 h5 h6 h7 => (hf b h1 h2).trans (f1 b h1 h2 h3 h4 h5 h6 h7), fun q hq => ?_, fun j hj => ?_, fun j hj => ?_⟩
  · rcases hl with ⟨_, b, _, _, e⟩ | ⟨_, _, b, _⟩
    · have w0 := wCnt_0 (f := AI1 (gh 75 0)) (a := k.toNat)
      rw [b.2.2 q (by omega)]; exact f2 q hq
    · rw [b]; exact f2 q hq
  · rcases hl with ⟨_, _, b, _⟩ | ⟨_, _, _, b⟩
    · rw [b j hj]; exact f3 j hj
    · rw [b]; exact f3 j hj
  · rw [hf (gh 79 0) (mNe hv hm (p := (29, 176)) (q := (6, 126720)) (by decide) (by decide) (by decide)) (mNe hv hm (p := (29, 176)) (q := (7, 176)) (by decide) (by decide) (by decide))]; exact f4 j hj
end Rkm
end
