def rmX7_joinsf : Room := { frames := 3, cells := 0, slots := 0, locals := 71 }
set_option maxHeartbeats 4000000 in
set_option maxRecDepth 100000 in
/-- a join -/
theorem c_X7_joinsf (l : Launch) (g : gG) (gh : gGh) (T : Nat → Int32) (lc : LC) (na my : Nat) (bxa bxb : Nat → Int32) (I : gI) (R : gR) (J : gJ) (AI : gI) (AJ : gJ) (AR : gR) (mo : Nat) (sd : Int) (rr : Int) (zsd : zr sd) (zrr : zr rr) (hv : mInv g gh R I AI) (hm : gO g mo 7) (hT : AI (gh 50 0) = T) (hs : 0 ≤ sd ∧ sd ≤ 10) (hr0 : 0 ≤ rr ∧ rr < (I mo 2).toInt) (hk : tI T (40 * rr) = 3) (hw : (I mo 26).toInt = 0) (hjm : jnM T rr lc) (hjo : jOK lc) (hna : tI (AI (gh 57 0)) (16 * sd + tI T (40 * rr + 2)) = (na : Int)) (hXa : ∀ q : Nat, q < 720 → AI (gh 56 0) ((11520 * sd + 720 * tI T (40 * rr + 2)).toNat + q) = bxa q) (hnb : tI (AI (gh 57 0)) (16 * sd + tI T (40 * rr + 3)) = (my : Int)) (hXb : ∀ q : Nat, q < 720 → AI (gh 56 0) ((11520 * sd + 720 * tI T (40 * rr + 3)).toNat + q) = bxb q) (zx : zB (lc.1 5) bxa na) (h120 : na ≤ 120 ∧ my ≤ 120) : gMet l g yX7_joins tsX7_joins rmX7_joinsf [.ref mo, .int (iI sd), .int (iI rr)] (I, R, J, AI, AJ, AR) (gQi g (fun (z : Int) (w : gS) => R = w.2.1 ∧ J = w.2.2.1 ∧ AJ = w.2.2.2.2.1 ∧ AR = w.2.2.2.2.2 ∧ (mInv g gh R (w.1) (w.2.2.2.1)) ∧ ((w.2.2.2.1) (gh 50 0) = T) ∧ (wF mo I (w.1)) ∧ (∀ b, b ≠ gh 75 0 → b ≠ gh 77 0 → (w.2.2.2.1) b = AI b) ∧ ((z = 0 ∧ ¬ 1500 < pJ lc bxa bxb my na ∧ gaR ((w.2.2.2.1) (gh 75 0)) ((w.1) mo 26).toInt.toNat (sJ lc bxa bxb my na)) ∨ (z = -3 ∧ 1500 < pJ lc bxa bxb my na)))) := by
  refine gStart (cc := cX7_joins) (maxL := 14) (ret := (some (.int))) (by decide) rfl (Nat.le_of_ble_eq_true rfl) ?_
  intro p e s m below meth c ls F hr hlk hH hz hS hl
  have hl : lv_has ls 14 [(0, .ref mo), (1, .int (iI sd)), (2, .int (iI rr))] := hl
  have hS : va_S (gA g) s.heap s.heap [] := hS
  obtain ⟨H, hHe⟩ : ∃ H : Heap, H = s.heap := ⟨_, rfl⟩
  obtain ⟨locs, hlo⟩ : ∃ k : List Loc, k = [] := ⟨_, rfl⟩
  have hH : gH g I R J AI AJ AR H := by rw [hHe]; exact hH
  have hS : va_S (gA g) s.heap H locs := by rw [hHe, hlo]; exact hS
  suffices hw : W p l e rmX7_joinsf s m ([.ref mo, .int (iI sd), .int (iI rr)] : List Value).toArray below meth c H locs 0 0 (MQ below (gQi g (fun (z : Int) (w : gS) => R = w.2.1 ∧ J = w.2.2.1 ∧ AJ = w.2.2.2.2.1 ∧ AR = w.2.2.2.2.2 ∧ (mInv g gh R (w.1) (w.2.2.2.1)) ∧ ((w.2.2.2.1) (gh 50 0) = T) ∧ (wF mo I (w.1)) ∧ (∀ b, b ≠ gh 75 0 → b ≠ gh 77 0 → (w.2.2.2.1) b = AI b) ∧ ((z = 0 ∧ ¬ 1500 < pJ lc bxa bxb my na ∧ gaR ((w.2.2.2.1) (gh 75 0)) ((w.1) mo 26).toInt.toNat (sJ lc bxa bxb my na)) ∨ (z = -3 ∧ 1500 < pJ lc bxa bxb my na)))) ([.ref mo, .int (iI sd), .int (iI rr)] : List Value).toArray s 0 0 (gA g)) (F0 m 0 ls []) by
    rw [hHe, hlo] at hw; exact hw
  clear hHe hlo
  have wf : wF mo I I := wF_r
  have hb0 := mJ hv hm
  unfold mNum1 at hb0
  have x := mRow hv hm hT (z := rr) (by omega) (by omega)
  have xa := x.1
  have xc := x.2.2.1
  have xb := x.2.1 (by omega)
  have x3 := x.2.2.2.2.2.2.1 (by omega)
  obtain ⟨x3a, x3b, x3c, x3d⟩ := x3
  have y := mRow hv hm hT (z := tI T (40 * rr + 2)) (by omega) (by omega)
  have ya := y.1
  have yc := y.2.2.1
  have v := mRow hv hm hT (z := tI T (40 * rr + 3)) (by omega) (by omega)
  have va := v.1
  have vc := v.2.2.1
  have hjo1 := hjo.1
  have hjo2 := hjo.2.1
  have hjo3 := hjo.2.2.1
  have hjo4 := hjo.2.2.2.1
  have hjo5 := hjo.2.2.2.2.1
  have hjm1 := hjm.1
  have hjm2 := hjm.2.1
  have hjm3 := hjm.2.2.1
  have iX7 : ∀ w ∈ u_ws RX7 TX7 32, w ∈ tsX7_joins := fun w h => List.mem_cons_of_mem _ (inTB7 w h)
  have k7 : Cond.fieldLink RX7 7 (TX7 0).1 (TX7 0).2.1 (TX7 0).2.2.1 ∈ tsX7_joins := List.mem_cons_of_mem _ fl_7
  have k24 : Cond.fieldLink RX7 24 (TX7 6).1 (TX7 6).2.1 (TX7 6).2.2.1 ∈ tsX7_joins := List.mem_cons_of_mem _ fl_24
  have k45 : Cond.fieldLink RX7 45 (TX7 27).1 (TX7 27).2.1 (TX7 27).2.2.1 ∈ tsX7_joins := List.mem_cons_of_mem _ fl_45
  have k269 : Cond.fieldLink RX7 269 (TX7 26).1 (TX7 26).2.1 (TX7 26).2.2.1 ∈ tsX7_joins := List.mem_cons_of_mem _ fl_269
  refine lv_aload_n F.1 F.2.1 dX7_joins_0 rfl (lv_at hl 0 rfl) ?_
  refine lv_iload_n F.1 F.2.1 dX7_joins_1 rfl (lv_at hl 2 rfl) ?_
  have b_1 := mJ hv hm
  unfold mNum1 at b_1
  refine g_calli (g_runV (As := [.int (iI rr)]) (rest := []) (ci := 7) F hl.1 hH hS hz (c_X7_firstOf l g gh T I R J AI AJ AR mo rr zrr hv hm hT (by omega)) (cwV 1 F.2.2.2.2.1 (good_up gT_X7_firstOf) rfl rfl rfl hdX7_firstOf ⟨Nat.le_of_ble_eq_true rfl, Nat.le_of_ble_eq_true rfl⟩) hm (by decide) rfl rfl rfl (Nat.le_of_ble_eq_true rfl) dX7_joins_2 ⟨Nat.zero_le _, Nat.zero_le _⟩) hS (fun v_8 I_2 R_3 J_4 AI_5 AJ_6 AR_7 H locs zv_8 hp_9 hH hS => ?_)
  dsimp only at hp_9
  obtain ⟨rfl, rfl, rfl, rfl, rfl, rfl, qa⟩ := hp_9
  have ya1 : 1 ≤ tI T (40 * v_8 + 1) ∧ tI T (40 * v_8 + 1) ≤ 4 := by rw [qa]; omega
  have hna9 : tI (AI (gh 57 0)) (16 * sd + v_8) = (na : Int) := by rw [qa]; exact hna
  have hXa9 : ∀ q : Nat, q < 720 → AI (gh 56 0) ((11520 * sd + 720 * v_8).toNat + q) = bxa q := by rw [qa]; exact hXa
  have ya5 : tI T (40 * v_8 + 1) = lc.1 5 := by rw [qa]; exact hjm2
  refine lv_istore_n (lv' := [(3, .int (iI v_8)), (0, .ref mo), (1, .int (iI sd)), (2, .int (iI rr))]) F.1 F.2.1 dX7_joins_5 rfl hl (by decide) rfl (fun ls hl => ?_)
  refine lv_aload_n F.1 F.2.1 dX7_joins_6 rfl (lv_at hl 1 rfl) ?_
  refine lv_iload_n F.1 F.2.1 dX7_joins_7 rfl (lv_at hl 3 rfl) ?_
  refine g_calli (g_runV (As := [.int (iI rr)]) (rest := []) (ci := 7) F hl.1 hH hS hz (c_X7_secondOf l g gh T I R J AI AJ AR mo rr zrr hv hm hT (by omega)) (cwV 1 F.2.2.2.2.1 (good_up gT_X7_secondOf) rfl rfl rfl hdX7_secondOf ⟨Nat.le_of_ble_eq_true rfl, Nat.le_of_ble_eq_true rfl⟩) hm (by decide) rfl rfl rfl (Nat.le_of_ble_eq_true rfl) dX7_joins_8 ⟨Nat.zero_le _, Nat.zero_le _⟩) hS (fun v_16 I_10 R_11 J_12 AI_13 AJ_14 AR_15 H locs zv_16 hp_17 hH hS => ?_)
  dsimp only at hp_17
  obtain ⟨rfl, rfl, rfl, rfl, rfl, rfl, qb⟩ := hp_17
  have va1 : 1 ≤ tI T (40 * v_16 + 1) ∧ tI T (40 * v_16 + 1) ≤ 4 := by rw [qb]; omega
  have hnb9 : tI (AI (gh 57 0)) (16 * sd + v_16) = (my : Int) := by rw [qb]; exact hnb
  have hXb9 : ∀ q : Nat, q < 720 → AI (gh 56 0) ((11520 * sd + 720 * v_16).toNat + q) = bxb q := by rw [qb]; exact hXb
  have va6 : tI T (40 * v_16 + 1) = lc.1 6 := by rw [qb]; exact hjm3
  refine lv_istore (lv' := [(4, .int (iI v_16)), (3, .int (iI v_8)), (0, .ref mo), (1, .int (iI sd)), (2, .int (iI rr))]) F.1 F.2.1 dX7_joins_11 hl (by decide) rfl (fun ls hl => ?_)
  refine lv_aload_n F.1 F.2.1 dX7_joins_13 rfl (lv_at hl 2 rfl) ?_
  obtain ⟨r_18a, r_18b⟩ : R mo 0 = some (gh 50 0) ∧ gAr g (gh 50 0) 9 640 := mR hv hm (q := (0, 640)) (by decide)
  refine g_getR (ci := 7) (k := 0) F hH rfl (by decide) iX7 hm (by decide) rfl (b := gh 50 0) r_18a k7 dX7_joins_14 ?_
  refine z_bipush F dX7_joins_17 (by decide) ?_
  refine lv_iload_n F.1 F.2.1 dX7_joins_19 rfl (lv_at hl 4 rfl) ?_
  refine z_imul F dX7_joins_20 ?_
  refine z_iconst F dX7_joins_21 ?_
  refine z_iadd F dX7_joins_22 ?_
  have hx23 : 0 ≤ ((40 * rr) + 5) ∧ ((40 * rr) + 5) < ((640 : Nat) : Int) ∧ ((40 * rr) + 5) ≤ 2147483647 := ⟨by omega, by omega, by omega⟩
  refine g_iald F hH r_18b hx23.1 hx23.2.1 hx23.2.2 dX7_joins_23 ?_
  refine z_name (fun v_19 ev_19 => ?_)
  have zv_19 : zr v_19 := by rw [ev_19]; exact zr_t _
  have hg : v_19 = tI T (40 * rr + 5) := by rw [ev_19, ← hT]; rfl
  refine lv_istore (lv' := [(5, .int (iI v_19)), (4, .int (iI v_16)), (3, .int (iI v_8)), (0, .ref mo), (1, .int (iI sd)), (2, .int (iI rr))]) F.1 F.2.1 dX7_joins_24 hl (by decide) rfl (fun ls hl => ?_)
  have h4 : tI T (40 * v_8 + 1) + mCnt v_19 (tI T (40 * v_16 + 1)).toNat ≤ 4 := by rw [qa, qb, hg]; exact x3d
  refine z_iconst F dX7_joins_26 ?_
  refine lv_istore (lv' := [(6, .int (iI 0)), (5, .int (iI v_19)), (4, .int (iI v_16)), (3, .int (iI v_8)), (0, .ref mo), (1, .int (iI sd)), (2, .int (iI rr))]) F.1 F.2.1 dX7_joins_27 hl (by decide) rfl (fun ls hl => ?_)
  refine z_iconst F dX7_joins_29 ?_
  refine lv_istore (lv' := [(7, .int (iI 0)), (6, .int (iI 0)), (5, .int (iI v_19)), (4, .int (iI v_16)), (3, .int (iI v_8)), (0, .ref mo), (1, .int (iI sd)), (2, .int (iI rr))]) F.1 F.2.1 dX7_joins_30 hl (by decide) rfl (fun ls hl => ?_)
  have cut_32_21 : ∀ (NN : Nat) (ps i : Int) (I_20 : gI) (AI_21 : gI) (H : Heap) (locs : List Loc) (ls : Array Slot), zr ps → zr i → (mInv g gh R I_20 AI_21) → (AI_21 (gh 50 0) = T) → (wF mo I I_20) → (0 ≤ i ∧ i ≤ 120 ∧ 0 ≤ ps ∧ ps ≤ 1500 ∧ (I_20 mo 26).toInt ≤ 1598) → (∀ b, b ≠ gh 75 0 → b ≠ gh 77 0 → AI_21 b = AI b) → (gaR (AI_21 (gh 75 0)) (I_20 mo 26).toInt.toNat (sJ lc bxa bxb my i.toNat)) → (ps = ((pJ lc bxa bxb my i.toNat : Nat) : Int) ∧ i ≤ (na : Int) ∧ (I_20 mo 26).toInt ≤ ps) → (120 - i) < ((NN : Nat) : Int) → gH g I_20 R J AI_21 AJ AR H → va_S (gA g) s.heap H locs → lv_has ls 14 [(7, .int (iI i)), (6, .int (iI ps)), (5, .int (iI v_19)), (4, .int (iI v_16)), (3, .int (iI v_8)), (0, .ref mo), (1, .int (iI sd)), (2, .int (iI rr))] → W p l e rmX7_joinsf s m ([.ref mo, .int (iI sd), .int (iI rr)] : List Value).toArray below meth c H locs 0 0 (MQ below (gQi g (fun (z : Int) (w : gS) => R = w.2.1 ∧ J = w.2.2.1 ∧ AJ = w.2.2.2.2.1 ∧ AR = w.2.2.2.2.2 ∧ (mInv g gh R (w.1) (w.2.2.2.1)) ∧ ((w.2.2.2.1) (gh 50 0) = T) ∧ (wF mo I (w.1)) ∧ (∀ b, b ≠ gh 75 0 → b ≠ gh 77 0 → (w.2.2.2.1) b = AI b) ∧ ((z = 0 ∧ ¬ 1500 < pJ lc bxa bxb my na ∧ gaR ((w.2.2.2.1) (gh 75 0)) ((w.1) mo 26).toInt.toNat (sJ lc bxa bxb my na)) ∨ (z = -3 ∧ 1500 < pJ lc bxa bxb my na)))) ([.ref mo, .int (iI sd), .int (iI rr)] : List Value).toArray s 0 0 (gA g)) (F0 m 32 ls []) := by
    intro NN32
    induction NN32 with
    | zero =>
      intro ps i I_20 AI_21 H locs ls zps zi hv hT wf hi fW hga hpj hm32 hH hS hl
      exact absurd hm32 (by omega)
    | succ NN32 ih32 =>
      intro ps i I_20 AI_21 H locs ls zps zi hv hT wf hi fW hga hpj hm32 hH hS hl
      have uc_2 : (I_20 mo 2).toInt = (I mo 2).toInt := by rw [wf 2 (by decide)]
      have uc_5 : (I_20 mo 5).toInt = (I mo 5).toInt := by rw [wf 5 (by decide)]
      have uc_14 : (I_20 mo 14).toInt = (I mo 14).toInt := by rw [wf 14 (by decide)]
      have uc_16 : (I_20 mo 16).toInt = (I mo 16).toInt := by rw [wf 16 (by decide)]
      have uc_24 : (I_20 mo 24).toInt = (I mo 24).toInt := by rw [wf 24 (by decide)]
      have h56 : AI_21 (gh 56 0) = AI (gh 56 0) := fW _ (show gh 56 0 ≠ gh 75 0 from mNe hv hm (p := (6, 126720)) (q := (25, 9600)) (by decide) (by decide) (by decide)) (show gh 56 0 ≠ gh 77 0 from mNe hv hm (p := (6, 126720)) (q := (27, 4)) (by decide) (by decide) (by decide))
      have h57 : AI_21 (gh 57 0) = AI (gh 57 0) := fW _ (show gh 57 0 ≠ gh 75 0 from mNe hv hm (p := (7, 176)) (q := (25, 9600)) (by decide) (by decide) (by decide)) (show gh 57 0 ≠ gh 77 0 from mNe hv hm (p := (7, 176)) (q := (27, 4)) (by decide) (by decide) (by decide))
      refine lv_iload F.1 F.2.1 dX7_joins_32 (lv_at hl 0 rfl) ?_
      refine lv_aload_n F.1 F.2.1 dX7_joins_34 rfl (lv_at hl 5 rfl) ?_
      refine lv_iload_n F.1 F.2.1 dX7_joins_35 rfl (lv_at hl 6 rfl) ?_
      refine lv_iload_n F.1 F.2.1 dX7_joins_36 rfl (lv_at hl 4 rfl) ?_
      have b_23 := mJ hv hm
      unfold mNum1 at b_23
      refine g_calli (g_runV (As := [.int (iI sd), .int (iI v_8)]) (rest := [.int (iI i)]) (ci := 7) F hl.1 hH hS hz (c_X7_sizeOf l g gh T I_20 R J AI_21 AJ AR mo sd v_8 zsd zv_8 hv hm hT (by omega) (by omega)) (cwV 2 F.2.2.2.2.1 (good_up gT_X7_sizeOf) rfl rfl rfl hdX7_sizeOf ⟨Nat.le_of_ble_eq_true rfl, Nat.le_of_ble_eq_true rfl⟩) hm (by decide) rfl rfl rfl (Nat.le_of_ble_eq_true rfl) dX7_joins_37 ⟨Nat.zero_le _, Nat.zero_le _⟩) hS (fun v_30 I_24 R_25 J_26 AI_27 AJ_28 AR_29 H locs zv_30 hp_31 hH hS => ?_)
      dsimp only at hp_31
      obtain ⟨rfl, rfl, rfl, rfl, rfl, rfl, q_32, qz37⟩ := hp_31
      have hsqz37 : v_30 = (na : Int) := by rw [qz37, h57]; exact hna9
      refine z_icmp_ge (tgt := 291) F dX7_joins_40 (by decide) zi zv_30 (fun c_33 => ?_) (fun c_33 => ?_)
      · refine z_iconst F dX7_joins_291 ?_
        exact g_iret F hr hlk hH hS hz ⟨by decide, by decide⟩ ⟨rfl, rfl, rfl, rfl, hv, hT, wf, fW, Or.inl ⟨rfl, by rw [← show i.toNat = na by omega]; omega, by rw [← show i.toNat = na by omega]; exact hga⟩⟩ dX7_joins_292
      · refine z_iconst F dX7_joins_43 ?_
        refine lv_istore (lv' := [(8, .int (iI 0)), (7, .int (iI i)), (6, .int (iI ps)), (5, .int (iI v_19)), (4, .int (iI v_16)), (3, .int (iI v_8)), (0, .ref mo), (1, .int (iI sd)), (2, .int (iI rr))]) F.1 F.2.1 dX7_joins_44 hl (by decide) rfl (fun ls hl => ?_)
        have cut_46_35 : ∀ (NN : Nat) (ps jj : Int) (I_34 : gI) (AI_35 : gI) (H : Heap) (locs : List Loc) (ls : Array Slot), zr ps → zr jj → (mInv g gh R I_34 AI_35) → (AI_35 (gh 50 0) = T) → (wF mo I I_34) → (0 ≤ jj ∧ jj ≤ 120 ∧ 0 ≤ ps ∧ ps ≤ 1500 ∧ (I_34 mo 26).toInt ≤ 1598) → (∀ b, b ≠ gh 75 0 → b ≠ gh 77 0 → AI_35 b = AI b) → (gaR (AI_35 (gh 75 0)) (I_34 mo 26).toInt.toNat (sJ1 lc (tup bxa i.toNat) (bxa (6 * i.toNat + 4)) bxb jj.toNat (sJ lc bxa bxb my i.toNat))) → (ps = ((pJ lc bxa bxb my i.toNat : Nat) : Int) + ((pC lc (tup bxa i.toNat) bxb jj.toNat : Nat) : Int) ∧ jj ≤ (my : Int) ∧ (I_34 mo 26).toInt ≤ ps) → (120 - jj) < ((NN : Nat) : Int) → gH g I_34 R J AI_35 AJ AR H → va_S (gA g) s.heap H locs → lv_has ls 14 [(8, .int (iI jj)), (7, .int (iI i)), (6, .int (iI ps)), (5, .int (iI v_19)), (4, .int (iI v_16)), (3, .int (iI v_8)), (0, .ref mo), (1, .int (iI sd)), (2, .int (iI rr))] → W p l e rmX7_joinsf s m ([.ref mo, .int (iI sd), .int (iI rr)] : List Value).toArray below meth c H locs 0 0 (MQ below (gQi g (fun (z : Int) (w : gS) => R = w.2.1 ∧ J = w.2.2.1 ∧ AJ = w.2.2.2.2.1 ∧ AR = w.2.2.2.2.2 ∧ (mInv g gh R (w.1) (w.2.2.2.1)) ∧ ((w.2.2.2.1) (gh 50 0) = T) ∧ (wF mo I (w.1)) ∧ (∀ b, b ≠ gh 75 0 → b ≠ gh 77 0 → (w.2.2.2.1) b = AI b) ∧ ((z = 0 ∧ ¬ 1500 < pJ lc bxa bxb my na ∧ gaR ((w.2.2.2.1) (gh 75 0)) ((w.1) mo 26).toInt.toNat (sJ lc bxa bxb my na)) ∨ (z = -3 ∧ 1500 < pJ lc bxa bxb my na)))) ([.ref mo, .int (iI sd), .int (iI rr)] : List Value).toArray s 0 0 (gA g)) (F0 m 46 ls []) := by
          intro NN46
          induction NN46 with
          | zero =>
            intro ps jj I_34 AI_35 H locs ls zps zjj hv hT wf hj fW hga hpj hm46 hH hS hl
            exact absurd hm46 (by omega)
          | succ NN46 ih46 =>
            intro ps jj I_34 AI_35 H locs ls zps zjj hv hT wf hj fW hga hpj hm46 hH hS hl
            have uc_2 : (I_34 mo 2).toInt = (I mo 2).toInt := by rw [wf 2 (by decide)]
            have uc_5 : (I_34 mo 5).toInt = (I mo 5).toInt := by rw [wf 5 (by decide)]
            have uc_14 : (I_34 mo 14).toInt = (I mo 14).toInt := by rw [wf 14 (by decide)]
            have uc_16 : (I_34 mo 16).toInt = (I mo 16).toInt := by rw [wf 16 (by decide)]
            have uc_24 : (I_34 mo 24).toInt = (I mo 24).toInt := by rw [wf 24 (by decide)]
            have h56 : AI_35 (gh 56 0) = AI (gh 56 0) := fW _ (show gh 56 0 ≠ gh 75 0 from mNe hv hm (p := (6, 126720)) (q := (25, 9600)) (by decide) (by decide) (by decide)) (show gh 56 0 ≠ gh 77 0 from mNe hv hm (p := (6, 126720)) (q := (27, 4)) (by decide) (by decide) (by decide))
            have h57 : AI_35 (gh 57 0) = AI (gh 57 0) := fW _ (show gh 57 0 ≠ gh 75 0 from mNe hv hm (p := (7, 176)) (q := (25, 9600)) (by decide) (by decide) (by decide)) (show gh 57 0 ≠ gh 77 0 from mNe hv hm (p := (7, 176)) (q := (27, 4)) (by decide) (by decide) (by decide))
            refine lv_iload F.1 F.2.1 dX7_joins_46 (lv_at hl 0 rfl) ?_
            refine lv_aload_n F.1 F.2.1 dX7_joins_48 rfl (lv_at hl 6 rfl) ?_
            refine lv_iload_n F.1 F.2.1 dX7_joins_49 rfl (lv_at hl 7 rfl) ?_
            refine lv_iload F.1 F.2.1 dX7_joins_50 (lv_at hl 4 rfl) ?_
            have b_37 := mJ hv hm
            unfold mNum1 at b_37
            refine g_calli (g_runV (As := [.int (iI sd), .int (iI v_16)]) (rest := [.int (iI jj)]) (ci := 7) F hl.1 hH hS hz (c_X7_sizeOf l g gh T I_34 R J AI_35 AJ AR mo sd v_16 zsd zv_16 hv hm hT (by omega) (by omega)) (cwV 2 F.2.2.2.2.1 (good_up gT_X7_sizeOf) rfl rfl rfl hdX7_sizeOf ⟨Nat.le_of_ble_eq_true rfl, Nat.le_of_ble_eq_true rfl⟩) hm (by decide) rfl rfl rfl (Nat.le_of_ble_eq_true rfl) dX7_joins_52 ⟨Nat.zero_le _, Nat.zero_le _⟩) hS (fun v_44 I_38 R_39 J_40 AI_41 AJ_42 AR_43 H locs zv_44 hp_45 hH hS => ?_)
            dsimp only at hp_45
            obtain ⟨rfl, rfl, rfl, rfl, rfl, rfl, q_46, qz52⟩ := hp_45
            have hsqz52 : v_44 = (my : Int) := by rw [qz52, h57]; exact hnb9
            refine z_icmp_ge (tgt := 285) F dX7_joins_55 (by decide) zjj zv_44 (fun c_47 => ?_) (fun c_47 => ?_)
            · have hga8 := hga
              have hpj8 := hpj.1
              rw [show jj.toNat = my by omega] at hga8 hpj8
              have hpj9 : ps = ((pJ lc bxa bxb my (i + 1).toNat : Nat) : Int) := by rw [show (i + 1).toNat = i.toNat + 1 by omega, pJ]; omega
              refine z_iinc (lv' := [(7, .int (iI (i + 1))), (8, .int (iI jj)), (6, .int (iI ps)), (5, .int (iI v_19)), (4, .int (iI v_16)), (3, .int (iI v_8)), (0, .ref mo), (1, .int (iI sd)), (2, .int (iI rr))]) F dX7_joins_285 hl (k := 1) rfl (by decide) rfl (fun ls hl => ?_)
              refine z_goto (tgt := 32) F dX7_joins_288 (by decide) ?_
              exact ih32 ps (i + 1) I_34 AI_35 H locs ls zps ⟨by omega, by omega⟩ hv hT wf (by omega) fW (by rw [show (i + 1).toNat = i.toNat + 1 by omega, sJ]; exact hga8) ⟨hpj9, by omega, by omega⟩ (by omega) hH hS (lv_sub hl [0, 2, 3, 4, 5, 6, 7, 8] rfl)
            · refine lv_iload_n F.1 F.2.1 dX7_joins_58 rfl (lv_at hl 7 rfl) ?_
              refine lv_iload_n F.1 F.2.1 dX7_joins_59 rfl (lv_at hl 5 rfl) ?_
              refine lv_iload F.1 F.2.1 dX7_joins_60 (lv_at hl 1 rfl) ?_
              refine g_calli (g_runS (As := [.int (iI sd), .int (iI v_8), .int (iI i)]) (rest := []) F hl.1 hH hS hz (c_X7_spot l g  I_34 R J AI_35 AJ AR sd v_8 i zsd zv_8 zi (by omega) (by omega) (by omega)) (va_cwS 3 F.2.2.2.2.1 (good_up gT_X7_spot) rfl rfl rfl hdX7_spot.2 ⟨Nat.le_of_ble_eq_true rfl, Nat.le_of_ble_eq_true rfl⟩) rfl rfl (Nat.le_of_ble_eq_true rfl) dX7_joins_62 ⟨Nat.zero_le _, Nat.zero_le _⟩) hS (fun v_54 I_48 R_49 J_50 AI_51 AJ_52 AR_53 H locs zv_54 hp_55 hH hS => ?_)
              dsimp only at hp_55
              obtain ⟨rfl, rfl, rfl, rfl, rfl, rfl, q_56⟩ := hp_55
              refine lv_istore (lv' := [(9, .int (iI v_54)), (8, .int (iI jj)), (7, .int (iI i)), (6, .int (iI ps)), (5, .int (iI v_19)), (4, .int (iI v_16)), (3, .int (iI v_8)), (0, .ref mo), (1, .int (iI sd)), (2, .int (iI rr))]) F.1 F.2.1 dX7_joins_65 hl (by decide) rfl (fun ls hl => ?_)
              refine lv_iload_n F.1 F.2.1 dX7_joins_67 rfl (lv_at hl 8 rfl) ?_
              refine lv_iload F.1 F.2.1 dX7_joins_68 (lv_at hl 5 rfl) ?_
              refine lv_iload F.1 F.2.1 dX7_joins_70 (lv_at hl 1 rfl) ?_
              refine g_calli (g_runS (As := [.int (iI sd), .int (iI v_16), .int (iI jj)]) (rest := []) F hl.1 hH hS hz (c_X7_spot l g  I_34 R J AI_35 AJ AR sd v_16 jj zsd zv_16 zjj (by omega) (by omega) (by omega)) (va_cwS 3 F.2.2.2.2.1 (good_up gT_X7_spot) rfl rfl rfl hdX7_spot.2 ⟨Nat.le_of_ble_eq_true rfl, Nat.le_of_ble_eq_true rfl⟩) rfl rfl (Nat.le_of_ble_eq_true rfl) dX7_joins_72 ⟨Nat.zero_le _, Nat.zero_le _⟩) hS (fun v_63 I_57 R_58 J_59 AI_60 AJ_61 AR_62 H locs zv_63 hp_64 hH hS => ?_)
              dsimp only at hp_64
              obtain ⟨rfl, rfl, rfl, rfl, rfl, rfl, q_65⟩ := hp_64
              refine lv_istore (lv' := [(10, .int (iI v_63)), (9, .int (iI v_54)), (8, .int (iI jj)), (7, .int (iI i)), (6, .int (iI ps)), (5, .int (iI v_19)), (4, .int (iI v_16)), (3, .int (iI v_8)), (0, .ref mo), (1, .int (iI sd)), (2, .int (iI rr))]) F.1 F.2.1 dX7_joins_75 hl (by decide) rfl (fun ls hl => ?_)
              refine z_iconst F dX7_joins_77 ?_
              refine lv_istore (lv' := [(11, .int (iI 1)), (10, .int (iI v_63)), (9, .int (iI v_54)), (8, .int (iI jj)), (7, .int (iI i)), (6, .int (iI ps)), (5, .int (iI v_19)), (4, .int (iI v_16)), (3, .int (iI v_8)), (0, .ref mo), (1, .int (iI sd)), (2, .int (iI rr))]) F.1 F.2.1 dX7_joins_78 hl (by decide) rfl (fun ls hl => ?_)
              refine z_iconst F dX7_joins_80 ?_
              refine lv_istore (lv' := [(12, .int (iI 0)), (11, .int (iI 1)), (10, .int (iI v_63)), (9, .int (iI v_54)), (8, .int (iI jj)), (7, .int (iI i)), (6, .int (iI ps)), (5, .int (iI v_19)), (4, .int (iI v_16)), (3, .int (iI v_8)), (0, .ref mo), (1, .int (iI sd)), (2, .int (iI rr))]) F.1 F.2.1 dX7_joins_81 hl (by decide) rfl (fun ls hl => ?_)
              have cut_83_65 : ∀ (NN : Nat) (is k : Int) (H : Heap) (locs : List Loc) (ls : Array Slot), zr is → zr k → (0 ≤ k ∧ k ≤ 4) → (alI lc (tup bxa i.toNat) (tup bxb jj.toNat) is k) → (4 - k) < ((NN : Nat) : Int) → gH g I_34 R J AI_35 AJ AR H → va_S (gA g) s.heap H locs → lv_has ls 14 [(12, .int (iI k)), (11, .int (iI is)), (10, .int (iI v_63)), (9, .int (iI v_54)), (8, .int (iI jj)), (7, .int (iI i)), (6, .int (iI ps)), (5, .int (iI v_19)), (4, .int (iI v_16)), (3, .int (iI v_8)), (0, .ref mo), (1, .int (iI sd)), (2, .int (iI rr))] → W p l e rmX7_joinsf s m ([.ref mo, .int (iI sd), .int (iI rr)] : List Value).toArray below meth c H locs 0 0 (MQ below (gQi g (fun (z : Int) (w : gS) => R = w.2.1 ∧ J = w.2.2.1 ∧ AJ = w.2.2.2.2.1 ∧ AR = w.2.2.2.2.2 ∧ (mInv g gh R (w.1) (w.2.2.2.1)) ∧ ((w.2.2.2.1) (gh 50 0) = T) ∧ (wF mo I (w.1)) ∧ (∀ b, b ≠ gh 75 0 → b ≠ gh 77 0 → (w.2.2.2.1) b = AI b) ∧ ((z = 0 ∧ ¬ 1500 < pJ lc bxa bxb my na ∧ gaR ((w.2.2.2.1) (gh 75 0)) ((w.1) mo 26).toInt.toNat (sJ lc bxa bxb my na)) ∨ (z = -3 ∧ 1500 < pJ lc bxa bxb my na)))) ([.ref mo, .int (iI sd), .int (iI rr)] : List Value).toArray s 0 0 (gA g)) (F0 m 83 ls []) := by
                intro NN83
                induction NN83 with
                | zero =>
                  intro is k H locs ls zis zk hk1 hal hm83 hH hS hl
                  exact absurd hm83 (by omega)
                | succ NN83 ih83 =>
                  intro is k H locs ls zis zk hk1 hal hm83 hH hS hl
                  refine lv_iload F.1 F.2.1 dX7_joins_83 (lv_at hl 0 rfl) ?_
                  refine lv_aload_n F.1 F.2.1 dX7_joins_85 rfl (lv_at hl 10 rfl) ?_
                  refine lv_iload_n F.1 F.2.1 dX7_joins_86 rfl (lv_at hl 12 rfl) ?_
                  refine g_calli (g_runV (As := [.int (iI rr)]) (rest := [.int (iI k)]) (ci := 7) F hl.1 hH hS hz (c_X7_partsOf l g gh T I_34 R J AI_35 AJ AR mo rr zrr hv hm hT (by omega)) (cwV 1 F.2.2.2.2.1 (good_up gT_X7_partsOf) rfl rfl rfl hdX7_partsOf ⟨Nat.le_of_ble_eq_true rfl, Nat.le_of_ble_eq_true rfl⟩) hm (by decide) rfl rfl rfl (Nat.le_of_ble_eq_true rfl) dX7_joins_87 ⟨Nat.zero_le _, Nat.zero_le _⟩) hS (fun v_73 I_67 R_68 J_69 AI_70 AJ_71 AR_72 H locs zv_73 hp_74 hH hS => ?_)
                  dsimp only at hp_74
                  obtain ⟨rfl, rfl, rfl, rfl, rfl, rfl, q_75⟩ := hp_74
                  refine z_icmp_ge (tgt := 146) F dX7_joins_90 (by decide) zk zv_73 (fun c_76 => ?_) (fun c_76 => ?_)
                  · refine lv_iload F.1 F.2.1 dX7_joins_146 (lv_at hl 1 rfl) ?_
                    refine z_if_ne (tgt := 154) F dX7_joins_148 (by decide) zis (fun c_77 => ?_) (fun c_77 => ?_)
                    · have halk := alI_t hal (by omega) (by omega)
                      have hpc := pC_y halk
                      refine z_iinc (lv' := [(6, .int (iI (ps + 1))), (12, .int (iI k)), (11, .int (iI is)), (10, .int (iI v_63)), (9, .int (iI v_54)), (8, .int (iI jj)), (7, .int (iI i)), (5, .int (iI v_19)), (4, .int (iI v_16)), (3, .int (iI v_8)), (0, .ref mo), (1, .int (iI sd)), (2, .int (iI rr))]) F dX7_joins_154 hl (k := 6) rfl (by decide) rfl (fun ls hl => ?_)
                      refine lv_iload F.1 F.2.1 dX7_joins_157 (lv_at hl 0 rfl) ?_
                      refine z_sipush F dX7_joins_159 (by decide) ?_
                      refine z_icmp_le (tgt := 168) F dX7_joins_162 (by decide) ⟨by omega, by omega⟩ ⟨by decide, by decide⟩ (fun c_78 => ?_) (fun c_78 => ?_)
                      · refine lv_aload_n F.1 F.2.1 dX7_joins_168 rfl (lv_at hl 10 rfl) ?_
                        refine lv_iload F.1 F.2.1 dX7_joins_169 (lv_at hl 4 rfl) ?_
                        refine g_callv (g_runV (As := [.int (iI v_54)]) (rest := []) (ci := 7) F hl.1 hH hS hz (c_X7_takesf l g gh T I_34 R J AI_35 AJ AR mo v_54 zv_54 hv hm hT (by omega)) (cwV 1 F.2.2.2.2.1 (good_up gT_X7_takes) rfl rfl rfl hdX7_takes ⟨Nat.le_of_ble_eq_true rfl, Nat.le_of_ble_eq_true rfl⟩) hm (by decide) rfl rfl rfl (Nat.le_of_ble_eq_true rfl) dX7_joins_171 ⟨Nat.zero_le _, Nat.zero_le _⟩) hS (fun I_79 R_80 J_81 AI_82 AJ_83 AR_84 H locs hp_85 hH hS => ?_)
                        dsimp only at hp_85
                        obtain ⟨rfl, rfl, rfl, rfl, rfl, hv, hT, fWq, taq⟩ := hp_85
                        have htk : ∀ j, j < 4 → AI_82 (gh 77 0) j = tg (tup bxa i.toNat) j := fun j hj => by rw [taq j hj, h56, tg_up j hj, ← hXa9 _ (by omega)]; congr 1; omega
                        have hga : gaR (AI_82 (gh 75 0)) (I_34 mo 26).toInt.toNat (sJ1 lc (tup bxa i.toNat) (bxa (6 * i.toNat + 4)) bxb jj.toNat (sJ lc bxa bxb my i.toNat)) := by rw [fWq _ (show gh 75 0 ≠ gh 77 0 from mNe hv hm (p := (25, 9600)) (q := (27, 4)) (by decide) (by decide) (by decide))]; exact hga
                        have fW : ∀ b, b ≠ gh 75 0 → b ≠ gh 77 0 → AI_82 b = AI b := fun b h1 h2 => (fWq b h2).trans (fW b h1 h2)
                        have h56 : AI_82 (gh 56 0) = AI (gh 56 0) := fW _ (show gh 56 0 ≠ gh 75 0 from mNe hv hm (p := (6, 126720)) (q := (25, 9600)) (by decide) (by decide) (by decide)) (show gh 56 0 ≠ gh 77 0 from mNe hv hm (p := (6, 126720)) (q := (27, 4)) (by decide) (by decide) (by decide))
                        have h57 : AI_82 (gh 57 0) = AI (gh 57 0) := fW _ (show gh 57 0 ≠ gh 75 0 from mNe hv hm (p := (7, 176)) (q := (25, 9600)) (by decide) (by decide) (by decide)) (show gh 57 0 ≠ gh 77 0 from mNe hv hm (p := (7, 176)) (q := (27, 4)) (by decide) (by decide) (by decide))
                        refine lv_aload_n F.1 F.2.1 dX7_joins_174 rfl (lv_at hl 10 rfl) ?_
                        refine lv_iload_n F.1 F.2.1 dX7_joins_175 rfl (lv_at hl 9 rfl) ?_
                        refine g_calli (g_runV (As := [.int (iI v_8)]) (rest := []) (ci := 7) F hl.1 hH hS hz (c_X7_columnsOf l g gh T I_34 R J AI_82 AJ AR mo v_8 zv_8 hv hm hT (by omega)) (cwV 1 F.2.2.2.2.1 (good_up gT_X7_columnsOf) rfl rfl rfl hdX7_columnsOf ⟨Nat.le_of_ble_eq_true rfl, Nat.le_of_ble_eq_true rfl⟩) hm (by decide) rfl rfl rfl (Nat.le_of_ble_eq_true rfl) dX7_joins_176 ⟨Nat.zero_le _, Nat.zero_le _⟩) hS (fun v_92 I_86 R_87 J_88 AI_89 AJ_90 AR_91 H locs zv_92 hp_93 hH hS => ?_)
                        dsimp only at hp_93
                        obtain ⟨rfl, rfl, rfl, rfl, rfl, rfl, qc⟩ := hp_93
                        refine lv_istore (lv' := [(12, .int (iI v_92)), (6, .int (iI (ps + 1))), (11, .int (iI is)), (10, .int (iI v_63)), (9, .int (iI v_54)), (8, .int (iI jj)), (7, .int (iI i)), (5, .int (iI v_19)), (4, .int (iI v_16)), (3, .int (iI v_8)), (0, .ref mo), (1, .int (iI sd)), (2, .int (iI rr))]) F.1 F.2.1 dX7_joins_179 hl (by decide) rfl (fun ls hl => ?_)
                        refine z_iconst F dX7_joins_181 ?_
                        refine lv_istore (lv' := [(13, .int (iI 0)), (12, .int (iI v_92)), (6, .int (iI (ps + 1))), (11, .int (iI is)), (10, .int (iI v_63)), (9, .int (iI v_54)), (8, .int (iI jj)), (7, .int (iI i)), (5, .int (iI v_19)), (4, .int (iI v_16)), (3, .int (iI v_8)), (0, .ref mo), (1, .int (iI sd)), (2, .int (iI rr))]) F.1 F.2.1 dX7_joins_182 hl (by decide) rfl (fun ls hl => ?_)
                        have cut_184_94 : ∀ (NN : Nat) (n d : Int) (AI_94 : gI) (H : Heap) (locs : List Loc) (ls : Array Slot), zr n → zr d → (mInv g gh R I_34 AI_94) → (AI_94 (gh 50 0) = T) → (0 ≤ d ∧ d ≤ 4 ∧ n = tI T (40 * v_8 + 1) + mCnt v_19 d.toNat) → (∀ b, b ≠ gh 75 0 → b ≠ gh 77 0 → AI_94 b = AI b) → (gaR (AI_94 (gh 75 0)) (I_34 mo 26).toInt.toNat (sJ1 lc (tup bxa i.toNat) (bxa (6 * i.toNat + 4)) bxb jj.toNat (sJ lc bxa bxb my i.toNat))) → (jtM lc (tup bxa i.toNat) (tup bxb jj.toNat) (AI_94 (gh 77 0)) d) → (d ≤ lc.1 6) → (4 - d) < ((NN : Nat) : Int) → gH g I_34 R J AI_94 AJ AR H → va_S (gA g) s.heap H locs → lv_has ls 14 [(13, .int (iI d)), (12, .int (iI n)), (6, .int (iI (ps + 1))), (11, .int (iI is)), (10, .int (iI v_63)), (9, .int (iI v_54)), (8, .int (iI jj)), (7, .int (iI i)), (5, .int (iI v_19)), (4, .int (iI v_16)), (3, .int (iI v_8)), (0, .ref mo), (1, .int (iI sd)), (2, .int (iI rr))] → W p l e rmX7_joinsf s m ([.ref mo, .int (iI sd), .int (iI rr)] : List Value).toArray below meth c H locs 0 0 (MQ below (gQi g (fun (z : Int) (w : gS) => R = w.2.1 ∧ J = w.2.2.1 ∧ AJ = w.2.2.2.2.1 ∧ AR = w.2.2.2.2.2 ∧ (mInv g gh R (w.1) (w.2.2.2.1)) ∧ ((w.2.2.2.1) (gh 50 0) = T) ∧ (wF mo I (w.1)) ∧ (∀ b, b ≠ gh 75 0 → b ≠ gh 77 0 → (w.2.2.2.1) b = AI b) ∧ ((z = 0 ∧ ¬ 1500 < pJ lc bxa bxb my na ∧ gaR ((w.2.2.2.1) (gh 75 0)) ((w.1) mo 26).toInt.toNat (sJ lc bxa bxb my na)) ∨ (z = -3 ∧ 1500 < pJ lc bxa bxb my na)))) ([.ref mo, .int (iI sd), .int (iI rr)] : List Value).toArray s 0 0 (gA g)) (F0 m 184 ls []) := by
                          intro NN184
                          induction NN184 with
                          | zero =>
                            intro n d AI_94 H locs ls zn zd hv hT hd fW hga hjt hd6 hm184 hH hS hl
                            exact absurd hm184 (by omega)
                          | succ NN184 ih184 =>
                            intro n d AI_94 H locs ls zn zd hv hT hd fW hga hjt hd6 hm184 hH hS hl
                            have s4 := mCnt_0 (x := v_19) (a := d.toNat)
                            have h56 : AI_94 (gh 56 0) = AI (gh 56 0) := fW _ (show gh 56 0 ≠ gh 75 0 from mNe hv hm (p := (6, 126720)) (q := (25, 9600)) (by decide) (by decide) (by decide)) (show gh 56 0 ≠ gh 77 0 from mNe hv hm (p := (6, 126720)) (q := (27, 4)) (by decide) (by decide) (by decide))
                            have h57 : AI_94 (gh 57 0) = AI (gh 57 0) := fW _ (show gh 57 0 ≠ gh 75 0 from mNe hv hm (p := (7, 176)) (q := (25, 9600)) (by decide) (by decide) (by decide)) (show gh 57 0 ≠ gh 77 0 from mNe hv hm (p := (7, 176)) (q := (27, 4)) (by decide) (by decide) (by decide))
                            have hmc := jnM_c hjm d.toNat (by omega)
                            have hn5 : n = lc.1 5 + ((jc lc d.toNat : Nat) : Int) := by rw [← hg] at hmc; omega
                            refine lv_iload F.1 F.2.1 dX7_joins_184 (lv_at hl 0 rfl) ?_
                            refine lv_aload_n F.1 F.2.1 dX7_joins_186 rfl (lv_at hl 11 rfl) ?_
                            refine lv_iload F.1 F.2.1 dX7_joins_187 (lv_at hl 9 rfl) ?_
                            refine g_calli (g_runV (As := [.int (iI v_16)]) (rest := [.int (iI d)]) (ci := 7) F hl.1 hH hS hz (c_X7_columnsOf l g gh T I_34 R J AI_94 AJ AR mo v_16 zv_16 hv hm hT (by omega)) (cwV 1 F.2.2.2.2.1 (good_up gT_X7_columnsOf) rfl rfl rfl hdX7_columnsOf ⟨Nat.le_of_ble_eq_true rfl, Nat.le_of_ble_eq_true rfl⟩) hm (by decide) rfl rfl rfl (Nat.le_of_ble_eq_true rfl) dX7_joins_189 ⟨Nat.zero_le _, Nat.zero_le _⟩) hS (fun v_102 I_96 R_97 J_98 AI_99 AJ_100 AR_101 H locs zv_102 hp_103 hH hS => ?_)
                            dsimp only at hp_103
                            obtain ⟨rfl, rfl, rfl, rfl, rfl, rfl, qd⟩ := hp_103
                            refine z_icmp_ge (tgt := 235) F dX7_joins_192 (by decide) zd zv_102 (fun c_104 => ?_) (fun c_104 => ?_)
                            · have hjn := jtM_e hjt (by omega) (by omega) (by omega) (by omega)
                              obtain ⟨Pg, hPw, hPs⟩ := hga
                              refine lv_aload_n F.1 F.2.1 dX7_joins_235 rfl (lv_at hl 11 rfl) ?_
                              refine lv_aload_n F.1 F.2.1 dX7_joins_236 rfl (lv_at hl 11 rfl) ?_
                              obtain ⟨r_105a, r_105b⟩ : R mo 6 = some (gh 56 0) ∧ gAr g (gh 56 0) 9 126720 := mR hv hm (q := (6, 126720)) (by decide)
                              refine g_getR (ci := 7) (k := 6) F hH rfl (by decide) iX7 hm (by decide) rfl (b := gh 56 0) r_105a k24 dX7_joins_237 ?_
                              refine lv_iload F.1 F.2.1 dX7_joins_240 (lv_at hl 5 rfl) ?_
                              refine z_iconst F dX7_joins_242 ?_
                              refine z_iadd F dX7_joins_243 ?_
                              have hx244 : 0 ≤ (v_54 + 4) ∧ (v_54 + 4) < ((126720 : Nat) : Int) ∧ (v_54 + 4) ≤ 2147483647 := ⟨by omega, by omega, by omega⟩
                              refine g_iald F hH r_105b hx244.1 hx244.2.1 hx244.2.2 dX7_joins_244 ?_
                              refine z_name (fun v_106 ev_106 => ?_)
                              have zv_106 : zr v_106 := by rw [ev_106]; exact zr_t _
                              have c244 : iI v_106 = bxa (6 * i.toNat + 4) := by rw [ev_106, iI_self, h56, ← hXa9 _ (by omega)]; congr 1; omega
                              refine lv_aload_n F.1 F.2.1 dX7_joins_245 rfl (lv_at hl 11 rfl) ?_
                              refine g_getR (ci := 7) (k := 6) F hH rfl (by decide) iX7 hm (by decide) rfl (b := gh 56 0) r_105a k24 dX7_joins_246 ?_
                              refine lv_iload F.1 F.2.1 dX7_joins_249 (lv_at hl 4 rfl) ?_
                              refine z_iconst F dX7_joins_251 ?_
                              refine z_iadd F dX7_joins_252 ?_
                              have hx253 : 0 ≤ (v_63 + 4) ∧ (v_63 + 4) < ((126720 : Nat) : Int) ∧ (v_63 + 4) ≤ 2147483647 := ⟨by omega, by omega, by omega⟩
                              refine g_iald F hH r_105b hx253.1 hx253.2.1 hx253.2.2 dX7_joins_253 ?_
                              refine z_name (fun v_107 ev_107 => ?_)
                              have zv_107 : zr v_107 := by rw [ev_107]; exact zr_t _
                              have c253 : iI v_107 = bxb (6 * jj.toNat + 4) := by rw [ev_107, iI_self, h56, ← hXb9 _ (by omega)]; congr 1; omega
                              refine z_imul F dX7_joins_254 ?_
                              refine z_norm (fun v_108 zv_108 ev_108 => ?_)
                              have qm : iI v_108 = bxa (6 * i.toNat + 4) * bxb (6 * jj.toNat + 4) := by rw [ev_108, ← iI_mul, c244, c253]
                              refine z_iconst F dX7_joins_255 ?_
                              refine g_calli (g_runV (As := [.int (iI v_108), .int (iI 0)]) (rest := []) (ci := 7) F hl.1 hH hS hz (c_X7_gathersf l g gh T ((I_34 mo 26).toInt.toNat) Pg (sJ1 lc (tup bxa i.toNat) (bxa (6 * i.toNat + 4)) bxb jj.toNat (sJ lc bxa bxb my i.toNat)) zM (jn lc (tup bxa i.toNat) (tup bxb jj.toNat)) I_34 R J AI_94 AJ AR mo v_108 0 zv_108 ⟨by decide, by decide⟩ hv hm hT (by omega) hPw (by omega) hjn) (cwV 2 F.2.2.2.2.1 (good_up gT_X7_gathers) rfl rfl rfl hdX7_gathers ⟨Nat.le_of_ble_eq_true rfl, Nat.le_of_ble_eq_true rfl⟩) hm (by decide) rfl rfl rfl (Nat.le_of_ble_eq_true rfl) dX7_joins_256 ⟨Nat.zero_le _, Nat.zero_le _⟩) hS (fun v_115 I_109 R_110 J_111 AI_112 AJ_113 AR_114 H locs zv_115 hp_116 hH hS => ?_)
                              dsimp only at hp_116
                              obtain ⟨rfl, rfl, rfl, rfl, hv, hT, wfq, q_117, qga, fWq⟩ := hp_116
                              have wf := wF_t wf wfq
                              have u_118_2 : (I_109 mo 2).toInt = (I mo 2).toInt := by rw [wf 2 (by decide)]
                              have u_118_5 : (I_109 mo 5).toInt = (I mo 5).toInt := by rw [wf 5 (by decide)]
                              have u_118_14 : (I_109 mo 14).toInt = (I mo 14).toInt := by rw [wf 14 (by decide)]
                              have u_118_16 : (I_109 mo 16).toInt = (I mo 16).toInt := by rw [wf 16 (by decide)]
                              have u_118_24 : (I_109 mo 24).toInt = (I mo 24).toInt := by rw [wf 24 (by decide)]
                              have hga := gaR_s hPs qga
                              rw [qm, ← sJ1_y halk, show jj.toNat + 1 = (jj + 1).toNat by omega] at hga
                              clear qga
                              have fW : ∀ b, b ≠ gh 75 0 → b ≠ gh 77 0 → AI_112 b = AI b := fun b h1 h2 => (fWq b h1).trans (fW b h1 h2)
                              refine lv_istore (lv' := [(13, .int (iI v_115)), (12, .int (iI n)), (6, .int (iI (ps + 1))), (11, .int (iI is)), (10, .int (iI v_63)), (9, .int (iI v_54)), (8, .int (iI jj)), (7, .int (iI i)), (5, .int (iI v_19)), (4, .int (iI v_16)), (3, .int (iI v_8)), (0, .ref mo), (1, .int (iI sd)), (2, .int (iI rr))]) F.1 F.2.1 dX7_joins_259 hl (by decide) rfl (fun ls hl => ?_)
                              refine lv_iload F.1 F.2.1 dX7_joins_261 (lv_at hl 0 rfl) ?_
                              refine z_if_eq (tgt := 279) F dX7_joins_263 (by decide) zv_115 (fun c_119 => ?_) (fun c_119 => ?_)
                              · refine z_iinc (lv' := [(8, .int (iI (jj + 1))), (13, .int (iI v_115)), (12, .int (iI n)), (6, .int (iI (ps + 1))), (11, .int (iI is)), (10, .int (iI v_63)), (9, .int (iI v_54)), (7, .int (iI i)), (5, .int (iI v_19)), (4, .int (iI v_16)), (3, .int (iI v_8)), (0, .ref mo), (1, .int (iI sd)), (2, .int (iI rr))]) F dX7_joins_279 hl (k := 6) rfl (by decide) rfl (fun ls hl => ?_)
                                refine z_goto (tgt := 46) F dX7_joins_282 (by decide) ?_
                                exact ih46 (ps + 1) (jj + 1) I_109 AI_112 H locs ls ⟨by omega, by omega⟩ ⟨by omega, by omega⟩ hv hT wf (by omega) fW hga ⟨by rw [show (jj + 1).toNat = jj.toNat + 1 by omega]; omega, by omega, by omega⟩ (by omega) hH hS (lv_sub hl [0, 7, 3, 8, 9, 10, 11, 12, 13] rfl)
                              · refine lv_aload_n F.1 F.2.1 dX7_joins_266 rfl (lv_at hl 11 rfl) ?_
                                refine g_getI (ci := 7) (k := 26) F hH rfl (by decide) iX7 hm (by decide) rfl k269 dX7_joins_267 ?_
                                have b_120 := mJ hv hm
                                unfold mNum1 at b_120
                                refine z_sipush F dX7_joins_270 (by decide) ?_
                                refine z_icmp_le (tgt := 279) F dX7_joins_273 (by decide) (zr_t _) ⟨by decide, by decide⟩ (fun c_121 => ?_) (fun c_121 => ?_)
                                · refine z_iinc (lv' := [(8, .int (iI (jj + 1))), (13, .int (iI v_115)), (12, .int (iI n)), (6, .int (iI (ps + 1))), (11, .int (iI is)), (10, .int (iI v_63)), (9, .int (iI v_54)), (7, .int (iI i)), (5, .int (iI v_19)), (4, .int (iI v_16)), (3, .int (iI v_8)), (0, .ref mo), (1, .int (iI sd)), (2, .int (iI rr))]) F dX7_joins_279 hl (k := 6) rfl (by decide) rfl (fun ls hl => ?_)
                                  refine z_goto (tgt := 46) F dX7_joins_282 (by decide) ?_
                                  exact ih46 (ps + 1) (jj + 1) I_109 AI_112 H locs ls ⟨by omega, by omega⟩ ⟨by omega, by omega⟩ hv hT wf (by omega) fW hga ⟨by rw [show (jj + 1).toNat = jj.toNat + 1 by omega]; omega, by omega, by omega⟩ (by omega) hH hS (lv_sub hl [0, 7, 3, 8, 9, 10, 11, 12, 13] rfl)
                                · refine z_bipush F dX7_joins_276 (by decide) ?_
                                  exact g_iret F hr hlk hH hS hz ⟨by decide, by decide⟩ ⟨rfl, rfl, rfl, rfl, hv, hT, wf, fW, absurd trivial (by omega)⟩ dX7_joins_278
                            · refine lv_iload F.1 F.2.1 dX7_joins_195 (lv_at hl 8 rfl) ?_
                              refine lv_iload F.1 F.2.1 dX7_joins_197 (lv_at hl 0 rfl) ?_
                              refine lv_ishr F.1 F.2.1 dX7_joins_199 ?_
                              refine z_top (fun v_122 zv_122 ev_122 => ?_)
                              refine z_iconst F dX7_joins_200 ?_
                              refine lv_iand F.1 F.2.1 dX7_joins_201 ?_
                              refine z_top (fun v_123 zv_123 ev_123 => ?_)
                              have hb : v_123 = mBit v_19 d := by rw [ev_123, ev_122]; rfl
                              refine z_iconst F dX7_joins_202 ?_
                              refine z_icmp_ne (tgt := 209) F dX7_joins_203 (by decide) zv_123 ⟨by decide, by decide⟩ (fun c_124 => ?_) (fun c_124 => ?_)
                              · have s1 := mCnt_s (x := v_19) (k := d) (by omega) (by omega)
                                have s2 := mCnt_le (x := v_19) (a := (d + 1).toNat) (b := (tI T (40 * v_16 + 1)).toNat) (by omega)
                                have s3 := mCnt_0 (x := v_19) (a := d.toNat)
                                have hnt : ¬ tld lc d.toNat := fun h9 => absurd ((jnM_d hjm (by omega) (by omega)).mpr h9) (by rw [← hg, ← hb]; omega)
                                refine lv_aload_n F.1 F.2.1 dX7_joins_209 rfl (lv_at hl 11 rfl) ?_
                                obtain ⟨r_125a, r_125b⟩ : R mo 27 = some (gh 77 0) ∧ gAr g (gh 77 0) 9 4 := mR hv hm (q := (27, 4)) (by decide)
                                refine g_getR (ci := 7) (k := 27) F hH rfl (by decide) iX7 hm (by decide) rfl (b := gh 77 0) r_125a k45 dX7_joins_210 ?_
                                refine lv_iload F.1 F.2.1 dX7_joins_213 (lv_at hl 1 rfl) ?_
                                refine lv_aload_n F.1 F.2.1 dX7_joins_215 rfl (lv_at hl 11 rfl) ?_
                                obtain ⟨r_126a, r_126b⟩ : R mo 6 = some (gh 56 0) ∧ gAr g (gh 56 0) 9 126720 := mR hv hm (q := (6, 126720)) (by decide)
                                refine g_getR (ci := 7) (k := 6) F hH rfl (by decide) iX7 hm (by decide) rfl (b := gh 56 0) r_126a k24 dX7_joins_216 ?_
                                refine lv_iload F.1 F.2.1 dX7_joins_219 (lv_at hl 4 rfl) ?_
                                refine lv_iload F.1 F.2.1 dX7_joins_221 (lv_at hl 0 rfl) ?_
                                refine z_iadd F dX7_joins_223 ?_
                                have hx224 : 0 ≤ (v_63 + d) ∧ (v_63 + d) < ((126720 : Nat) : Int) ∧ (v_63 + d) ≤ 2147483647 := ⟨by omega, by omega, by omega⟩
                                refine g_iald F hH r_126b hx224.1 hx224.2.1 hx224.2.2 dX7_joins_224 ?_
                                refine z_name (fun v_127 ev_127 => ?_)
                                have zv_127 : zr v_127 := by rw [ev_127]; exact zr_t _
                                have c224 : iI v_127 = tg (tup bxb jj.toNat) d.toNat := by rw [ev_127, iI_self, h56, tg_up _ (by omega), ← hXb9 _ (by omega)]; congr 1; omega
                                have hx225 : 0 ≤ n ∧ n < ((4 : Nat) : Int) ∧ n ≤ 2147483647 := ⟨by omega, by omega, by omega⟩
                                refine g_iast F hH hS r_125b hx225.1 hx225.2.1 hx225.2.2 dX7_joins_225 (fun H locs hH hS => ?_)
                                obtain ⟨AI_128, eAI_128⟩ : ∃ qQ, qQ = gup2 AI_94 (gh 77 0) (n).toNat (iI (v_127)) := ⟨_, rfl⟩
                                rw [← eAI_128] at hH
                                have kAI_128 : ∀ b, b ≠ (gh 77 0) → AI_128 b = AI_94 b := fun b hb => by rw [eAI_128]; exact funext fun j => gup2_a _ _ hb
                                have hvO := hv
                                have t_129 : AI_128 (gh 50 0) = AI_94 (gh 50 0) := mK hv hm (p := (0, 640)) (q := (27, 4)) (by decide) (by decide) (by decide) kAI_128
                                have hv : mInv g gh R I_34 AI_128 := mInv_a hv hm (q := (27, 4)) (by decide) (by decide) kAI_128
                                have hT : AI_128 (gh 50 0) = T := t_129.trans hT
                                have hjt := jtM_s hjt (by omega) (by omega) hnt (K' := AI_128 (gh 77 0)) (fun j hj => by rw [eAI_128, gup2_k _ _ (by omega)]) (by rw [eAI_128, gup2_e _ _ (by omega), c224])
                                have hga : gaR (AI_128 (gh 75 0)) (I_34 mo 26).toInt.toNat (sJ1 lc (tup bxa i.toNat) (bxa (6 * i.toNat + 4)) bxb jj.toNat (sJ lc bxa bxb my i.toNat)) := by rw [kAI_128 _ (show gh 75 0 ≠ gh 77 0 from mNe hv hm (p := (25, 9600)) (q := (27, 4)) (by decide) (by decide) (by decide))]; exact hga
                                have fW : ∀ b, b ≠ gh 75 0 → b ≠ gh 77 0 → AI_128 b = AI b := fun b h1 h2 => (kAI_128 b h2).trans (fW b h1 h2)
                                refine z_iinc (lv' := [(12, .int (iI (n + 1))), (13, .int (iI d)), (6, .int (iI (ps + 1))), (11, .int (iI is)), (10, .int (iI v_63)), (9, .int (iI v_54)), (8, .int (iI jj)), (7, .int (iI i)), (5, .int (iI v_19)), (4, .int (iI v_16)), (3, .int (iI v_8)), (0, .ref mo), (1, .int (iI sd)), (2, .int (iI rr))]) F dX7_joins_226 hl (k := 1) rfl (by decide) rfl (fun ls hl => ?_)
                                refine z_iinc (lv' := [(13, .int (iI (d + 1))), (12, .int (iI (n + 1))), (6, .int (iI (ps + 1))), (11, .int (iI is)), (10, .int (iI v_63)), (9, .int (iI v_54)), (8, .int (iI jj)), (7, .int (iI i)), (5, .int (iI v_19)), (4, .int (iI v_16)), (3, .int (iI v_8)), (0, .ref mo), (1, .int (iI sd)), (2, .int (iI rr))]) F dX7_joins_229 hl (k := 1) rfl (by decide) rfl (fun ls hl => ?_)
                                refine z_goto (tgt := 184) F dX7_joins_232 (by decide) ?_
                                exact ih184 (n + 1) (d + 1) AI_128 H locs ls ⟨by omega, by omega⟩ ⟨by omega, by omega⟩ hv hT (by first | (rw [mCnt_z (by omega) (by omega)]; omega) | (rw [mCnt_s (by omega) (by omega)]; omega) | (refine ⟨by omega, by omega, ?_⟩; show _ = _ + (0 : Int); omega)) fW hga hjt (by omega) (by omega) hH hS (lv_sub hl [0, 1, 2, 3, 4, 5, 6, 7, 8, 9, 10, 11, 12, 13] rfl)
                              · have hty : tld lc d.toNat := (jnM_d hjm (by omega) (by omega)).mp (by rw [← hg, ← hb]; omega)
                                have hjt := jtM_k hjt (by omega) hty
                                refine z_goto (tgt := 229) F dX7_joins_206 (by decide) ?_
                                refine z_iinc (lv' := [(13, .int (iI (d + 1))), (12, .int (iI n)), (6, .int (iI (ps + 1))), (11, .int (iI is)), (10, .int (iI v_63)), (9, .int (iI v_54)), (8, .int (iI jj)), (7, .int (iI i)), (5, .int (iI v_19)), (4, .int (iI v_16)), (3, .int (iI v_8)), (0, .ref mo), (1, .int (iI sd)), (2, .int (iI rr))]) F dX7_joins_229 hl (k := 0) rfl (by decide) rfl (fun ls hl => ?_)
                                refine z_goto (tgt := 184) F dX7_joins_232 (by decide) ?_
                                exact ih184 n (d + 1) AI_94 H locs ls zn ⟨by omega, by omega⟩ hv hT (by first | (rw [mCnt_z (by omega) (by omega)]; omega) | (rw [mCnt_s (by omega) (by omega)]; omega) | (refine ⟨by omega, by omega, ?_⟩; show _ = _ + (0 : Int); omega)) fW hga hjt (by omega) (by omega) hH hS (lv_sub hl [0, 1, 2, 3, 4, 5, 6, 7, 8, 9, 10, 11, 12, 13] rfl)
                        exact cut_184_94 (((4 - 0) + 1 : Int).toNat) v_92 0 AI_82 H locs ls zv_92 ⟨by decide, by decide⟩ hv hT (by first | (rw [mCnt_z (by omega) (by omega)]; omega) | (rw [mCnt_s (by omega) (by omega)]; omega) | (refine ⟨by omega, by omega, ?_⟩; show _ = _ + (0 : Int); omega)) fW hga (jtM_0 htk (zx i.toNat (by omega)) (by omega)) (by omega) (by omega) hH hS (lv_sub hl [0, 1, 2, 3, 4, 5, 6, 7, 8, 9, 10, 11, 12, 13] rfl)
                      · refine z_bipush F dX7_joins_165 (by decide) ?_
                        exact g_iret F hr hlk hH hS hz ⟨by decide, by decide⟩ ⟨rfl, rfl, rfl, rfl, hv, hT, wf, fW, Or.inr ⟨rfl, by have := pJ_at (c := lc) (x := bxa) (y := bxb) (n := na) (m := my) (i := i.toNat) (j := jj.toNat + 1) (by omega) (by omega); omega⟩⟩ dX7_joins_167
                    · refine z_goto (tgt := 279) F dX7_joins_151 (by decide) ?_
                      have hnal := alI_f hal (by omega)
                      have hpc := pC_n hnal
                      have hga := hga
                      rw [← sJ1_n hnal, show jj.toNat + 1 = (jj + 1).toNat by omega] at hga
                      refine z_iinc (lv' := [(8, .int (iI (jj + 1))), (12, .int (iI k)), (11, .int (iI is)), (10, .int (iI v_63)), (9, .int (iI v_54)), (7, .int (iI i)), (6, .int (iI ps)), (5, .int (iI v_19)), (4, .int (iI v_16)), (3, .int (iI v_8)), (0, .ref mo), (1, .int (iI sd)), (2, .int (iI rr))]) F dX7_joins_279 hl (k := 4) rfl (by decide) rfl (fun ls hl => ?_)
                      refine z_goto (tgt := 46) F dX7_joins_282 (by decide) ?_
                      exact ih46 ps (jj + 1) I_34 AI_35 H locs ls zps ⟨by omega, by omega⟩ hv hT wf (by omega) fW hga ⟨by rw [show (jj + 1).toNat = jj.toNat + 1 by omega]; omega, by omega, by omega⟩ (by omega) hH hS (lv_sub hl [0, 5, 6, 7, 8, 9, 10, 11, 12] rfl)
                  · refine lv_iload F.1 F.2.1 dX7_joins_93 (lv_at hl 1 rfl) ?_
                    refine z_if_eq (tgt := 137) F dX7_joins_95 (by decide) zis (fun c_130 => ?_) (fun c_130 => ?_)
                    · refine z_iconst F dX7_joins_137 ?_
                      refine lv_istore (lv' := [(11, .int (iI 0)), (12, .int (iI k)), (10, .int (iI v_63)), (9, .int (iI v_54)), (8, .int (iI jj)), (7, .int (iI i)), (6, .int (iI ps)), (5, .int (iI v_19)), (4, .int (iI v_16)), (3, .int (iI v_8)), (0, .ref mo), (1, .int (iI sd)), (2, .int (iI rr))]) F.1 F.2.1 dX7_joins_138 hl (by decide) rfl (fun ls hl => ?_)
                      refine z_iinc (lv' := [(12, .int (iI (k + 1))), (11, .int (iI 0)), (10, .int (iI v_63)), (9, .int (iI v_54)), (8, .int (iI jj)), (7, .int (iI i)), (6, .int (iI ps)), (5, .int (iI v_19)), (4, .int (iI v_16)), (3, .int (iI v_8)), (0, .ref mo), (1, .int (iI sd)), (2, .int (iI rr))]) F dX7_joins_140 hl (k := 1) rfl (by decide) rfl (fun ls hl => ?_)
                      refine z_goto (tgt := 83) F dX7_joins_143 (by decide) ?_
                      exact ih83 0 (k + 1) H locs ls ⟨by decide, by decide⟩ ⟨by omega, by omega⟩ (by omega) (alI_z hal (by omega)) (by omega) hH hS (lv_sub hl [0, 1, 2, 3, 4, 5, 6, 7, 8, 9, 10, 11, 12] rfl)
                    · have q1 := x3c k (by omega) (by omega)
                      have hpk := jnM_at hjm (k := k) (by omega) (by omega)
                      refine lv_aload_n F.1 F.2.1 dX7_joins_98 rfl (lv_at hl 10 rfl) ?_
                      obtain ⟨r_131a, r_131b⟩ : R mo 6 = some (gh 56 0) ∧ gAr g (gh 56 0) 9 126720 := mR hv hm (q := (6, 126720)) (by decide)
                      refine g_getR (ci := 7) (k := 6) F hH rfl (by decide) iX7 hm (by decide) rfl (b := gh 56 0) r_131a k24 dX7_joins_99 ?_
                      refine lv_iload F.1 F.2.1 dX7_joins_102 (lv_at hl 3 rfl) ?_
                      refine lv_aload_n F.1 F.2.1 dX7_joins_104 rfl (lv_at hl 10 rfl) ?_
                      refine lv_iload_n F.1 F.2.1 dX7_joins_105 rfl (lv_at hl 12 rfl) ?_
                      refine lv_iload F.1 F.2.1 dX7_joins_106 (lv_at hl 0 rfl) ?_
                      refine z_iconst F dX7_joins_108 ?_
                      refine g_calli (g_runV (As := [.int (iI rr), .int (iI k), .int (iI 0)]) (rest := [.int (iI v_54), .ref (gh 56 0)]) (ci := 7) F hl.1 hH hS hz (c_X7_part l g gh T I_34 R J AI_35 AJ AR mo rr k 0 zrr zk ⟨by decide, by decide⟩ hv hm hT (by omega) (by omega) (by omega)) (cwV 3 F.2.2.2.2.1 (good_up gT_X7_part) rfl rfl rfl hdX7_part ⟨Nat.le_of_ble_eq_true rfl, Nat.le_of_ble_eq_true rfl⟩) hm (by decide) rfl rfl rfl (Nat.le_of_ble_eq_true rfl) dX7_joins_109 ⟨Nat.zero_le _, Nat.zero_le _⟩) hS (fun v_138 I_132 R_133 J_134 AI_135 AJ_136 AR_137 H locs zv_138 hp_139 hH hS => ?_)
                      dsimp only at hp_139
                      obtain ⟨rfl, rfl, rfl, rfl, rfl, rfl, qp0⟩ := hp_139
                      refine z_iadd F dX7_joins_112 ?_
                      have hx113 : 0 ≤ (v_54 + v_138) ∧ (v_54 + v_138) < ((126720 : Nat) : Int) ∧ (v_54 + v_138) ≤ 2147483647 := ⟨by omega, by omega, by omega⟩
                      refine g_iald F hH r_131b hx113.1 hx113.2.1 hx113.2.2 dX7_joins_113 ?_
                      refine z_name (fun v_140 ev_140 => ?_)
                      have zv_140 : zr v_140 := by rw [ev_140]; exact zr_t _
                      have c113 : iI v_140 = tg (tup bxa i.toNat) (lc.2 k.toNat 0).toNat := by rw [ev_140, iI_self, h56, tg_up _ (by omega), ← hXa9 _ (by omega)]; congr 1; omega
                      refine lv_aload_n F.1 F.2.1 dX7_joins_114 rfl (lv_at hl 10 rfl) ?_
                      refine g_getR (ci := 7) (k := 6) F hH rfl (by decide) iX7 hm (by decide) rfl (b := gh 56 0) r_131a k24 dX7_joins_115 ?_
                      refine lv_iload F.1 F.2.1 dX7_joins_118 (lv_at hl 2 rfl) ?_
                      refine lv_aload_n F.1 F.2.1 dX7_joins_120 rfl (lv_at hl 10 rfl) ?_
                      refine lv_iload_n F.1 F.2.1 dX7_joins_121 rfl (lv_at hl 12 rfl) ?_
                      refine lv_iload F.1 F.2.1 dX7_joins_122 (lv_at hl 0 rfl) ?_
                      refine z_iconst F dX7_joins_124 ?_
                      refine g_calli (g_runV (As := [.int (iI rr), .int (iI k), .int (iI 1)]) (rest := [.int (iI v_63), .ref (gh 56 0), .int (iI v_140)]) (ci := 7) F hl.1 hH hS hz (c_X7_part l g gh T I_34 R J AI_35 AJ AR mo rr k 1 zrr zk ⟨by decide, by decide⟩ hv hm hT (by omega) (by omega) (by omega)) (cwV 3 F.2.2.2.2.1 (good_up gT_X7_part) rfl rfl rfl hdX7_part ⟨Nat.le_of_ble_eq_true rfl, Nat.le_of_ble_eq_true rfl⟩) hm (by decide) rfl rfl rfl (Nat.le_of_ble_eq_true rfl) dX7_joins_125 ⟨Nat.zero_le _, Nat.zero_le _⟩) hS (fun v_147 I_141 R_142 J_143 AI_144 AJ_145 AR_146 H locs zv_147 hp_148 hH hS => ?_)
                      dsimp only at hp_148
                      obtain ⟨rfl, rfl, rfl, rfl, rfl, rfl, qp1⟩ := hp_148
                      refine z_iadd F dX7_joins_128 ?_
                      have hx129 : 0 ≤ (v_63 + v_147) ∧ (v_63 + v_147) < ((126720 : Nat) : Int) ∧ (v_63 + v_147) ≤ 2147483647 := ⟨by omega, by omega, by omega⟩
                      refine g_iald F hH r_131b hx129.1 hx129.2.1 hx129.2.2 dX7_joins_129 ?_
                      refine z_name (fun v_149 ev_149 => ?_)
                      have zv_149 : zr v_149 := by rw [ev_149]; exact zr_t _
                      have c129 : iI v_149 = tg (tup bxb jj.toNat) (lc.2 k.toNat 1).toNat := by rw [ev_149, iI_self, h56, tg_up _ (by omega), ← hXb9 _ (by omega)]; congr 1; omega
                      refine z_icmp_ne (tgt := 137) F dX7_joins_130 (by decide) zv_140 zv_149 (fun c_150 => ?_) (fun c_150 => ?_)
                      · refine z_iconst F dX7_joins_137 ?_
                        refine lv_istore (lv' := [(11, .int (iI 0)), (12, .int (iI k)), (10, .int (iI v_63)), (9, .int (iI v_54)), (8, .int (iI jj)), (7, .int (iI i)), (6, .int (iI ps)), (5, .int (iI v_19)), (4, .int (iI v_16)), (3, .int (iI v_8)), (0, .ref mo), (1, .int (iI sd)), (2, .int (iI rr))]) F.1 F.2.1 dX7_joins_138 hl (by decide) rfl (fun ls hl => ?_)
                        refine z_iinc (lv' := [(12, .int (iI (k + 1))), (11, .int (iI 0)), (10, .int (iI v_63)), (9, .int (iI v_54)), (8, .int (iI jj)), (7, .int (iI i)), (6, .int (iI ps)), (5, .int (iI v_19)), (4, .int (iI v_16)), (3, .int (iI v_8)), (0, .ref mo), (1, .int (iI sd)), (2, .int (iI rr))]) F dX7_joins_140 hl (k := 1) rfl (by decide) rfl (fun ls hl => ?_)
                        refine z_goto (tgt := 83) F dX7_joins_143 (by decide) ?_
                        exact ih83 0 (k + 1) H locs ls ⟨by decide, by decide⟩ ⟨by omega, by omega⟩ (by omega) (alI_n (by omega) (by omega) (by rw [← c113, ← c129]; intro h9; have h8 := (iI_eq zv_140 zv_149).mp h9; omega)) (by omega) hH hS (lv_sub hl [0, 1, 2, 3, 4, 5, 6, 7, 8, 9, 10, 11, 12] rfl)
                      · refine z_iconst F dX7_joins_133 ?_
                        refine z_goto (tgt := 138) F dX7_joins_134 (by decide) ?_
                        refine lv_istore (lv' := [(11, .int (iI 1)), (12, .int (iI k)), (10, .int (iI v_63)), (9, .int (iI v_54)), (8, .int (iI jj)), (7, .int (iI i)), (6, .int (iI ps)), (5, .int (iI v_19)), (4, .int (iI v_16)), (3, .int (iI v_8)), (0, .ref mo), (1, .int (iI sd)), (2, .int (iI rr))]) F.1 F.2.1 dX7_joins_138 hl (by decide) rfl (fun ls hl => ?_)
                        refine z_iinc (lv' := [(12, .int (iI (k + 1))), (11, .int (iI 1)), (10, .int (iI v_63)), (9, .int (iI v_54)), (8, .int (iI jj)), (7, .int (iI i)), (6, .int (iI ps)), (5, .int (iI v_19)), (4, .int (iI v_16)), (3, .int (iI v_8)), (0, .ref mo), (1, .int (iI sd)), (2, .int (iI rr))]) F dX7_joins_140 hl (k := 1) rfl (by decide) rfl (fun ls hl => ?_)
                        refine z_goto (tgt := 83) F dX7_joins_143 (by decide) ?_
                        exact ih83 1 (k + 1) H locs ls ⟨by decide, by decide⟩ ⟨by omega, by omega⟩ (by omega) (alI_y hal (by omega) (by omega) (by rw [← c113, ← c129, show v_140 = v_149 by omega])) (by omega) hH hS (lv_sub hl [0, 1, 2, 3, 4, 5, 6, 7, 8, 9, 10, 11, 12] rfl)
              exact cut_83_65 (((4 - 0) + 1 : Int).toNat) 1 0 H locs ls ⟨by decide, by decide⟩ ⟨by decide, by decide⟩ (by omega) alI_0 (by omega) hH hS (lv_sub hl [0, 1, 2, 3, 4, 5, 6, 7, 8, 9, 10, 11, 12] rfl)
        exact cut_46_35 (((120 - 0) + 1 : Int).toNat) ps 0 I_20 AI_21 H locs ls zps ⟨by decide, by decide⟩ hv hT wf (by omega) fW hga ⟨by show _ = _ + ((0 : Nat) : Int); omega, by omega, by omega⟩ (by omega) hH hS (lv_sub hl [0, 1, 2, 3, 4, 5, 6, 7, 8] rfl)
  exact cut_32_21 (((120 - 0) + 1 : Int).toNat) 0 0 I AI H locs ls ⟨by decide, by decide⟩ ⟨by decide, by decide⟩ hv hT wf (by omega) (fun _ _ _ => rfl) (by rw [show (I mo 26).toInt = 0 by omega]; exact gaR_0) ⟨rfl, by omega, by omega⟩ (by omega) hH hS (lv_sub hl [0, 1, 2, 3, 4, 5, 6, 7] rfl)
