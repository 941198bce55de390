def rmX7_groupsf : Room := { frames := 3, cells := 0, slots := 0, locals := 71 }
set_option maxHeartbeats 4000000 in
set_option maxRecDepth 100000 in
/-- groups -/
theorem c_X7_groupsf (l : Launch) (g : gG) (gh : gGh) (T : Nat → Int32) (lc : LC) (na : Nat) (bxa : Nat → Int32) (I : gI) (R : gR) (J : gJ) (AI : gI) (AJ : gJ) (AR : gR) (mo : Nat) (sd : Int) (rr : Int) (zsd : zr sd) (zrr : zr rr) (hv : mInv g gh R I AI) (hm : gO g mo 7) (hT : AI (gh 50 0) = T) (hs : 0 ≤ sd ∧ sd ≤ 10) (hr0 : 0 ≤ rr ∧ rr < (I mo 2).toInt) (hk : tI T (40 * rr) = 7) (hw : (I mo 26).toInt = 0) (hgm : gfM T rr lc) (hna : tI (AI (gh 57 0)) (16 * sd + tI T (40 * rr + 2)) = (na : Int)) (hXa : ∀ q : Nat, q < 720 → AI (gh 56 0) ((11520 * sd + 720 * tI T (40 * rr + 2)).toNat + q) = bxa q) (h120 : na ≤ 120) : gMet l g yX7_groups tsX7_groups rmX7_groupsf [.ref mo, .int (iI sd), .int (iI rr)] (I, R, J, AI, AJ, AR) (gQv g (fun w : gS => R = w.2.1 ∧ J = w.2.2.1 ∧ AJ = w.2.2.2.2.1 ∧ AR = w.2.2.2.2.2 ∧ (mInv g gh R (w.1) (w.2.2.2.1)) ∧ ((w.2.2.2.1) (gh 50 0) = T) ∧ (wF mo I (w.1)) ∧ (∀ b, b ≠ gh 75 0 → b ≠ gh 77 0 → (w.2.2.2.1) b = AI b) ∧ (gaR ((w.2.2.2.1) (gh 75 0)) ((w.1) mo 26).toInt.toNat (sG lc bxa na)))) := by
  refine gStart (cc := cX7_groups) (maxL := 15) (ret := none) (by decide) rfl (Nat.le_of_ble_eq_true rfl) ?_
  intro p e s m below meth c ls F hr hlk hH hz hS hl
  have hl : lv_has ls 15 [(0, .ref mo), (1, .int (iI sd)), (2, .int (iI rr))] := hl
  have hS : va_S (gA g) s.heap s.heap [] := hS
  obtain ⟨H, hHe⟩ : ∃ H : Heap, H = s.heap := ⟨_, rfl⟩
  obtain ⟨locs, hlo⟩ : ∃ k : List Loc, k = [] := ⟨_, rfl⟩
  have hH : gH g I R J AI AJ AR H := by rw [hHe]; exact hH
  have hS : va_S (gA g) s.heap H locs := by rw [hHe, hlo]; exact hS
  suffices hw : W p l e rmX7_groupsf s m ([.ref mo, .int (iI sd), .int (iI rr)] : List Value).toArray below meth c H locs 0 0 (MQ below (gQv g (fun w : gS => R = w.2.1 ∧ J = w.2.2.1 ∧ AJ = w.2.2.2.2.1 ∧ AR = w.2.2.2.2.2 ∧ (mInv g gh R (w.1) (w.2.2.2.1)) ∧ ((w.2.2.2.1) (gh 50 0) = T) ∧ (wF mo I (w.1)) ∧ (∀ b, b ≠ gh 75 0 → b ≠ gh 77 0 → (w.2.2.2.1) b = AI b) ∧ (gaR ((w.2.2.2.1) (gh 75 0)) ((w.1) mo 26).toInt.toNat (sG lc bxa na)))) ([.ref mo, .int (iI sd), .int (iI rr)] : List Value).toArray s 0 0 (gA g)) (F0 m 0 ls []) by
    rw [hHe, hlo] at hw; exact hw
  clear hHe hlo
  have wf : wF mo I I := wF_r
  have hb0 := mJ hv hm
  unfold mNum1 at hb0
  have x := mRow hv hm hT (z := rr) (by omega) (by omega)
  have xa := x.1
  have xc := x.2.2.1
  have xb := x.2.1 (by omega)
  have x7 := x.2.2.2.2.2.2.2.2.1 (by omega)
  obtain ⟨x7a, x7b, x7c⟩ := x7
  obtain ⟨hgp, ⟨hgm1, hgm2⟩, hgm3, hgm4, hgm5, hgm6, hgm7, hgm8⟩ := hgm
  have hgp1 := hgp.1
  have iX7 : ∀ w ∈ u_ws RX7 TX7 32, w ∈ tsX7_groups := fun w h => List.mem_cons_of_mem _ (inTB7 w h)
  have k24 : Cond.fieldLink RX7 24 (TX7 6).1 (TX7 6).2.1 (TX7 6).2.2.1 ∈ tsX7_groups := List.mem_cons_of_mem _ fl_24
  have k45 : Cond.fieldLink RX7 45 (TX7 27).1 (TX7 27).2.1 (TX7 27).2.2.1 ∈ tsX7_groups := List.mem_cons_of_mem _ fl_45
  refine lv_aload_n F.1 F.2.1 dX7_groups_0 rfl (lv_at hl 0 rfl) ?_
  refine lv_iload_n F.1 F.2.1 dX7_groups_1 rfl (lv_at hl 2 rfl) ?_
  have b_1 := mJ hv hm
  unfold mNum1 at b_1
  refine g_calli (g_runV (As := [.int (iI rr)]) (rest := []) (ci := 7) F hl.1 hH hS hz (c_X7_firstOf l g gh T I R J AI AJ AR mo rr zrr hv hm hT (by omega)) (cwV 1 F.2.2.2.2.1 (good_up gT_X7_firstOf) rfl rfl rfl hdX7_firstOf ⟨Nat.le_of_ble_eq_true rfl, Nat.le_of_ble_eq_true rfl⟩) hm (by decide) rfl rfl rfl (Nat.le_of_ble_eq_true rfl) dX7_groups_2 ⟨Nat.zero_le _, Nat.zero_le _⟩) hS (fun v_8 I_2 R_3 J_4 AI_5 AJ_6 AR_7 H locs zv_8 hp_9 hH hS => ?_)
  dsimp only at hp_9
  obtain ⟨rfl, rfl, rfl, rfl, rfl, rfl, qa0⟩ := hp_9
  have qa := qa0
  have hna9 : tI (AI (gh 57 0)) (16 * sd + v_8) = (na : Int) := by rw [qa]; exact hna
  have hXa9 : ∀ q : Nat, q < 720 → AI (gh 56 0) ((11520 * sd + 720 * v_8).toNat + q) = bxa q := by rw [qa]; exact hXa
  refine lv_istore_n (lv' := [(3, .int (iI v_8)), (0, .ref mo), (1, .int (iI sd)), (2, .int (iI rr))]) F.1 F.2.1 dX7_groups_5 rfl hl (by decide) rfl (fun ls hl => ?_)
  refine lv_aload_n F.1 F.2.1 dX7_groups_6 rfl (lv_at hl 1 rfl) ?_
  refine lv_iload_n F.1 F.2.1 dX7_groups_7 rfl (lv_at hl 3 rfl) ?_
  refine g_calli (g_runV (As := [.int (iI rr)]) (rest := []) (ci := 7) F hl.1 hH hS hz (c_X7_partsOf l g gh T I R J AI AJ AR mo rr zrr hv hm hT (by omega)) (cwV 1 F.2.2.2.2.1 (good_up gT_X7_partsOf) rfl rfl rfl hdX7_partsOf ⟨Nat.le_of_ble_eq_true rfl, Nat.le_of_ble_eq_true rfl⟩) hm (by decide) rfl rfl rfl (Nat.le_of_ble_eq_true rfl) dX7_groups_8 ⟨Nat.zero_le _, Nat.zero_le _⟩) hS (fun v_16 I_10 R_11 J_12 AI_13 AJ_14 AR_15 H locs zv_16 hp_17 hH hS => ?_)
  dsimp only at hp_17
  obtain ⟨rfl, rfl, rfl, rfl, rfl, rfl, qn⟩ := hp_17
  refine lv_istore (lv' := [(4, .int (iI v_16)), (3, .int (iI v_8)), (0, .ref mo), (1, .int (iI sd)), (2, .int (iI rr))]) F.1 F.2.1 dX7_groups_11 hl (by decide) rfl (fun ls hl => ?_)
  refine lv_aload_n F.1 F.2.1 dX7_groups_13 rfl (lv_at hl 2 rfl) ?_
  refine lv_iload_n F.1 F.2.1 dX7_groups_14 rfl (lv_at hl 4 rfl) ?_
  refine lv_iload F.1 F.2.1 dX7_groups_15 (lv_at hl 0 rfl) ?_
  refine z_iconst F dX7_groups_17 ?_
  refine g_calli (g_runV (As := [.int (iI rr), .int (iI v_16), .int (iI 1)]) (rest := []) (ci := 7) F hl.1 hH hS hz (c_X7_part l g gh T I R J AI AJ AR mo rr v_16 1 zrr zv_16 ⟨by decide, by decide⟩ hv hm hT (by omega) (by omega) (by omega)) (cwV 3 F.2.2.2.2.1 (good_up gT_X7_part) rfl rfl rfl hdX7_part ⟨Nat.le_of_ble_eq_true rfl, Nat.le_of_ble_eq_true rfl⟩) hm (by decide) rfl rfl rfl (Nat.le_of_ble_eq_true rfl) dX7_groups_18 ⟨Nat.zero_le _, Nat.zero_le _⟩) hS (fun v_24 I_18 R_19 J_20 AI_21 AJ_22 AR_23 H locs zv_24 hp_25 hH hS => ?_)
  dsimp only at hp_25
  obtain ⟨rfl, rfl, rfl, rfl, rfl, rfl, q18⟩ := hp_25
  have hfo : v_24 = lc.1 9 := by rw [q18, qn, hgp1]; exact hgm1
  refine lv_istore (lv' := [(5, .int (iI v_24)), (4, .int (iI v_16)), (3, .int (iI v_8)), (0, .ref mo), (1, .int (iI sd)), (2, .int (iI rr))]) F.1 F.2.1 dX7_groups_21 hl (by decide) rfl (fun ls hl => ?_)
  refine lv_aload_n F.1 F.2.1 dX7_groups_23 rfl (lv_at hl 3 rfl) ?_
  refine lv_iload_n F.1 F.2.1 dX7_groups_24 rfl (lv_at hl 5 rfl) ?_
  refine lv_iload F.1 F.2.1 dX7_groups_25 (lv_at hl 1 rfl) ?_
  refine z_iconst F dX7_groups_27 ?_
  refine g_calli (g_runV (As := [.int (iI rr), .int (iI v_16), .int (iI 0)]) (rest := []) (ci := 7) F hl.1 hH hS hz (c_X7_part l g gh T I R J AI AJ AR mo rr v_16 0 zrr zv_16 ⟨by decide, by decide⟩ hv hm hT (by omega) (by omega) (by omega)) (cwV 3 F.2.2.2.2.1 (good_up gT_X7_part) rfl rfl rfl hdX7_part ⟨Nat.le_of_ble_eq_true rfl, Nat.le_of_ble_eq_true rfl⟩) hm (by decide) rfl rfl rfl (Nat.le_of_ble_eq_true rfl) dX7_groups_28 ⟨Nat.zero_le _, Nat.zero_le _⟩) hS (fun v_32 I_26 R_27 J_28 AI_29 AJ_30 AR_31 H locs zv_32 hp_33 hH hS => ?_)
  dsimp only at hp_33
  obtain ⟨rfl, rfl, rfl, rfl, rfl, rfl, qc⟩ := hp_33
  have hc : 0 ≤ v_32 ∧ v_32 ≤ 3 := by rw [qc]; rw [qn]; exact x7c
  have hco : v_32 = lc.1 10 := by rw [qc, qn, hgp1]; exact hgm2
  refine lv_istore (lv' := [(6, .int (iI v_32)), (5, .int (iI v_24)), (4, .int (iI v_16)), (3, .int (iI v_8)), (0, .ref mo), (1, .int (iI sd)), (2, .int (iI rr))]) F.1 F.2.1 dX7_groups_31 hl (by decide) rfl (fun ls hl => ?_)
  refine z_iconst F dX7_groups_33 ?_
  refine lv_istore (lv' := [(7, .int (iI 0)), (6, .int (iI v_32)), (5, .int (iI v_24)), (4, .int (iI v_16)), (3, .int (iI v_8)), (0, .ref mo), (1, .int (iI sd)), (2, .int (iI rr))]) F.1 F.2.1 dX7_groups_34 hl (by decide) rfl (fun ls hl => ?_)
  have cut_36_35 : ∀ (NN : Nat) (i : Int) (I_34 : gI) (AI_35 : gI) (H : Heap) (locs : List Loc) (ls : Array Slot), zr i → (mInv g gh R I_34 AI_35) → (AI_35 (gh 50 0) = T) → (wF mo I I_34) → (0 ≤ i ∧ i ≤ 120 ∧ (I_34 mo 26).toInt ≤ i) → (∀ b, b ≠ gh 75 0 → b ≠ gh 77 0 → AI_35 b = AI b) → (grM lc bxa na i.toNat (AI_35 (gh 75 0)) (I_34 mo 26).toInt.toNat) → (i ≤ (na : Int)) → (120 - i) < ((NN : Nat) : Int) → gH g I_34 R J AI_35 AJ AR H → va_S (gA g) s.heap H locs → lv_has ls 15 [(7, .int (iI i)), (6, .int (iI v_32)), (5, .int (iI v_24)), (4, .int (iI v_16)), (3, .int (iI v_8)), (0, .ref mo), (1, .int (iI sd)), (2, .int (iI rr))] → W p l e rmX7_groupsf s m ([.ref mo, .int (iI sd), .int (iI rr)] : List Value).toArray below meth c H locs 0 0 (MQ below (gQv g (fun w : gS => R = w.2.1 ∧ J = w.2.2.1 ∧ AJ = w.2.2.2.2.1 ∧ AR = w.2.2.2.2.2 ∧ (mInv g gh R (w.1) (w.2.2.2.1)) ∧ ((w.2.2.2.1) (gh 50 0) = T) ∧ (wF mo I (w.1)) ∧ (∀ b, b ≠ gh 75 0 → b ≠ gh 77 0 → (w.2.2.2.1) b = AI b) ∧ (gaR ((w.2.2.2.1) (gh 75 0)) ((w.1) mo 26).toInt.toNat (sG lc bxa na)))) ([.ref mo, .int (iI sd), .int (iI rr)] : List Value).toArray s 0 0 (gA g)) (F0 m 36 ls []) := by
    intro NN36
    induction NN36 with
    | zero =>
      intro i I_34 AI_35 H locs ls zi hv hT wf hi fW hgr hin hm36 hH hS hl
      exact absurd hm36 (by omega)
    | succ NN36 ih36 =>
      intro i I_34 AI_35 H locs ls zi hv hT wf hi fW hgr hin hm36 hH hS hl
      have uc_2 : (I_34 mo 2).toInt = (I mo 2).toInt := by rw [wf 2 (by decide)]
      have uc_5 : (I_34 mo 5).toInt = (I mo 5).toInt := by rw [wf 5 (by decide)]
      have uc_14 : (I_34 mo 14).toInt = (I mo 14).toInt := by rw [wf 14 (by decide)]
      have uc_16 : (I_34 mo 16).toInt = (I mo 16).toInt := by rw [wf 16 (by decide)]
      have uc_24 : (I_34 mo 24).toInt = (I mo 24).toInt := by rw [wf 24 (by decide)]
      have h56 : AI_35 (gh 56 0) = AI (gh 56 0) := fW _ (show gh 56 0 ≠ gh 75 0 from mNe hv hm (p := (6, 126720)) (q := (25, 9600)) (by decide) (by decide) (by decide)) (show gh 56 0 ≠ gh 77 0 from mNe hv hm (p := (6, 126720)) (q := (27, 4)) (by decide) (by decide) (by decide))
      have h57 : AI_35 (gh 57 0) = AI (gh 57 0) := fW _ (show gh 57 0 ≠ gh 75 0 from mNe hv hm (p := (7, 176)) (q := (25, 9600)) (by decide) (by decide) (by decide)) (show gh 57 0 ≠ gh 77 0 from mNe hv hm (p := (7, 176)) (q := (27, 4)) (by decide) (by decide) (by decide))
      refine lv_iload F.1 F.2.1 dX7_groups_36 (lv_at hl 0 rfl) ?_
      refine lv_aload_n F.1 F.2.1 dX7_groups_38 rfl (lv_at hl 5 rfl) ?_
      refine lv_iload_n F.1 F.2.1 dX7_groups_39 rfl (lv_at hl 6 rfl) ?_
      refine lv_iload_n F.1 F.2.1 dX7_groups_40 rfl (lv_at hl 4 rfl) ?_
      have b_37 := mJ hv hm
      unfold mNum1 at b_37
      refine g_calli (g_runV (As := [.int (iI sd), .int (iI v_8)]) (rest := [.int (iI i)]) (ci := 7) F hl.1 hH hS hz (c_X7_sizeOf l g gh T I_34 R J AI_35 AJ AR mo sd v_8 zsd zv_8 hv hm hT (by omega) (by omega)) (cwV 2 F.2.2.2.2.1 (good_up gT_X7_sizeOf) rfl rfl rfl hdX7_sizeOf ⟨Nat.le_of_ble_eq_true rfl, Nat.le_of_ble_eq_true rfl⟩) hm (by decide) rfl rfl rfl (Nat.le_of_ble_eq_true rfl) dX7_groups_41 ⟨Nat.zero_le _, Nat.zero_le _⟩) hS (fun v_44 I_38 R_39 J_40 AI_41 AJ_42 AR_43 H locs zv_44 hp_45 hH hS => ?_)
      dsimp only at hp_45
      obtain ⟨rfl, rfl, rfl, rfl, rfl, rfl, q_46, qz41⟩ := hp_45
      have hsqz41 : v_44 = (na : Int) := by rw [qz41, h57]; exact hna9
      refine z_icmp_ge (tgt := 304) F dX7_groups_44 (by decide) zi zv_44 (fun c_47 => ?_) (fun c_47 => ?_)
      · exact g_vret F hr hlk hH hS hz ⟨rfl, rfl, rfl, rfl, hv, hT, wf, fW, by rw [show i.toNat = na by omega] at hgr; exact grM_e hgr⟩ dX7_groups_304
      · refine lv_iload_n F.1 F.2.1 dX7_groups_47 rfl (lv_at hl 6 rfl) ?_
        refine lv_iload_n F.1 F.2.1 dX7_groups_48 rfl (lv_at hl 4 rfl) ?_
        refine lv_iload F.1 F.2.1 dX7_groups_49 (lv_at hl 0 rfl) ?_
        refine g_calli (g_runS (As := [.int (iI sd), .int (iI v_8), .int (iI i)]) (rest := []) F hl.1 hH hS hz (c_X7_spot l g  I_34 R J AI_35 AJ AR sd v_8 i zsd zv_8 zi (by omega) (by omega) (by omega)) (va_cwS 3 F.2.2.2.2.1 (good_up gT_X7_spot) rfl rfl rfl hdX7_spot.2 ⟨Nat.le_of_ble_eq_true rfl, Nat.le_of_ble_eq_true rfl⟩) rfl rfl (Nat.le_of_ble_eq_true rfl) dX7_groups_51 ⟨Nat.zero_le _, Nat.zero_le _⟩) hS (fun v_54 I_48 R_49 J_50 AI_51 AJ_52 AR_53 H locs zv_54 hp_55 hH hS => ?_)
        dsimp only at hp_55
        obtain ⟨rfl, rfl, rfl, rfl, rfl, rfl, q_56⟩ := hp_55
        refine lv_istore (lv' := [(8, .int (iI v_54)), (7, .int (iI i)), (6, .int (iI v_32)), (5, .int (iI v_24)), (4, .int (iI v_16)), (3, .int (iI v_8)), (0, .ref mo), (1, .int (iI sd)), (2, .int (iI rr))]) F.1 F.2.1 dX7_groups_54 hl (by decide) rfl (fun ls hl => ?_)
        refine lv_aload_n F.1 F.2.1 dX7_groups_56 rfl (lv_at hl 6 rfl) ?_
        refine lv_iload_n F.1 F.2.1 dX7_groups_57 rfl (lv_at hl 7 rfl) ?_
        refine lv_iload_n F.1 F.2.1 dX7_groups_58 rfl (lv_at hl 8 rfl) ?_
        refine lv_iload F.1 F.2.1 dX7_groups_59 (lv_at hl 1 rfl) ?_
        refine g_calli (g_runV (As := [.int (iI sd), .int (iI rr), .int (iI i)]) (rest := []) (ci := 7) F hl.1 hH hS hz (c_X7_isFirstOfGroupf l g gh T lc bxa I_34 R J AI_35 AJ AR mo sd rr i zsd zrr zi hv hm hT (by omega) (by omega) (by omega) (by omega) hgp (fun q hq => by rw [h56]; exact hXa q hq)) (cwV 3 F.2.2.2.2.1 (good_up gT_X7_isFirstOfGroup) rfl rfl rfl hdX7_isFirstOfGroup ⟨Nat.le_of_ble_eq_true rfl, Nat.le_of_ble_eq_true rfl⟩) hm (by decide) rfl rfl rfl (Nat.le_of_ble_eq_true rfl) dX7_groups_61 ⟨Nat.zero_le _, Nat.zero_le _⟩) hS (fun v_63 I_57 R_58 J_59 AI_60 AJ_61 AR_62 H locs zv_63 hp_64 hH hS => ?_)
        dsimp only at hp_64
        obtain ⟨rfl, rfl, rfl, rfl, rfl, rfl, q_65, qfo⟩ := hp_64
        have qfo : tIz v_63 (∀ j : Nat, (j : Int) < ((i.toNat : Nat) : Int) → gk lc (tup bxa j) ≠ gk lc (tup bxa i.toNat)) := by rw [show ((i.toNat : Nat) : Int) = i by omega]; exact qfo
        refine z_if_ne (tgt := 70) F dX7_groups_64 (by decide) zv_63 (fun c_66 => ?_) (fun c_66 => ?_)
        · refine z_iconst F dX7_groups_70 ?_
          refine lv_istore (lv' := [(9, .int (iI 0)), (8, .int (iI v_54)), (7, .int (iI i)), (6, .int (iI v_32)), (5, .int (iI v_24)), (4, .int (iI v_16)), (3, .int (iI v_8)), (0, .ref mo), (1, .int (iI sd)), (2, .int (iI rr))]) F.1 F.2.1 dX7_groups_71 hl (by decide) rfl (fun ls hl => ?_)
          refine z_iconst F dX7_groups_73 ?_
          refine lv_istore (lv' := [(10, .int (iI 0)), (9, .int (iI 0)), (8, .int (iI v_54)), (7, .int (iI i)), (6, .int (iI v_32)), (5, .int (iI v_24)), (4, .int (iI v_16)), (3, .int (iI v_8)), (0, .ref mo), (1, .int (iI sd)), (2, .int (iI rr))]) F.1 F.2.1 dX7_groups_74 hl (by decide) rfl (fun ls hl => ?_)
          refine lv_iload F.1 F.2.1 dX7_groups_76 (lv_at hl 3 rfl) ?_
          refine lv_istore (lv' := [(11, .int (iI i)), (10, .int (iI 0)), (9, .int (iI 0)), (8, .int (iI v_54)), (7, .int (iI i)), (6, .int (iI v_32)), (5, .int (iI v_24)), (4, .int (iI v_16)), (3, .int (iI v_8)), (0, .ref mo), (1, .int (iI sd)), (2, .int (iI rr))]) F.1 F.2.1 dX7_groups_78 hl (by decide) rfl (fun ls hl => ?_)
          have cut_80_66 : ∀ (NN : Nat) (su hs1 jj : Int) (H : Heap) (locs : List Loc) (ls : Array Slot), zr su → zr hs1 → zr jj → (0 ≤ jj ∧ jj ≤ 120) → (gfI lc bxa (gk lc (tup bxa i.toNat)) jj.toNat hs1 su) → (i ≤ jj ∧ jj ≤ (na : Int)) → (120 - jj) < ((NN : Nat) : Int) → gH g I_34 R J AI_35 AJ AR H → va_S (gA g) s.heap H locs → lv_has ls 15 [(11, .int (iI jj)), (10, .int (iI hs1)), (9, .int (iI su)), (8, .int (iI v_54)), (7, .int (iI i)), (6, .int (iI v_32)), (5, .int (iI v_24)), (4, .int (iI v_16)), (3, .int (iI v_8)), (0, .ref mo), (1, .int (iI sd)), (2, .int (iI rr))] → W p l e rmX7_groupsf s m ([.ref mo, .int (iI sd), .int (iI rr)] : List Value).toArray below meth c H locs 0 0 (MQ below (gQv g (fun w : gS => R = w.2.1 ∧ J = w.2.2.1 ∧ AJ = w.2.2.2.2.1 ∧ AR = w.2.2.2.2.2 ∧ (mInv g gh R (w.1) (w.2.2.2.1)) ∧ ((w.2.2.2.1) (gh 50 0) = T) ∧ (wF mo I (w.1)) ∧ (∀ b, b ≠ gh 75 0 → b ≠ gh 77 0 → (w.2.2.2.1) b = AI b) ∧ (gaR ((w.2.2.2.1) (gh 75 0)) ((w.1) mo 26).toInt.toNat (sG lc bxa na)))) ([.ref mo, .int (iI sd), .int (iI rr)] : List Value).toArray s 0 0 (gA g)) (F0 m 80 ls []) := by
            intro NN80
            induction NN80 with
            | zero =>
              intro su hs1 jj H locs ls zsu zhs1 zjj hj hgi hjn hm80 hH hS hl
              exact absurd hm80 (by omega)
            | succ NN80 ih80 =>
              intro su hs1 jj H locs ls zsu zhs1 zjj hj hgi hjn hm80 hH hS hl
              refine lv_iload F.1 F.2.1 dX7_groups_80 (lv_at hl 0 rfl) ?_
              refine lv_aload_n F.1 F.2.1 dX7_groups_82 rfl (lv_at hl 9 rfl) ?_
              refine lv_iload_n F.1 F.2.1 dX7_groups_83 rfl (lv_at hl 10 rfl) ?_
              refine lv_iload_n F.1 F.2.1 dX7_groups_84 rfl (lv_at hl 8 rfl) ?_
              refine g_calli (g_runV (As := [.int (iI sd), .int (iI v_8)]) (rest := [.int (iI jj)]) (ci := 7) F hl.1 hH hS hz (c_X7_sizeOf l g gh T I_34 R J AI_35 AJ AR mo sd v_8 zsd zv_8 hv hm hT (by omega) (by omega)) (cwV 2 F.2.2.2.2.1 (good_up gT_X7_sizeOf) rfl rfl rfl hdX7_sizeOf ⟨Nat.le_of_ble_eq_true rfl, Nat.le_of_ble_eq_true rfl⟩) hm (by decide) rfl rfl rfl (Nat.le_of_ble_eq_true rfl) dX7_groups_85 ⟨Nat.zero_le _, Nat.zero_le _⟩) hS (fun v_74 I_68 R_69 J_70 AI_71 AJ_72 AR_73 H locs zv_74 hp_75 hH hS => ?_)
              dsimp only at hp_75
              obtain ⟨rfl, rfl, rfl, rfl, rfl, rfl, q_76, qz85⟩ := hp_75
              have hsqz85 : v_74 = (na : Int) := by rw [qz85, h57]; exact hna9
              refine z_icmp_ge (tgt := 221) F dX7_groups_88 (by decide) zjj zv_74 (fun c_77 => ?_) (fun c_77 => ?_)
              · have hgv : (gF lc bxa (gk lc (tup bxa i.toNat)) na).2 = iI su := by rw [← show jj.toNat = na by omega, hgi.1]
                refine z_iconst F dX7_groups_221 ?_
                refine lv_istore (lv' := [(11, .int (iI 0)), (10, .int (iI hs1)), (9, .int (iI su)), (8, .int (iI v_54)), (7, .int (iI i)), (6, .int (iI v_32)), (5, .int (iI v_24)), (4, .int (iI v_16)), (3, .int (iI v_8)), (0, .ref mo), (1, .int (iI sd)), (2, .int (iI rr))]) F.1 F.2.1 dX7_groups_222 hl (by decide) rfl (fun ls hl => ?_)
                have cut_224_78 : ∀ (NN : Nat) (k : Int) (AI_78 : gI) (H : Heap) (locs : List Loc) (ls : Array Slot), zr k → (mInv g gh R I_34 AI_78) → (AI_78 (gh 50 0) = T) → (0 ≤ k ∧ k ≤ 4) → (∀ b, b ≠ gh 75 0 → b ≠ gh 77 0 → AI_78 b = AI b) → (grM lc bxa na i.toNat (AI_78 (gh 75 0)) (I_34 mo 26).toInt.toNat) → (∀ j : Nat, (j : Int) < k → AI_78 (gh 77 0) j = tg (gTp lc bxa na (gk lc (tup bxa i.toNat))) j) → (4 - k) < ((NN : Nat) : Int) → gH g I_34 R J AI_78 AJ AR H → va_S (gA g) s.heap H locs → lv_has ls 15 [(11, .int (iI k)), (10, .int (iI hs1)), (9, .int (iI su)), (8, .int (iI v_54)), (7, .int (iI i)), (6, .int (iI v_32)), (5, .int (iI v_24)), (4, .int (iI v_16)), (3, .int (iI v_8)), (0, .ref mo), (1, .int (iI sd)), (2, .int (iI rr))] → W p l e rmX7_groupsf s m ([.ref mo, .int (iI sd), .int (iI rr)] : List Value).toArray below meth c H locs 0 0 (MQ below (gQv g (fun w : gS => R = w.2.1 ∧ J = w.2.2.1 ∧ AJ = w.2.2.2.2.1 ∧ AR = w.2.2.2.2.2 ∧ (mInv g gh R (w.1) (w.2.2.2.1)) ∧ ((w.2.2.2.1) (gh 50 0) = T) ∧ (wF mo I (w.1)) ∧ (∀ b, b ≠ gh 75 0 → b ≠ gh 77 0 → (w.2.2.2.1) b = AI b) ∧ (gaR ((w.2.2.2.1) (gh 75 0)) ((w.1) mo 26).toInt.toNat (sG lc bxa na)))) ([.ref mo, .int (iI sd), .int (iI rr)] : List Value).toArray s 0 0 (gA g)) (F0 m 224 ls []) := by
                  intro NN224
                  induction NN224 with
                  | zero =>
                    intro k AI_78 H locs ls zk hv hT hk1 fW hgr hgt hm224 hH hS hl
                    exact absurd hm224 (by omega)
                  | succ NN224 ih224 =>
                    intro k AI_78 H locs ls zk hv hT hk1 fW hgr hgt hm224 hH hS hl
                    have h56 : AI_78 (gh 56 0) = AI (gh 56 0) := fW _ (show gh 56 0 ≠ gh 75 0 from mNe hv hm (p := (6, 126720)) (q := (25, 9600)) (by decide) (by decide) (by decide)) (show gh 56 0 ≠ gh 77 0 from mNe hv hm (p := (6, 126720)) (q := (27, 4)) (by decide) (by decide) (by decide))
                    have h57 : AI_78 (gh 57 0) = AI (gh 57 0) := fW _ (show gh 57 0 ≠ gh 75 0 from mNe hv hm (p := (7, 176)) (q := (25, 9600)) (by decide) (by decide) (by decide)) (show gh 57 0 ≠ gh 77 0 from mNe hv hm (p := (7, 176)) (q := (27, 4)) (by decide) (by decide) (by decide))
                    refine lv_iload F.1 F.2.1 dX7_groups_224 (lv_at hl 0 rfl) ?_
                    refine z_iconst F dX7_groups_226 ?_
                    refine z_icmp_ge (tgt := 282) F dX7_groups_227 (by decide) zk ⟨by decide, by decide⟩ (fun c_80 => ?_) (fun c_80 => ?_)
                    · refine lv_aload_n F.1 F.2.1 dX7_groups_282 rfl (lv_at hl 9 rfl) ?_
                      refine z_iconst F dX7_groups_283 ?_
                      refine z_iconst F dX7_groups_284 ?_
                      refine g_calli (g_runV (As := [.int (iI 1), .int (iI 0)]) (rest := []) (ci := 7) F hl.1 hH hS hz (c_X7_gathersf l g gh T ((I_34 mo 26).toInt.toNat) (gPM lc bxa na i.toNat) (fun _ => 1) zM (gTp lc bxa na (gk lc (tup bxa i.toNat))) I_34 R J AI_78 AJ AR mo 1 0 ⟨by decide, by decide⟩ ⟨by decide, by decide⟩ hv hm hT (by omega) hgr (by omega) (fun j hj => hgt j (by omega))) (cwV 2 F.2.2.2.2.1 (good_up gT_X7_gathers) rfl rfl rfl hdX7_gathers ⟨Nat.le_of_ble_eq_true rfl, Nat.le_of_ble_eq_true rfl⟩) hm (by decide) rfl rfl rfl (Nat.le_of_ble_eq_true rfl) dX7_groups_285 ⟨Nat.zero_le _, Nat.zero_le _⟩) hS (fun v_87 I_81 R_82 J_83 AI_84 AJ_85 AR_86 H locs zv_87 hp_88 hH hS => ?_)
                      dsimp only at hp_88
                      obtain ⟨rfl, rfl, rfl, rfl, hv, hT, wfq, q_89, qga, fWq⟩ := hp_88
                      have wf := wF_t wf wfq
                      have u_90_2 : (I_81 mo 2).toInt = (I mo 2).toInt := by rw [wf 2 (by decide)]
                      have u_90_5 : (I_81 mo 5).toInt = (I mo 5).toInt := by rw [wf 5 (by decide)]
                      have u_90_14 : (I_81 mo 14).toInt = (I mo 14).toInt := by rw [wf 14 (by decide)]
                      have u_90_16 : (I_81 mo 16).toInt = (I mo 16).toInt := by rw [wf 16 (by decide)]
                      have u_90_24 : (I_81 mo 24).toInt = (I mo 24).toInt := by rw [wf 24 (by decide)]
                      have hgr9 := grM_s (by omega) (tIz_1 qfo (by omega)) qga
                      clear qga
                      have fW : ∀ b, b ≠ gh 75 0 → b ≠ gh 77 0 → AI_84 b = AI b := fun b h1 h2 => (fWq b h1).trans (fW b h1 h2)
                      refine lv_istore (lv' := [(11, .int (iI v_87)), (10, .int (iI hs1)), (9, .int (iI su)), (8, .int (iI v_54)), (7, .int (iI i)), (6, .int (iI v_32)), (5, .int (iI v_24)), (4, .int (iI v_16)), (3, .int (iI v_8)), (0, .ref mo), (1, .int (iI sd)), (2, .int (iI rr))]) F.1 F.2.1 dX7_groups_288 hl (by decide) rfl (fun ls hl => ?_)
                      refine lv_iload F.1 F.2.1 dX7_groups_290 (lv_at hl 0 rfl) ?_
                      refine z_if_ne (tgt := 298) F dX7_groups_292 (by decide) zv_87 (fun c_91 => ?_) (fun c_91 => ?_)
                      · rw [show i.toNat + 1 = (i + 1).toNat by omega] at hgr9
                        refine z_iinc (lv' := [(7, .int (iI (i + 1))), (11, .int (iI v_87)), (10, .int (iI hs1)), (9, .int (iI su)), (8, .int (iI v_54)), (6, .int (iI v_32)), (5, .int (iI v_24)), (4, .int (iI v_16)), (3, .int (iI v_8)), (0, .ref mo), (1, .int (iI sd)), (2, .int (iI rr))]) F dX7_groups_298 hl (k := 4) rfl (by decide) rfl (fun ls hl => ?_)
                        refine z_goto (tgt := 36) F dX7_groups_301 (by decide) ?_
                        exact ih36 (i + 1) I_81 AI_84 H locs ls ⟨by omega, by omega⟩ hv hT wf (by omega) fW hgr9 (by omega) (by omega) hH hS (lv_sub hl [0, 5, 6, 7, 8, 9, 10, 11] rfl)
                      · refine z_iconst F dX7_groups_295 ?_
                        refine lv_istore (lv' := [(9, .int (iI 0)), (11, .int (iI v_87)), (10, .int (iI hs1)), (8, .int (iI v_54)), (7, .int (iI i)), (6, .int (iI v_32)), (5, .int (iI v_24)), (4, .int (iI v_16)), (3, .int (iI v_8)), (0, .ref mo), (1, .int (iI sd)), (2, .int (iI rr))]) F.1 F.2.1 dX7_groups_296 hl (by decide) rfl (fun ls hl => ?_)
                        rw [show i.toNat + 1 = (i + 1).toNat by omega] at hgr9
                        refine z_iinc (lv' := [(7, .int (iI (i + 1))), (9, .int (iI 0)), (11, .int (iI v_87)), (10, .int (iI hs1)), (8, .int (iI v_54)), (6, .int (iI v_32)), (5, .int (iI v_24)), (4, .int (iI v_16)), (3, .int (iI v_8)), (0, .ref mo), (1, .int (iI sd)), (2, .int (iI rr))]) F dX7_groups_298 hl (k := 4) rfl (by decide) rfl (fun ls hl => ?_)
                        refine z_goto (tgt := 36) F dX7_groups_301 (by decide) ?_
                        exact ih36 (i + 1) I_81 AI_84 H locs ls ⟨by omega, by omega⟩ hv hT wf (by omega) fW hgr9 (by omega) (by omega) hH hS (lv_sub hl [0, 5, 6, 7, 8, 9, 10, 11] rfl)
                    · refine lv_aload_n F.1 F.2.1 dX7_groups_230 rfl (lv_at hl 9 rfl) ?_
                      obtain ⟨r_92a, r_92b⟩ : R mo 27 = some (gh 77 0) ∧ gAr g (gh 77 0) 9 4 := mR hv hm (q := (27, 4)) (by decide)
                      refine g_getR (ci := 7) (k := 27) F hH rfl (by decide) iX7 hm (by decide) rfl (b := gh 77 0) r_92a k45 dX7_groups_231 ?_
                      refine lv_iload F.1 F.2.1 dX7_groups_234 (lv_at hl 0 rfl) ?_
                      refine lv_iload F.1 F.2.1 dX7_groups_236 (lv_at hl 0 rfl) ?_
                      refine lv_iload F.1 F.2.1 dX7_groups_238 (lv_at hl 7 rfl) ?_
                      refine z_icmp_ge (tgt := 262) F dX7_groups_240 (by decide) zk zv_16 (fun c_93 => ?_) (fun c_93 => ?_)
                      · refine lv_iload F.1 F.2.1 dX7_groups_262 (lv_at hl 0 rfl) ?_
                        refine lv_iload F.1 F.2.1 dX7_groups_264 (lv_at hl 7 rfl) ?_
                        refine z_icmp_ne (tgt := 274) F dX7_groups_266 (by decide) zk zv_16 (fun c_94 => ?_) (fun c_94 => ?_)
                        · refine z_iconst F dX7_groups_274 ?_
                          have hx275 : 0 ≤ k ∧ k < ((4 : Nat) : Int) ∧ k ≤ 2147483647 := ⟨by omega, by omega, by omega⟩
                          refine g_iast F hH hS r_92b hx275.1 hx275.2.1 hx275.2.2 dX7_groups_275 (fun H locs hH hS => ?_)
                          obtain ⟨AI_95, eAI_95⟩ : ∃ qQ, qQ = gup2 AI_78 (gh 77 0) (k).toNat (iI (0)) := ⟨_, rfl⟩
                          rw [← eAI_95] at hH
                          have kAI_95 : ∀ b, b ≠ (gh 77 0) → AI_95 b = AI_78 b := fun b hb => by rw [eAI_95]; exact funext fun j => gup2_a _ _ hb
                          have hvO := hv
                          have t_96 : AI_95 (gh 50 0) = AI_78 (gh 50 0) := mK hv hm (p := (0, 640)) (q := (27, 4)) (by decide) (by decide) (by decide) kAI_95
                          have hv : mInv g gh R I_34 AI_95 := mInv_a hv hm (q := (27, 4)) (by decide) (by decide) kAI_95
                          have hT : AI_95 (gh 50 0) = T := t_96.trans hT
                          have hgt : ∀ j : Nat, (j : Int) < k + 1 → AI_95 (gh 77 0) j = tg (gTp lc bxa na (gk lc (tup bxa i.toNat))) j := fun j hj => by
                            by_cases e9 : (j : Int) = k
                            · rw [eAI_95, gup2_e _ _ (by omega)]; symm; exact by rw [gTp_r (by omega) (by omega) (by omega)]; rfl
                            · rw [eAI_95, gup2_k _ _ (by omega)]; exact hgt j (by omega)
                          have hgr : grM lc bxa na i.toNat (AI_95 (gh 75 0)) (I_34 mo 26).toInt.toNat := by rw [kAI_95 _ (show gh 75 0 ≠ gh 77 0 from mNe hv hm (p := (25, 9600)) (q := (27, 4)) (by decide) (by decide) (by decide))]; exact hgr
                          have fW : ∀ b, b ≠ gh 75 0 → b ≠ gh 77 0 → AI_95 b = AI b := fun b h1 h2 => (kAI_95 b h2).trans (fW b h1 h2)
                          refine z_iinc (lv' := [(11, .int (iI (k + 1))), (10, .int (iI hs1)), (9, .int (iI su)), (8, .int (iI v_54)), (7, .int (iI i)), (6, .int (iI v_32)), (5, .int (iI v_24)), (4, .int (iI v_16)), (3, .int (iI v_8)), (0, .ref mo), (1, .int (iI sd)), (2, .int (iI rr))]) F dX7_groups_276 hl (k := 0) rfl (by decide) rfl (fun ls hl => ?_)
                          refine z_goto (tgt := 224) F dX7_groups_279 (by decide) ?_
                          exact ih224 (k + 1) AI_95 H locs ls ⟨by omega, by omega⟩ hv hT (by omega) fW hgr hgt (by omega) hH hS (lv_sub hl [0, 1, 2, 3, 4, 5, 6, 7, 8, 9, 10, 11] rfl)
                        · refine lv_iload F.1 F.2.1 dX7_groups_269 (lv_at hl 2 rfl) ?_
                          refine z_goto (tgt := 275) F dX7_groups_271 (by decide) ?_
                          have hx275 : 0 ≤ k ∧ k < ((4 : Nat) : Int) ∧ k ≤ 2147483647 := ⟨by omega, by omega, by omega⟩
                          refine g_iast F hH hS r_92b hx275.1 hx275.2.1 hx275.2.2 dX7_groups_275 (fun H locs hH hS => ?_)
                          obtain ⟨AI_97, eAI_97⟩ : ∃ qQ, qQ = gup2 AI_78 (gh 77 0) (k).toNat (iI (su)) := ⟨_, rfl⟩
                          rw [← eAI_97] at hH
                          have kAI_97 : ∀ b, b ≠ (gh 77 0) → AI_97 b = AI_78 b := fun b hb => by rw [eAI_97]; exact funext fun j => gup2_a _ _ hb
                          have hvO := hv
                          have t_98 : AI_97 (gh 50 0) = AI_78 (gh 50 0) := mK hv hm (p := (0, 640)) (q := (27, 4)) (by decide) (by decide) (by decide) kAI_97
                          have hv : mInv g gh R I_34 AI_97 := mInv_a hv hm (q := (27, 4)) (by decide) (by decide) kAI_97
                          have hT : AI_97 (gh 50 0) = T := t_98.trans hT
                          have hgt : ∀ j : Nat, (j : Int) < k + 1 → AI_97 (gh 77 0) j = tg (gTp lc bxa na (gk lc (tup bxa i.toNat))) j := fun j hj => by
                            by_cases e9 : (j : Int) = k
                            · rw [eAI_97, gup2_e _ _ (by omega)]; symm; exact by rw [gTp_m (by omega) (by omega), hgv]
                            · rw [eAI_97, gup2_k _ _ (by omega)]; exact hgt j (by omega)
                          have hgr : grM lc bxa na i.toNat (AI_97 (gh 75 0)) (I_34 mo 26).toInt.toNat := by rw [kAI_97 _ (show gh 75 0 ≠ gh 77 0 from mNe hv hm (p := (25, 9600)) (q := (27, 4)) (by decide) (by decide) (by decide))]; exact hgr
                          have fW : ∀ b, b ≠ gh 75 0 → b ≠ gh 77 0 → AI_97 b = AI b := fun b h1 h2 => (kAI_97 b h2).trans (fW b h1 h2)
                          refine z_iinc (lv' := [(11, .int (iI (k + 1))), (10, .int (iI hs1)), (9, .int (iI su)), (8, .int (iI v_54)), (7, .int (iI i)), (6, .int (iI v_32)), (5, .int (iI v_24)), (4, .int (iI v_16)), (3, .int (iI v_8)), (0, .ref mo), (1, .int (iI sd)), (2, .int (iI rr))]) F dX7_groups_276 hl (k := 0) rfl (by decide) rfl (fun ls hl => ?_)
                          refine z_goto (tgt := 224) F dX7_groups_279 (by decide) ?_
                          exact ih224 (k + 1) AI_97 H locs ls ⟨by omega, by omega⟩ hv hT (by omega) fW hgr hgt (by omega) hH hS (lv_sub hl [0, 1, 2, 3, 4, 5, 6, 7, 8, 9, 10, 11] rfl)
                      · have q1 := x7b k (by omega) (by omega)
                        have hpk := gpM_at hgp (k := k) (by omega) (by omega)
                        refine lv_aload_n F.1 F.2.1 dX7_groups_243 rfl (lv_at hl 9 rfl) ?_
                        obtain ⟨r_99a, r_99b⟩ : R mo 6 = some (gh 56 0) ∧ gAr g (gh 56 0) 9 126720 := mR hv hm (q := (6, 126720)) (by decide)
                        refine g_getR (ci := 7) (k := 6) F hH rfl (by decide) iX7 hm (by decide) rfl (b := gh 56 0) r_99a k24 dX7_groups_244 ?_
                        refine lv_iload F.1 F.2.1 dX7_groups_247 (lv_at hl 3 rfl) ?_
                        refine lv_aload_n F.1 F.2.1 dX7_groups_249 rfl (lv_at hl 9 rfl) ?_
                        refine lv_iload_n F.1 F.2.1 dX7_groups_250 rfl (lv_at hl 11 rfl) ?_
                        refine lv_iload F.1 F.2.1 dX7_groups_251 (lv_at hl 0 rfl) ?_
                        refine z_iconst F dX7_groups_253 ?_
                        refine g_calli (g_runV (As := [.int (iI rr), .int (iI k), .int (iI 0)]) (rest := [.int (iI v_54), .ref (gh 56 0), .int (iI k), .ref (gh 77 0)]) (ci := 7) F hl.1 hH hS hz (c_X7_part l g gh T I_34 R J AI_78 AJ AR mo rr k 0 zrr zk ⟨by decide, by decide⟩ hv hm hT (by omega) (by omega) (by omega)) (cwV 3 F.2.2.2.2.1 (good_up gT_X7_part) rfl rfl rfl hdX7_part ⟨Nat.le_of_ble_eq_true rfl, Nat.le_of_ble_eq_true rfl⟩) hm (by decide) rfl rfl rfl (Nat.le_of_ble_eq_true rfl) dX7_groups_254 ⟨Nat.zero_le _, Nat.zero_le _⟩) hS (fun v_106 I_100 R_101 J_102 AI_103 AJ_104 AR_105 H locs zv_106 hp_107 hH hS => ?_)
                        dsimp only at hp_107
                        obtain ⟨rfl, rfl, rfl, rfl, rfl, rfl, qp0⟩ := hp_107
                        refine z_iadd F dX7_groups_257 ?_
                        have hx258 : 0 ≤ (v_54 + v_106) ∧ (v_54 + v_106) < ((126720 : Nat) : Int) ∧ (v_54 + v_106) ≤ 2147483647 := ⟨by omega, by omega, by omega⟩
                        refine g_iald F hH r_99b hx258.1 hx258.2.1 hx258.2.2 dX7_groups_258 ?_
                        refine z_name (fun v_108 ev_108 => ?_)
                        have zv_108 : zr v_108 := by rw [ev_108]; exact zr_t _
                        have c258 : iI v_108 = tg (tup bxa i.toNat) (lc.2 k.toNat 0).toNat := by rw [ev_108, iI_self, h56, tg_up _ (by omega), ← hXa9 _ (by omega)]; congr 1; omega
                        refine z_goto (tgt := 275) F dX7_groups_259 (by decide) ?_
                        have hx275 : 0 ≤ k ∧ k < ((4 : Nat) : Int) ∧ k ≤ 2147483647 := ⟨by omega, by omega, by omega⟩
                        refine g_iast F hH hS r_92b hx275.1 hx275.2.1 hx275.2.2 dX7_groups_275 (fun H locs hH hS => ?_)
                        obtain ⟨AI_109, eAI_109⟩ : ∃ qQ, qQ = gup2 AI_78 (gh 77 0) (k).toNat (iI (v_108)) := ⟨_, rfl⟩
                        rw [← eAI_109] at hH
                        have kAI_109 : ∀ b, b ≠ (gh 77 0) → AI_109 b = AI_78 b := fun b hb => by rw [eAI_109]; exact funext fun j => gup2_a _ _ hb
                        have hvO := hv
                        have t_110 : AI_109 (gh 50 0) = AI_78 (gh 50 0) := mK hv hm (p := (0, 640)) (q := (27, 4)) (by decide) (by decide) (by decide) kAI_109
                        have hv : mInv g gh R I_34 AI_109 := mInv_a hv hm (q := (27, 4)) (by decide) (by decide) kAI_109
                        have hT : AI_109 (gh 50 0) = T := t_110.trans hT
                        have hgt : ∀ j : Nat, (j : Int) < k + 1 → AI_109 (gh 77 0) j = tg (gTp lc bxa na (gk lc (tup bxa i.toNat))) j := fun j hj => by
                          by_cases e9 : (j : Int) = k
                          · rw [eAI_109, gup2_e _ _ (by omega)]; symm; exact by rw [gTp_l (by omega) (by omega), show j = k.toNat by omega, ← c258]
                          · rw [eAI_109, gup2_k _ _ (by omega)]; exact hgt j (by omega)
                        have hgr : grM lc bxa na i.toNat (AI_109 (gh 75 0)) (I_34 mo 26).toInt.toNat := by rw [kAI_109 _ (show gh 75 0 ≠ gh 77 0 from mNe hv hm (p := (25, 9600)) (q := (27, 4)) (by decide) (by decide) (by decide))]; exact hgr
                        have fW : ∀ b, b ≠ gh 75 0 → b ≠ gh 77 0 → AI_109 b = AI b := fun b h1 h2 => (kAI_109 b h2).trans (fW b h1 h2)
                        refine z_iinc (lv' := [(11, .int (iI (k + 1))), (10, .int (iI hs1)), (9, .int (iI su)), (8, .int (iI v_54)), (7, .int (iI i)), (6, .int (iI v_32)), (5, .int (iI v_24)), (4, .int (iI v_16)), (3, .int (iI v_8)), (0, .ref mo), (1, .int (iI sd)), (2, .int (iI rr))]) F dX7_groups_276 hl (k := 0) rfl (by decide) rfl (fun ls hl => ?_)
                        refine z_goto (tgt := 224) F dX7_groups_279 (by decide) ?_
                        exact ih224 (k + 1) AI_109 H locs ls ⟨by omega, by omega⟩ hv hT (by omega) fW hgr hgt (by omega) hH hS (lv_sub hl [0, 1, 2, 3, 4, 5, 6, 7, 8, 9, 10, 11] rfl)
                exact cut_224_78 (((4 - 0) + 1 : Int).toNat) 0 AI_35 H locs ls ⟨by decide, by decide⟩ hv hT (by omega) fW hgr (fun j hj => absurd hj (by omega)) (by omega) hH hS (lv_sub hl [0, 1, 2, 3, 4, 5, 6, 7, 8, 9, 10, 11] rfl)
              · refine lv_iload_n F.1 F.2.1 dX7_groups_91 rfl (lv_at hl 10 rfl) ?_
                refine lv_iload_n F.1 F.2.1 dX7_groups_92 rfl (lv_at hl 8 rfl) ?_
                refine lv_iload F.1 F.2.1 dX7_groups_93 (lv_at hl 0 rfl) ?_
                refine g_calli (g_runS (As := [.int (iI sd), .int (iI v_8), .int (iI jj)]) (rest := []) F hl.1 hH hS hz (c_X7_spot l g  I_34 R J AI_35 AJ AR sd v_8 jj zsd zv_8 zjj (by omega) (by omega) (by omega)) (va_cwS 3 F.2.2.2.2.1 (good_up gT_X7_spot) rfl rfl rfl hdX7_spot.2 ⟨Nat.le_of_ble_eq_true rfl, Nat.le_of_ble_eq_true rfl⟩) rfl rfl (Nat.le_of_ble_eq_true rfl) dX7_groups_95 ⟨Nat.zero_le _, Nat.zero_le _⟩) hS (fun v_117 I_111 R_112 J_113 AI_114 AJ_115 AR_116 H locs zv_117 hp_118 hH hS => ?_)
                dsimp only at hp_118
                obtain ⟨rfl, rfl, rfl, rfl, rfl, rfl, q_119⟩ := hp_118
                refine lv_istore (lv' := [(12, .int (iI v_117)), (11, .int (iI jj)), (10, .int (iI hs1)), (9, .int (iI su)), (8, .int (iI v_54)), (7, .int (iI i)), (6, .int (iI v_32)), (5, .int (iI v_24)), (4, .int (iI v_16)), (3, .int (iI v_8)), (0, .ref mo), (1, .int (iI sd)), (2, .int (iI rr))]) F.1 F.2.1 dX7_groups_98 hl (by decide) rfl (fun ls hl => ?_)
                refine lv_aload_n F.1 F.2.1 dX7_groups_100 rfl (lv_at hl 10 rfl) ?_
                refine lv_iload_n F.1 F.2.1 dX7_groups_101 rfl (lv_at hl 12 rfl) ?_
                refine lv_iload F.1 F.2.1 dX7_groups_102 (lv_at hl 4 rfl) ?_
                refine lv_iload F.1 F.2.1 dX7_groups_104 (lv_at hl 0 rfl) ?_
                refine g_calli (g_runV (As := [.int (iI rr), .int (iI v_54), .int (iI v_117)]) (rest := []) (ci := 7) F hl.1 hH hS hz (c_X7_areOneGroupf l g gh T lc (tup bxa i.toNat) (tup bxa jj.toNat) I_34 R J AI_35 AJ AR mo rr v_54 v_117 zrr zv_54 zv_117 hv hm hT (by omega) (by omega) (by omega) hgp (fun j hj => by rw [h56, tg_up j hj, ← hXa9 _ (by omega)]; congr 1; omega) (fun j hj => by rw [h56, tg_up j hj, ← hXa9 _ (by omega)]; congr 1; omega)) (cwV 3 F.2.2.2.2.1 (good_up gT_X7_areOneGroup) rfl rfl rfl hdX7_areOneGroup ⟨Nat.le_of_ble_eq_true rfl, Nat.le_of_ble_eq_true rfl⟩) hm (by decide) rfl rfl rfl (Nat.le_of_ble_eq_true rfl) dX7_groups_106 ⟨Nat.zero_le _, Nat.zero_le _⟩) hS (fun v_126 I_120 R_121 J_122 AI_123 AJ_124 AR_125 H locs zv_126 hp_127 hH hS => ?_)
                dsimp only at hp_127
                obtain ⟨rfl, rfl, rfl, rfl, rfl, rfl, q_128, qog⟩ := hp_127
                refine z_if_ne (tgt := 115) F dX7_groups_109 (by decide) zv_126 (fun c_129 => ?_) (fun c_129 => ?_)
                · have hog : gk lc (tup bxa jj.toNat) = (gk lc (tup bxa i.toNat)) := (tIz_1 qog (by omega)).symm
                  refine lv_aload_n F.1 F.2.1 dX7_groups_115 rfl (lv_at hl 10 rfl) ?_
                  obtain ⟨r_130a, r_130b⟩ : R mo 6 = some (gh 56 0) ∧ gAr g (gh 56 0) 9 126720 := mR hv hm (q := (6, 126720)) (by decide)
                  refine g_getR (ci := 7) (k := 6) F hH rfl (by decide) iX7 hm (by decide) rfl (b := gh 56 0) r_130a k24 dX7_groups_116 ?_
                  refine lv_iload F.1 F.2.1 dX7_groups_119 (lv_at hl 0 rfl) ?_
                  refine lv_iload F.1 F.2.1 dX7_groups_121 (lv_at hl 6 rfl) ?_
                  refine z_iadd F dX7_groups_123 ?_
                  have hx124 : 0 ≤ (v_117 + v_32) ∧ (v_117 + v_32) < ((126720 : Nat) : Int) ∧ (v_117 + v_32) ≤ 2147483647 := ⟨by omega, by omega, by omega⟩
                  refine g_iald F hH r_130b hx124.1 hx124.2.1 hx124.2.2 dX7_groups_124 ?_
                  refine z_name (fun v_131 ev_131 => ?_)
                  have zv_131 : zr v_131 := by rw [ev_131]; exact zr_t _
                  have c124 : iI v_131 = tg (tup bxa jj.toNat) (lc.1 10).toNat := by rw [ev_131, iI_self, h56, tg_up _ (by omega), ← hXa9 _ (by omega)]; congr 1; omega
                  refine lv_istore (lv' := [(13, .int (iI v_131)), (12, .int (iI v_117)), (11, .int (iI jj)), (10, .int (iI hs1)), (9, .int (iI su)), (8, .int (iI v_54)), (7, .int (iI i)), (6, .int (iI v_32)), (5, .int (iI v_24)), (4, .int (iI v_16)), (3, .int (iI v_8)), (0, .ref mo), (1, .int (iI sd)), (2, .int (iI rr))]) F.1 F.2.1 dX7_groups_125 hl (by decide) rfl (fun ls hl => ?_)
                  refine lv_aload_n F.1 F.2.1 dX7_groups_127 rfl (lv_at hl 11 rfl) ?_
                  refine g_getR (ci := 7) (k := 6) F hH rfl (by decide) iX7 hm (by decide) rfl (b := gh 56 0) r_130a k24 dX7_groups_128 ?_
                  refine lv_iload F.1 F.2.1 dX7_groups_131 (lv_at hl 1 rfl) ?_
                  refine z_iconst F dX7_groups_133 ?_
                  refine z_iadd F dX7_groups_134 ?_
                  have hx135 : 0 ≤ (v_117 + 4) ∧ (v_117 + 4) < ((126720 : Nat) : Int) ∧ (v_117 + 4) ≤ 2147483647 := ⟨by omega, by omega, by omega⟩
                  refine g_iald F hH r_130b hx135.1 hx135.2.1 hx135.2.2 dX7_groups_135 ?_
                  refine z_name (fun v_132 ev_132 => ?_)
                  have zv_132 : zr v_132 := by rw [ev_132]; exact zr_t _
                  have c135 : iI v_132 = bxa (6 * jj.toNat + 4) := by rw [ev_132, iI_self, h56, ← hXa9 _ (by omega)]; congr 1; omega
                  refine lv_istore (lv' := [(14, .int (iI v_132)), (13, .int (iI v_131)), (12, .int (iI v_117)), (11, .int (iI jj)), (10, .int (iI hs1)), (9, .int (iI su)), (8, .int (iI v_54)), (7, .int (iI i)), (6, .int (iI v_32)), (5, .int (iI v_24)), (4, .int (iI v_16)), (3, .int (iI v_8)), (0, .ref mo), (1, .int (iI sd)), (2, .int (iI rr))]) F.1 F.2.1 dX7_groups_136 hl (by decide) rfl (fun ls hl => ?_)
                  refine lv_iload F.1 F.2.1 dX7_groups_138 (lv_at hl 9 rfl) ?_
                  refine z_if_ne (tgt := 150) F dX7_groups_140 (by decide) zv_24 (fun c_133 => ?_) (fun c_133 => ?_)
                  · refine lv_iload F.1 F.2.1 dX7_groups_150 (lv_at hl 9 rfl) ?_
                    refine z_iconst F dX7_groups_152 ?_
                    refine z_icmp_ne (tgt := 166) F dX7_groups_153 (by decide) zv_24 ⟨by decide, by decide⟩ (fun c_134 => ?_) (fun c_134 => ?_)
                    · refine lv_iload F.1 F.2.1 dX7_groups_166 (lv_at hl 9 rfl) ?_
                      refine z_iconst F dX7_groups_168 ?_
                      refine z_icmp_lt (tgt := 215) F dX7_groups_169 (by decide) zv_24 ⟨by decide, by decide⟩ (fun c_135 => ?_) (fun c_135 => ?_)
                      · exact absurd trivial (by omega)
                      · refine lv_iload F.1 F.2.1 dX7_groups_172 (lv_at hl 0 rfl) ?_
                        refine z_if_gt (tgt := 180) F dX7_groups_174 (by decide) zv_132 (fun c_136 => ?_) (fun c_136 => ?_)
                        · refine lv_iload F.1 F.2.1 dX7_groups_180 (lv_at hl 4 rfl) ?_
                          refine z_if_eq (tgt := 208) F dX7_groups_182 (by decide) zhs1 (fun c_137 => ?_) (fun c_137 => ?_)
                          · refine lv_iload F.1 F.2.1 dX7_groups_208 (lv_at hl 1 rfl) ?_
                            refine lv_istore (lv' := [(9, .int (iI v_131)), (14, .int (iI v_132)), (13, .int (iI v_131)), (12, .int (iI v_117)), (11, .int (iI jj)), (10, .int (iI hs1)), (8, .int (iI v_54)), (7, .int (iI i)), (6, .int (iI v_32)), (5, .int (iI v_24)), (4, .int (iI v_16)), (3, .int (iI v_8)), (0, .ref mo), (1, .int (iI sd)), (2, .int (iI rr))]) F.1 F.2.1 dX7_groups_210 hl (by decide) rfl (fun ls hl => ?_)
                            refine z_iconst F dX7_groups_212 ?_
                            refine lv_istore (lv' := [(10, .int (iI 1)), (9, .int (iI v_131)), (14, .int (iI v_132)), (13, .int (iI v_131)), (12, .int (iI v_117)), (11, .int (iI jj)), (8, .int (iI v_54)), (7, .int (iI i)), (6, .int (iI v_32)), (5, .int (iI v_24)), (4, .int (iI v_16)), (3, .int (iI v_8)), (0, .ref mo), (1, .int (iI sd)), (2, .int (iI rr))]) F.1 F.2.1 dX7_groups_213 hl (by decide) rfl (fun ls hl => ?_)
                            have hgi9 := gfI_t hgi hog (by omega) (by rw [← c135, iI_val zv_132]; omega) zsu zv_131 c124 (by first | exact Or.inl (by omega) | exact Or.inr (Or.inl ⟨by omega, by omega⟩) | exact Or.inr (Or.inr ⟨by omega, by omega⟩))
                            rw [show jj.toNat + 1 = (jj + 1).toNat by omega] at hgi9
                            refine z_iinc (lv' := [(11, .int (iI (jj + 1))), (10, .int (iI 1)), (9, .int (iI v_131)), (14, .int (iI v_132)), (13, .int (iI v_131)), (12, .int (iI v_117)), (8, .int (iI v_54)), (7, .int (iI i)), (6, .int (iI v_32)), (5, .int (iI v_24)), (4, .int (iI v_16)), (3, .int (iI v_8)), (0, .ref mo), (1, .int (iI sd)), (2, .int (iI rr))]) F dX7_groups_215 hl (k := 5) rfl (by decide) rfl (fun ls hl => ?_)
                            refine z_goto (tgt := 80) F dX7_groups_218 (by decide) ?_
                            exact ih80 v_131 1 (jj + 1) H locs ls zv_131 ⟨by decide, by decide⟩ ⟨by omega, by omega⟩ (by omega) hgi9 (by omega) (by omega) hH hS (lv_sub hl [0, 1, 2, 6, 7, 8, 9, 10, 11, 12, 13, 14] rfl)
                          · refine lv_iload F.1 F.2.1 dX7_groups_185 (lv_at hl 9 rfl) ?_
                            refine z_iconst F dX7_groups_187 ?_
                            refine z_icmp_ne (tgt := 201) F dX7_groups_188 (by decide) zv_24 ⟨by decide, by decide⟩ (fun c_138 => ?_) (fun c_138 => ?_)
                            · refine lv_iload F.1 F.2.1 dX7_groups_201 (lv_at hl 1 rfl) ?_
                              refine lv_iload F.1 F.2.1 dX7_groups_203 (lv_at hl 5 rfl) ?_
                              refine z_icmp_le (tgt := 212) F dX7_groups_205 (by decide) zv_131 zsu (fun c_139 => ?_) (fun c_139 => ?_)
                              · refine z_iconst F dX7_groups_212 ?_
                                refine lv_istore (lv' := [(10, .int (iI 1)), (14, .int (iI v_132)), (13, .int (iI v_131)), (12, .int (iI v_117)), (11, .int (iI jj)), (9, .int (iI su)), (8, .int (iI v_54)), (7, .int (iI i)), (6, .int (iI v_32)), (5, .int (iI v_24)), (4, .int (iI v_16)), (3, .int (iI v_8)), (0, .ref mo), (1, .int (iI sd)), (2, .int (iI rr))]) F.1 F.2.1 dX7_groups_213 hl (by decide) rfl (fun ls hl => ?_)
                                have hgi9 := gfI_k hgi hog (by omega) (by rw [← c135, iI_val zv_132]; omega) zsu zv_131 c124 (by rintro (h9 | h9 | h9) <;> omega)
                                rw [show jj.toNat + 1 = (jj + 1).toNat by omega] at hgi9
                                refine z_iinc (lv' := [(11, .int (iI (jj + 1))), (10, .int (iI 1)), (14, .int (iI v_132)), (13, .int (iI v_131)), (12, .int (iI v_117)), (9, .int (iI su)), (8, .int (iI v_54)), (7, .int (iI i)), (6, .int (iI v_32)), (5, .int (iI v_24)), (4, .int (iI v_16)), (3, .int (iI v_8)), (0, .ref mo), (1, .int (iI sd)), (2, .int (iI rr))]) F dX7_groups_215 hl (k := 4) rfl (by decide) rfl (fun ls hl => ?_)
                                refine z_goto (tgt := 80) F dX7_groups_218 (by decide) ?_
                                exact ih80 su 1 (jj + 1) H locs ls zsu ⟨by decide, by decide⟩ ⟨by omega, by omega⟩ (by omega) hgi9 (by omega) (by omega) hH hS (lv_sub hl [0, 1, 5, 6, 7, 8, 9, 10, 11, 12, 13, 14] rfl)
                              · refine lv_iload F.1 F.2.1 dX7_groups_208 (lv_at hl 1 rfl) ?_
                                refine lv_istore (lv' := [(9, .int (iI v_131)), (14, .int (iI v_132)), (13, .int (iI v_131)), (12, .int (iI v_117)), (11, .int (iI jj)), (10, .int (iI hs1)), (8, .int (iI v_54)), (7, .int (iI i)), (6, .int (iI v_32)), (5, .int (iI v_24)), (4, .int (iI v_16)), (3, .int (iI v_8)), (0, .ref mo), (1, .int (iI sd)), (2, .int (iI rr))]) F.1 F.2.1 dX7_groups_210 hl (by decide) rfl (fun ls hl => ?_)
                                refine z_iconst F dX7_groups_212 ?_
                                refine lv_istore (lv' := [(10, .int (iI 1)), (9, .int (iI v_131)), (14, .int (iI v_132)), (13, .int (iI v_131)), (12, .int (iI v_117)), (11, .int (iI jj)), (8, .int (iI v_54)), (7, .int (iI i)), (6, .int (iI v_32)), (5, .int (iI v_24)), (4, .int (iI v_16)), (3, .int (iI v_8)), (0, .ref mo), (1, .int (iI sd)), (2, .int (iI rr))]) F.1 F.2.1 dX7_groups_213 hl (by decide) rfl (fun ls hl => ?_)
                                have hgi9 := gfI_t hgi hog (by omega) (by rw [← c135, iI_val zv_132]; omega) zsu zv_131 c124 (by first | exact Or.inl (by omega) | exact Or.inr (Or.inl ⟨by omega, by omega⟩) | exact Or.inr (Or.inr ⟨by omega, by omega⟩))
                                rw [show jj.toNat + 1 = (jj + 1).toNat by omega] at hgi9
                                refine z_iinc (lv' := [(11, .int (iI (jj + 1))), (10, .int (iI 1)), (9, .int (iI v_131)), (14, .int (iI v_132)), (13, .int (iI v_131)), (12, .int (iI v_117)), (8, .int (iI v_54)), (7, .int (iI i)), (6, .int (iI v_32)), (5, .int (iI v_24)), (4, .int (iI v_16)), (3, .int (iI v_8)), (0, .ref mo), (1, .int (iI sd)), (2, .int (iI rr))]) F dX7_groups_215 hl (k := 5) rfl (by decide) rfl (fun ls hl => ?_)
                                refine z_goto (tgt := 80) F dX7_groups_218 (by decide) ?_
                                exact ih80 v_131 1 (jj + 1) H locs ls zv_131 ⟨by decide, by decide⟩ ⟨by omega, by omega⟩ (by omega) hgi9 (by omega) (by omega) hH hS (lv_sub hl [0, 1, 2, 6, 7, 8, 9, 10, 11, 12, 13, 14] rfl)
                            · refine lv_iload F.1 F.2.1 dX7_groups_191 (lv_at hl 1 rfl) ?_
                              refine lv_iload F.1 F.2.1 dX7_groups_193 (lv_at hl 5 rfl) ?_
                              refine z_icmp_ge (tgt := 212) F dX7_groups_195 (by decide) zv_131 zsu (fun c_140 => ?_) (fun c_140 => ?_)
                              · refine z_iconst F dX7_groups_212 ?_
                                refine lv_istore (lv' := [(10, .int (iI 1)), (14, .int (iI v_132)), (13, .int (iI v_131)), (12, .int (iI v_117)), (11, .int (iI jj)), (9, .int (iI su)), (8, .int (iI v_54)), (7, .int (iI i)), (6, .int (iI v_32)), (5, .int (iI v_24)), (4, .int (iI v_16)), (3, .int (iI v_8)), (0, .ref mo), (1, .int (iI sd)), (2, .int (iI rr))]) F.1 F.2.1 dX7_groups_213 hl (by decide) rfl (fun ls hl => ?_)
                                have hgi9 := gfI_k hgi hog (by omega) (by rw [← c135, iI_val zv_132]; omega) zsu zv_131 c124 (by rintro (h9 | h9 | h9) <;> omega)
                                rw [show jj.toNat + 1 = (jj + 1).toNat by omega] at hgi9
                                refine z_iinc (lv' := [(11, .int (iI (jj + 1))), (10, .int (iI 1)), (14, .int (iI v_132)), (13, .int (iI v_131)), (12, .int (iI v_117)), (9, .int (iI su)), (8, .int (iI v_54)), (7, .int (iI i)), (6, .int (iI v_32)), (5, .int (iI v_24)), (4, .int (iI v_16)), (3, .int (iI v_8)), (0, .ref mo), (1, .int (iI sd)), (2, .int (iI rr))]) F dX7_groups_215 hl (k := 4) rfl (by decide) rfl (fun ls hl => ?_)
                                refine z_goto (tgt := 80) F dX7_groups_218 (by decide) ?_
                                exact ih80 su 1 (jj + 1) H locs ls zsu ⟨by decide, by decide⟩ ⟨by omega, by omega⟩ (by omega) hgi9 (by omega) (by omega) hH hS (lv_sub hl [0, 1, 5, 6, 7, 8, 9, 10, 11, 12, 13, 14] rfl)
                              · refine z_goto (tgt := 208) F dX7_groups_198 (by decide) ?_
                                refine lv_iload F.1 F.2.1 dX7_groups_208 (lv_at hl 1 rfl) ?_
                                refine lv_istore (lv' := [(9, .int (iI v_131)), (14, .int (iI v_132)), (13, .int (iI v_131)), (12, .int (iI v_117)), (11, .int (iI jj)), (10, .int (iI hs1)), (8, .int (iI v_54)), (7, .int (iI i)), (6, .int (iI v_32)), (5, .int (iI v_24)), (4, .int (iI v_16)), (3, .int (iI v_8)), (0, .ref mo), (1, .int (iI sd)), (2, .int (iI rr))]) F.1 F.2.1 dX7_groups_210 hl (by decide) rfl (fun ls hl => ?_)
                                refine z_iconst F dX7_groups_212 ?_
                                refine lv_istore (lv' := [(10, .int (iI 1)), (9, .int (iI v_131)), (14, .int (iI v_132)), (13, .int (iI v_131)), (12, .int (iI v_117)), (11, .int (iI jj)), (8, .int (iI v_54)), (7, .int (iI i)), (6, .int (iI v_32)), (5, .int (iI v_24)), (4, .int (iI v_16)), (3, .int (iI v_8)), (0, .ref mo), (1, .int (iI sd)), (2, .int (iI rr))]) F.1 F.2.1 dX7_groups_213 hl (by decide) rfl (fun ls hl => ?_)
                                have hgi9 := gfI_t hgi hog (by omega) (by rw [← c135, iI_val zv_132]; omega) zsu zv_131 c124 (by first | exact Or.inl (by omega) | exact Or.inr (Or.inl ⟨by omega, by omega⟩) | exact Or.inr (Or.inr ⟨by omega, by omega⟩))
                                rw [show jj.toNat + 1 = (jj + 1).toNat by omega] at hgi9
                                refine z_iinc (lv' := [(11, .int (iI (jj + 1))), (10, .int (iI 1)), (9, .int (iI v_131)), (14, .int (iI v_132)), (13, .int (iI v_131)), (12, .int (iI v_117)), (8, .int (iI v_54)), (7, .int (iI i)), (6, .int (iI v_32)), (5, .int (iI v_24)), (4, .int (iI v_16)), (3, .int (iI v_8)), (0, .ref mo), (1, .int (iI sd)), (2, .int (iI rr))]) F dX7_groups_215 hl (k := 5) rfl (by decide) rfl (fun ls hl => ?_)
                                refine z_goto (tgt := 80) F dX7_groups_218 (by decide) ?_
                                exact ih80 v_131 1 (jj + 1) H locs ls zv_131 ⟨by decide, by decide⟩ ⟨by omega, by omega⟩ (by omega) hgi9 (by omega) (by omega) hH hS (lv_sub hl [0, 1, 2, 6, 7, 8, 9, 10, 11, 12, 13, 14] rfl)
                        · refine z_goto (tgt := 215) F dX7_groups_177 (by decide) ?_
                          have hgi9 := gfI_z hgi hog (by omega) (by rw [← c135, iI_val zv_132]; omega)
                          rw [show jj.toNat + 1 = (jj + 1).toNat by omega] at hgi9
                          refine z_iinc (lv' := [(11, .int (iI (jj + 1))), (14, .int (iI v_132)), (13, .int (iI v_131)), (12, .int (iI v_117)), (10, .int (iI hs1)), (9, .int (iI su)), (8, .int (iI v_54)), (7, .int (iI i)), (6, .int (iI v_32)), (5, .int (iI v_24)), (4, .int (iI v_16)), (3, .int (iI v_8)), (0, .ref mo), (1, .int (iI sd)), (2, .int (iI rr))]) F dX7_groups_215 hl (k := 3) rfl (by decide) rfl (fun ls hl => ?_)
                          refine z_goto (tgt := 80) F dX7_groups_218 (by decide) ?_
                          exact ih80 su hs1 (jj + 1) H locs ls zsu zhs1 ⟨by omega, by omega⟩ (by omega) hgi9 (by omega) (by omega) hH hS (lv_sub hl [0, 4, 5, 6, 7, 8, 9, 10, 11, 12, 13, 14] rfl)
                    · refine lv_iload F.1 F.2.1 dX7_groups_156 (lv_at hl 5 rfl) ?_
                      refine lv_iload F.1 F.2.1 dX7_groups_158 (lv_at hl 0 rfl) ?_
                      refine lv_iload F.1 F.2.1 dX7_groups_160 (lv_at hl 1 rfl) ?_
                      refine z_imul F dX7_groups_162 ?_
                      refine z_iadd F dX7_groups_163 ?_
                      refine z_norm (fun v_141 zv_141 ev_141 => ?_)
                      have hsu : iI v_141 = iI su + bxa (6 * jj.toNat + 4) * tg (tup bxa jj.toNat) (lc.1 10).toNat := by rw [ev_141, ← iI_add, ← iI_mul, c135, c124]
                      refine lv_istore (lv' := [(9, .int (iI v_141)), (14, .int (iI v_132)), (13, .int (iI v_131)), (12, .int (iI v_117)), (11, .int (iI jj)), (10, .int (iI hs1)), (8, .int (iI v_54)), (7, .int (iI i)), (6, .int (iI v_32)), (5, .int (iI v_24)), (4, .int (iI v_16)), (3, .int (iI v_8)), (0, .ref mo), (1, .int (iI sd)), (2, .int (iI rr))]) F.1 F.2.1 dX7_groups_164 hl (by decide) rfl (fun ls hl => ?_)
                      refine lv_iload F.1 F.2.1 dX7_groups_166 (lv_at hl 9 rfl) ?_
                      refine z_iconst F dX7_groups_168 ?_
                      refine z_icmp_lt (tgt := 215) F dX7_groups_169 (by decide) zv_24 ⟨by decide, by decide⟩ (fun c_142 => ?_) (fun c_142 => ?_)
                      · have hgi9 := gfI_s hgi hog (by omega) hsu
                        rw [show jj.toNat + 1 = (jj + 1).toNat by omega] at hgi9
                        refine z_iinc (lv' := [(11, .int (iI (jj + 1))), (9, .int (iI v_141)), (14, .int (iI v_132)), (13, .int (iI v_131)), (12, .int (iI v_117)), (10, .int (iI hs1)), (8, .int (iI v_54)), (7, .int (iI i)), (6, .int (iI v_32)), (5, .int (iI v_24)), (4, .int (iI v_16)), (3, .int (iI v_8)), (0, .ref mo), (1, .int (iI sd)), (2, .int (iI rr))]) F dX7_groups_215 hl (k := 4) rfl (by decide) rfl (fun ls hl => ?_)
                        refine z_goto (tgt := 80) F dX7_groups_218 (by decide) ?_
                        exact ih80 v_141 hs1 (jj + 1) H locs ls zv_141 zhs1 ⟨by omega, by omega⟩ (by omega) hgi9 (by omega) (by omega) hH hS (lv_sub hl [0, 5, 1, 6, 7, 8, 9, 10, 11, 12, 13, 14] rfl)
                      · exact absurd trivial (by omega)
                  · refine lv_iload F.1 F.2.1 dX7_groups_143 (lv_at hl 5 rfl) ?_
                    refine lv_iload F.1 F.2.1 dX7_groups_145 (lv_at hl 0 rfl) ?_
                    refine z_iadd F dX7_groups_147 ?_
                    refine z_norm (fun v_143 zv_143 ev_143 => ?_)
                    have hsu : iI v_143 = iI su + bxa (6 * jj.toNat + 4) := by rw [ev_143, ← iI_add, c135]
                    refine lv_istore (lv' := [(9, .int (iI v_143)), (14, .int (iI v_132)), (13, .int (iI v_131)), (12, .int (iI v_117)), (11, .int (iI jj)), (10, .int (iI hs1)), (8, .int (iI v_54)), (7, .int (iI i)), (6, .int (iI v_32)), (5, .int (iI v_24)), (4, .int (iI v_16)), (3, .int (iI v_8)), (0, .ref mo), (1, .int (iI sd)), (2, .int (iI rr))]) F.1 F.2.1 dX7_groups_148 hl (by decide) rfl (fun ls hl => ?_)
                    refine lv_iload F.1 F.2.1 dX7_groups_150 (lv_at hl 9 rfl) ?_
                    refine z_iconst F dX7_groups_152 ?_
                    refine z_icmp_ne (tgt := 166) F dX7_groups_153 (by decide) zv_24 ⟨by decide, by decide⟩ (fun c_144 => ?_) (fun c_144 => ?_)
                    · refine lv_iload F.1 F.2.1 dX7_groups_166 (lv_at hl 9 rfl) ?_
                      refine z_iconst F dX7_groups_168 ?_
                      refine z_icmp_lt (tgt := 215) F dX7_groups_169 (by decide) zv_24 ⟨by decide, by decide⟩ (fun c_145 => ?_) (fun c_145 => ?_)
                      · have hgi9 := gfI_c hgi hog (by omega) hsu
                        rw [show jj.toNat + 1 = (jj + 1).toNat by omega] at hgi9
                        refine z_iinc (lv' := [(11, .int (iI (jj + 1))), (9, .int (iI v_143)), (14, .int (iI v_132)), (13, .int (iI v_131)), (12, .int (iI v_117)), (10, .int (iI hs1)), (8, .int (iI v_54)), (7, .int (iI i)), (6, .int (iI v_32)), (5, .int (iI v_24)), (4, .int (iI v_16)), (3, .int (iI v_8)), (0, .ref mo), (1, .int (iI sd)), (2, .int (iI rr))]) F dX7_groups_215 hl (k := 4) rfl (by decide) rfl (fun ls hl => ?_)
                        refine z_goto (tgt := 80) F dX7_groups_218 (by decide) ?_
                        exact ih80 v_143 hs1 (jj + 1) H locs ls zv_143 zhs1 ⟨by omega, by omega⟩ (by omega) hgi9 (by omega) (by omega) hH hS (lv_sub hl [0, 5, 1, 6, 7, 8, 9, 10, 11, 12, 13, 14] rfl)
                      · exact absurd trivial (by omega)
                    · exact absurd trivial (by omega)
                · refine z_goto (tgt := 215) F dX7_groups_112 (by decide) ?_
                  have hgi9 := gfI_n hgi (fun h9 => tIz_0 qog (by omega) h9.symm)
                  rw [show jj.toNat + 1 = (jj + 1).toNat by omega] at hgi9
                  refine z_iinc (lv' := [(11, .int (iI (jj + 1))), (12, .int (iI v_117)), (10, .int (iI hs1)), (9, .int (iI su)), (8, .int (iI v_54)), (7, .int (iI i)), (6, .int (iI v_32)), (5, .int (iI v_24)), (4, .int (iI v_16)), (3, .int (iI v_8)), (0, .ref mo), (1, .int (iI sd)), (2, .int (iI rr))]) F dX7_groups_215 hl (k := 1) rfl (by decide) rfl (fun ls hl => ?_)
                  refine z_goto (tgt := 80) F dX7_groups_218 (by decide) ?_
                  exact ih80 su hs1 (jj + 1) H locs ls zsu zhs1 ⟨by omega, by omega⟩ (by omega) hgi9 (by omega) (by omega) hH hS (lv_sub hl [0, 2, 3, 4, 5, 6, 7, 8, 9, 10, 11, 12] rfl)
          exact cut_80_66 (((120 - i) + 1 : Int).toNat) 0 0 i H locs ls ⟨by decide, by decide⟩ ⟨by decide, by decide⟩ zi (by omega) (gfI_0 (tIz_1 qfo (by omega))) (by omega) (by omega) hH hS (lv_sub hl [0, 1, 2, 3, 4, 5, 6, 7, 8, 9, 10, 11] rfl)
        · refine z_goto (tgt := 298) F dX7_groups_67 (by decide) ?_
          have hgr9 := grM_k hgr (tIz_0 qfo (by omega))
          rw [show i.toNat + 1 = (i + 1).toNat by omega] at hgr9
          refine z_iinc (lv' := [(7, .int (iI (i + 1))), (8, .int (iI v_54)), (6, .int (iI v_32)), (5, .int (iI v_24)), (4, .int (iI v_16)), (3, .int (iI v_8)), (0, .ref mo), (1, .int (iI sd)), (2, .int (iI rr))]) F dX7_groups_298 hl (k := 1) rfl (by decide) rfl (fun ls hl => ?_)
          refine z_goto (tgt := 36) F dX7_groups_301 (by decide) ?_
          exact ih36 (i + 1) I_34 AI_35 H locs ls ⟨by omega, by omega⟩ hv hT wf (by omega) fW hgr9 (by omega) (by omega) hH hS (lv_sub hl [0, 2, 3, 4, 5, 6, 7, 8] rfl)
  exact cut_36_35 (((120 - 0) + 1 : Int).toNat) 0 I AI H locs ls ⟨by decide, by decide⟩ hv hT wf (by omega) (fun _ _ _ => rfl) (by rw [show (I mo 26).toInt = 0 by omega]; exact grM_0) (by omega) (by omega) hH hS (lv_sub hl [0, 1, 2, 3, 4, 5, 6, 7] rfl)
