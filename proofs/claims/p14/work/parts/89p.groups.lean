section
def rmX7_groupsf : Room := { frames := 3, cells := 0, slots := 0, locals := 71 }
set_option maxHeartbeats 4000000 in
set_option maxRecDepth 100000 in
/-- groups -/
theorem c_X7_groupsf (l : Launch) (g : gG) (gh : gGh) (T : Nat → Int32) (lc : LC) (na : Nat) (bxa : Nat → Int32) (I : gI) (R : gR) (J : gJ) (AI : gI) (AJ : gJ) (AR : gR) (mo : Nat) (sd : Int) (rr : Int) (zsd : zr sd) (zrr : zr rr) (hv : mInv g gh R I AI) (hm : gO g mo 7) (hT : AI (gh 50 0) = T) (hs : 0 ≤ sd ∧ sd ≤ 10) (hr0 : 0 ≤ rr ∧ rr < (I mo 2).toInt) (hk : tI T (40 * rr) = 7) (hw : (I mo 26).toInt = 0) (hgm : gfM T rr lc) (hna : tI (AI (gh 57 0)) (16 * sd + tI T (40 * rr + 2)) = (na : Int)) (hXa : ∀ q : Nat, q < 720 → AI (gh 56 0) ((11520 * sd + 720 * tI T (40 * rr + 2)).toNat + q) = bxa q) (h120 : na ≤ 120) : gMet l g yX7_groups tsX7_groups rmX7_groupsf [.ref mo, .int (iI sd), .int (iI rr)] (I, R, J, AI, AJ, AR) (gQv g (fun w : gS => R = w.2.1 ∧ J = w.2.2.1 ∧ AJ = w.2.2.2.2.1 ∧ AR = w.2.2.2.2.2 ∧ (mInv g gh R (w.1) (w.2.2.2.1)) ∧ ((w.2.2.2.1) (gh 50 0) = T) ∧ (wF mo I (w.1)) ∧ (∀ b, b ≠ gh 75 0 → b ≠ gh 77 0 → (w.2.2.2.1) b = AI b) ∧ (gaR ((w.2.2.2.1) (gh 75 0)) ((w.1) mo 26).toInt.toNat (sG lc bxa na)))) := by
  refine gStart (cc := cX7_groups) (maxL := 15) (ret := none) (by decide) rfl (Nat.le_of_ble_eq_true rfl) ?_
  intro p e s m below meth c ls F hr hlk hH hz hS hl
  have hl : lv_has ls 15 [(0, .ref mo), (1, .int (iI sd)), (2, .int (iI rr))] := hl
  have hS : va_S (gA g) s.heap s.heap [] := hS
  obtain ⟨H, hHe⟩ : ∃ H : Heap, H = s.heap := ⟨_, rfl⟩
  obtain ⟨locs, hlo⟩ : ∃ k : List Loc, k = [] := ⟨_, rfl⟩
  have hH : gH g I R J AI AJ AR H := by rw [hHe]; exact hH
  have hS : va_S (gA g) s.heap H locs := by rw [hHe, hlo]; exact hS
  suffices hw : W p l e rmX7_groupsf s m ([.ref mo, .int (iI sd), .int (iI rr)] : List Value).toArray below meth c H locs 0 0 (MQ below (gQv g (fun w : gS => R = w.2.1 ∧ J = w.2.2.1 ∧ AJ = w.2.2.2.2.1 ∧ AR = w.2.2.2.2.2 ∧ (mInv g gh R (w.1) (w.2.2.2.1)) ∧ ((w.2.2.2.1) (gh 50 0) = T) ∧ (wF mo I (w.1)) ∧ (∀ b, b ≠ gh 75 0 → b ≠ gh 77 0 → (w.2.2.2.1) b = AI b) ∧ (gaR ((w.2.2.2.1) (gh 75 0)) ((w.1) mo 26).toInt.toNat (sG lc bxa na)))) ([.ref mo, .int (iI sd), .int (iI rr)] : List Value).toArray s 0 0 (gA g)) (F0 m 0 ls []) by
    rw [hHe, hlo] at hw; exact hw
  clear hHe hlo
  have wf : wF mo I I := wF_r
  have hb0 := mJ hv hm
  unfold mNum1 at hb0
  have x := mRow hv hm hT (z := rr) (by omega) (by omega)
  have xa := x.1
  have xc := x.2.2.1
  have xb := x.2.1 (by omega)
  have x7 := x.2.2.2.2.2.2.2.2.1 (by omega)
  obtain ⟨x7a, x7b, x7c⟩ := x7
  obtain ⟨hgp, ⟨hgm1, hgm2⟩, hgm3, hgm4, hgm5, hgm6, hgm7, hgm8⟩ := hgm
  have hgp1 := hgp.1
  have iX7 : ∀ w ∈ u_ws RX7 TX7 32, w ∈ tsX7_groups := fun w h => List.mem_cons_of_mem _ (inTB7 w h)
  have k24 : Cond.fieldLink RX7 24 (TX7 6).1 (TX7 6).2.1 (TX7 6).2.2.1 ∈ tsX7_groups := List.mem_cons_of_mem _ fl_24
  have k45 : Cond.fieldLink RX7 45 (TX7 27).1 (TX7 27).2.1 (TX7 27).2.2.1 ∈ tsX7_groups := List.mem_cons_of_mem _ fl_45
  refine lv_aload_n F.1 F.2.1 dX7_groups_0 rfl (lv_at hl 0 rfl) ?_
  refine lv_iload_n F.1 F.2.1 dX7_groups_1 rfl (lv_at hl 2 rfl) ?_
  have b_1 := mJ hv hm
  unfold mNum1 at b_1
  refine g_calli (g_runV (As := [.int (iI rr)]) (rest := []) (ci := 7) F hl.1 hH hS hz (c_X7_firstOf l g gh T I R J AI AJ AR mo rr zrr hv hm hT (by omega)) (cwV 1 F.2.2.2.2.1 (good_up gT_X7_firstOf) rfl rfl rfl hdX7_firstOf ⟨Nat.le_of_ble_eq_true rfl, Nat.le_of_ble_eq_true rfl⟩) hm (by decide) rfl rfl rfl (Nat.le_of_ble_eq_true rfl) dX7_groups_2 ⟨Nat.zero_le _, Nat.zero_le _⟩) hS (fun v_8 I_2 R_3 J_4 AI_5 AJ_6 AR_7 H locs zv_8 hp_9 hH hS => ?_)
  dsimp only at hp_9
  obtain ⟨rfl, rfl, rfl, rfl, rfl, rfl, qa0⟩ := hp_9
  have qa := qa0
  have hna9 : tI (AI (gh 57 0)) (16 * sd + v_8) = (na : Int) := by rw [qa]; exact hna
  have hXa9 : ∀ q : Nat, q < 720 → AI (gh 56 0) ((11520 * sd + 720 * v_8).toNat + q) = bxa q := by rw [qa]; exact hXa
  refine lv_istore_n (lv' := [(3, .int (iI v_8)), (0, .ref mo), (1, .int (iI sd)), (2, .int (iI rr))]) F.1 F.2.1 dX7_groups_5 rfl hl (by decide) rfl (fun ls hl => ?_)
  refine lv_aload_n F.1 F.2.1 dX7_groups_6 rfl (lv_at hl 1 rfl) ?_
  refine lv_iload_n F.1 F.2.1 dX7_groups_7 rfl (lv_at hl 3 rfl) ?_
  refine g_calli (g_runV (As := [.int (iI rr)]) (rest := []) (ci := 7) F hl.1 hH hS hz (c_X7_partsOf l g gh T I R J AI AJ AR mo rr zrr hv hm hT (by omega)) (cwV 1 F.2.2.2.2.1 (good_up gT_X7_partsOf) rfl rfl rfl hdX7_partsOf ⟨Nat.le_of_ble_eq_true rfl, Nat.le_of_ble_eq_true rfl⟩) hm (by decide) rfl rfl rfl (Nat.le_of_ble_eq_true rfl) dX7_groups_8 ⟨Nat.zero_le _, Nat.zero_le _⟩) hS (fun v_16 I_10 R_11 J_12 AI_13 AJ_14 AR_15 H locs zv_16 hp_17 hH hS => ?_)
  dsimp only at hp_17
  obtain ⟨rfl, rfl, rfl, rfl, rfl, rfl, qn⟩ := hp_17
  refine lv_istore (lv' := [(4, .int (iI v_16)), (3, .int (iI v_8)), (0, .ref mo), (1, .int (iI sd)), (2, .int (iI rr))]) F.1 F.2.1 dX7_groups_11 hl (by decide) rfl (fun ls hl => ?_)
  refine lv_aload_n F.1 F.2.1 dX7_groups_13 rfl (lv_at hl 2 rfl) ?_
  refine lv_iload_n F.1 F.2.1 dX7_groups_14 rfl (lv_at hl 4 rfl) ?_
  refine lv_iload F.1 F.2.1 dX7_groups_15 (lv_at hl 0 rfl) ?_
  refine z_iconst F dX7_groups_17 ?_
  refine g_calli (g_runV (As := [.int (iI rr), .int (iI v_16), .int (iI 1)]) (rest := []) (ci := 7) F hl.1 hH hS hz (c_X7_part l g gh T I R J AI AJ AR mo rr v_16 1 zrr zv_16 ⟨by decide, by decide⟩ hv hm hT (by omega) (by omega) (by omega)) (cwV 3 F.2.2.2.2.1 (good_up gT_X7_part) rfl rfl rfl hdX7_part ⟨Nat.le_of_ble_eq_true rfl, Nat.le_of_ble_eq_true rfl⟩) hm (by decide) rfl rfl rfl (Nat.le_of_ble_eq_true rfl) dX7_groups_18 ⟨Nat.zero_le _, Nat.zero_le _⟩) hS (fun v_24 I_18 R_19 J_20 AI_21 AJ_22 AR_23 H locs zv_24 hp_25 hH hS => ?_)
  dsimp only at hp_25
  obtain ⟨rfl, rfl, rfl, rfl, rfl, rfl, q18⟩ := hp_25
  have hfo : v_24 = lc.1 9 := by rw [q18, qn, hgp1]; exact hgm1
  refine lv_istore (lv' := [(5, .int (iI v_24)), (4, .int (iI v_16)), (3, .int (iI v_8)), (0, .ref mo), (1, .int (iI sd)), (2, .int (iI rr))]) F.1 F.2.1 dX7_groups_21 hl (by decide) rfl (fun ls hl => ?_)
  refine lv_aload_n F.1 F.2.1 dX7_groups_23 rfl (lv_at hl 3 rfl) ?_
  refine lv_iload_n F.1 F.2.1 dX7_groups_24 rfl (lv_at hl 5 rfl) ?_
  refine lv_iload F.1 F.2.1 dX7_groups_25 (lv_at hl 1 rfl) ?_
  refine z_iconst F dX7_groups_27 ?_
  refine g_calli (g_runV (As := [.int (iI rr), .int (iI v_16), .int (iI 0)]) (rest := []) (ci := 7) F hl.1 hH hS hz (c_X7_part l g gh T I R J AI AJ AR mo rr v_16 0 zrr zv_16 ⟨by decide, by decide⟩ hv hm hT (by omega) (by omega) (by omega)) (cwV 3 F.2.2.2.2.1 (good_up gT_X7_part) rfl rfl rfl hdX7_part ⟨Nat.le_of_ble_eq_true rfl, Nat.le_of_ble_eq_true rfl⟩) hm (by decide) rfl rfl rfl (Nat.le_of_ble_eq_true rfl) dX7_groups_28 ⟨Nat.zero_le _, Nat.zero_le _⟩) hS (fun v_32 I_26 R_27 J_28 AI_29 AJ_30 AR_31 H locs zv_32 hp_33 hH hS => ?_)
  dsimp only at hp_33
  obtain ⟨rfl, rfl, rfl, rfl, rfl, rfl, qc⟩ := hp_33
  have hc : 0 ≤ v_32 ∧ v_32 ≤ 3 := by rw [qc]; rw [qn]; exact x7c
  have hco : v_32 = lc.1 10 := by rw [qc, qn, hgp1]; exact hgm2
  refine lv_istore (lv' := [(6, .int (iI v_32)), (5, .int (iI v_24)), (4, .int (iI v_16)), (3, .int (iI v_8)), (0, .ref mo), (1, .int (iI sd)), (2, .int (iI rr))]) F.1 F.2.1 dX7_groups_31 hl (by decide) rfl (fun ls hl => ?_)
  refine z_iconst F dX7_groups_33 ?_
  refine lv_istore (lv' := [(7, .int (iI 0)), (6, .int (iI v_32)), (5, .int (iI v_24)), (4, .int (iI v_16)), (3, .int (iI v_8)), (0, .ref mo), (1, .int (iI sd)), (2, .int (iI rr))]) F.1 F.2.1 dX7_groups_34 hl (by decide) rfl (fun ls hl => ?_)
  have cut_36_35 : ∀ (NN : Nat) (i : Int) (I_34 : gI) (AI_35 : gI) (H : Heap) (locs : List Loc) (ls : Array Slot), zr i → (mInv g gh R I_34 AI_35) → (AI_35 (gh 50 0) = T) → (wF mo I I_34) → (0 ≤ i ∧ i ≤ 120 ∧ (I_34 mo 26).toInt ≤ i) → (∀ b, b ≠ gh 75 0 → b ≠ gh 77 0 → AI_35 b = AI b) → (grM lc bxa na i.toNat (AI_35 (gh 75 0)) (I_34 mo 26).toInt.toNat) → (i ≤ (na : Int)) → (120 - i) < ((NN : Nat) : Int) → gH g I_34 R J AI_35 AJ AR H → va_S (gA g) s.heap H locs → lv_has ls 15 [(7, .int (iI i)), (6, .int (iI v_32)), (5, .int (iI v_24)), (4, .int (iI v_16)), (3, .int (iI v_8)), (0, .ref mo), (1, .int (iI sd)), (2, .int (iI rr))] → W p l e rmX7_groupsf s m ([.ref mo, .int (iI sd), .int (iI rr)] : List Value).toArray below meth c H locs 0 0 (MQ below (gQv g (fun w : gS => R = w.2.1 ∧ J = w.2.2.1 ∧ AJ = w.2.2.2.2.1 ∧ AR = w.2.2.2.2.2 ∧ (mInv g gh R (w.1) (w.2.2.2.1)) ∧ ((w.2.2.2.1) (gh 50 0) = T) ∧ (wF mo I (w.1)) ∧ (∀ b, b ≠ gh 75 0 → b ≠ gh 77 0 → (w.2.2.2.1) b = AI b) ∧ (gaR ((w.2.2.2.1) (gh 75 0)) ((w.1) mo 26).toInt.toNat (sG lc bxa na)))) ([.ref mo, .int (iI sd), .int (iI rr)] : List Value).toArray s 0 0 (gA g)) (F0 m 36 ls []) := by
    intro NN36
    induction NN36 with
    | zero =>
      intro i I_34 AI_35 H locs ls zi hv hT wf hi fW hgr hin hm36 hH hS hl
      exact absurd hm36 (by omega)
    | succ NN36 ih36 =>
      intro i I_34 AI_35 H locs ls zi hv hT wf hi fW hgr hin hm36 hH hS hl
      have uc_2 : (I_34 mo 2).toInt = (I mo 2).toInt := by rw [wf 2 (by decide)]
      have uc_5 : (I_34 mo 5).toInt = (I mo 5).toInt := by rw [wf 5 (by decide)]
      have uc_14 : (I_34 mo 14).toInt = (I mo 14).toInt := by rw [wf 14 (by decide)]
      have uc_16 : (I_34 mo 16).toInt = (I mo 16).toInt := by rw [wf 16 (by decide)]
      have uc_24 : (I_34 mo 24).toInt = (I mo 24).toInt := by rw [wf 24 (by decide)]
      have h56 : AI_35 (gh 56 0) = AI (gh 56 0) := fW _ (show gh 56 0 ≠ gh 75 0 from mNe hv hm (p := (6, 126720)) (q := (25, 9600)) (by decide) (by decide) (by decide)) (show gh 56 0 ≠ gh 77 0 from mNe hv hm (p := (6, 126720)) (q := (27, 4)) (by decide) (by decide) (by decide))
      have h57 : AI_35 (gh 57 0) = AI (gh 57 0) := fW _ (show gh 57 0 ≠ gh 75 0 from mNe hv hm (p := (7, 176)) (q := (25, 9600)) (by decide) (by decide) (by decide)) (show gh 57 0 ≠ gh 77 0 from mNe hv hm (p := (7, 176)) (q := (27, 4)) (by decide) (by decide) (by decide))
      refine lv_iload F.1 F.2.1 dX7_groups_36 (lv_at hl 0 rfl) ?_
      refine lv_aload_n F.1 F.2.1 dX7_groups_38 rfl (lv_at hl 5 rfl) ?_
      refine lv_iload_n F.1 F.2.1 dX7_groups_39 rfl (lv_at hl 6 rfl) ?_
      refine lv_iload_n F.1 F.2.1 dX7_groups_40 rfl (lv_at hl 4 rfl) ?_
      have b_37 := mJ hv hm
      unfold mNum1 at b_37
      refine g_calli (g_runV (As := [.int (iI sd), .int (iI v_8)]) (rest := [.int (iI i)]) (ci := 7) F hl.1 hH hS hz (c_X7_sizeOf l g gh T I_34 R J AI_35 AJ AR mo sd v_8 zsd zv_8 hv hm hT (by omega) (by omega)) (cwV 2 F.2.2.2.2.1 (good_up gT_X7_sizeOf) rfl rfl rfl hdX7_sizeOf ⟨Nat.le_of_ble_eq_true rfl, Nat.le_of_ble_eq_true rfl⟩) hm (by decide) rfl rfl rfl (Nat.le_of_ble_eq_true rfl) dX7_groups_41 ⟨Nat.zero_le _, Nat.zero_le _⟩) hS (fun v_44 I_38 R_39 J_40 AI_41 AJ_42 AR_43 H locs zv_44 hp_45 hH hS => ?_)
      dsimp only at hp_45
      obtain ⟨rfl, rfl, rfl, rfl, rfl, rfl, q_46, qz41⟩ := hp_45
      have hsqz41 : v_44 = (na : Int) := by rw [qz41, h57]; exact hna9
      refine z_icmp_ge (tgt := 304) F dX7_groups_44 (by decide) zi zv_44 (fun c_47 => ?_) (fun c_47 => ?_)
      · exact g_vret F hr hlk hH hS hz ⟨rfl, rfl, rfl, rfl, hv, hT, wf, fW, by rw [show i.toNat = na by omega] at hgr; exact grM_e hgr⟩ dX7_groups_304
      · refine lv_iload_n F.1 F.2.1 dX7_groups_47 rfl (lv_at hl 6 rfl) ?_
        refine lv_iload_n F.1 F.2.1 dX7_groups_48 rfl (lv_at hl 4 rfl) ?_
        refine lv_iload F.1 F.2.1 dX7_groups_49 (lv_at hl 0 rfl) ?_
        refine g_calli (g_runS (As := [.int (iI sd), .int (iI v_8), .int (iI i)]) (rest := []) F hl.1 hH hS hz (c_X7_spot l g  I_34 R J AI_35 AJ AR sd v_8 i zsd zv_8 zi (by omega) (by omega) (by omega)) (va_cwS 3 F.2.2.2.2.1 (good_up gT_X7_spot) rfl rfl rfl hdX7_spot.2 ⟨Nat.le_of_ble_eq_true rfl, Nat.le_of_ble_eq_true rfl⟩) rfl rfl (Nat.le_of_ble_eq_true rfl) dX7_groups_51 ⟨Nat.zero_le _, Nat.zero_le _⟩) hS (fun v_54 I_48 R_49 J_50 AI_51 AJ_52 AR_53 H locs zv_54 hp_55 hH hS => ?_)
        dsimp only at hp_55
        obtain ⟨rfl, rfl, rfl, rfl, rfl, rfl, q_56⟩ := hp_55
        refine lv_istore (lv' := [(8, .int (iI v_54)), (7, .int (iI i)), (6, .int (iI v_32)), (5, .int (iI v_24)), (4, .int (iI v_16)), (3, .int (iI v_8)), (0, .ref mo), (1, .int (iI sd)), (2, .int (iI rr))]) F.1 F.2.1 dX7_groups_54 hl (by decide) rfl (fun ls hl => ?_)
        refine lv_aload_n F.1 F.2.1 dX7_groups_56 rfl (lv_at hl 6 rfl) ?_
        refine lv_iload_n F.1 F.2.1 dX7_groups_57 rfl (lv_at hl 7 rfl) ?_
        refine lv_iload_n F.1 F.2.1 dX7_groups_58 rfl (lv_at hl 8 rfl) ?_
        refine lv_iload F.1 F.2.1 dX7_groups_59 (lv_at hl 1 rfl) ?_
        refine g_calli (g_runV (As := [.int (iI sd), .int (iI rr), .int (iI i)]) (rest := []) (ci := 7) F hl.1 hH hS hz (c_X7_isFirstOfGroupf l g gh T lc bxa I_34 R J AI_35 AJ AR mo sd rr i zsd zrr zi hv hm hT (by omega) (by omega) (by omega) (by omega) hgp (fun q hq => by rw [h56]; exact hXa q hq)) (cwV 3 F.2.2.2.2.1 (good_up gT_X7_isFirstOfGroup) rfl rfl rfl hdX7_isFirstOfGroup ⟨Nat.le_of_ble_eq_true rfl, Nat.le_of_ble_eq_true rfl⟩) hm (by decide) rfl rfl rfl (Nat.le_of_ble_eq_true rfl) dX7_groups_61 ⟨Nat.zero_le _, Nat.zero_le _⟩) hS (fun v_63 I_57 R_58 J_59 AI_60 AJ_61 AR_62 H locs zv_63 hp_64 hH hS => ?_)
        dsimp only at hp_64
        obtain ⟨rfl, rfl, rfl, rfl, rfl, rfl, q_65, qfo⟩ := hp_64
        have qfo : tIz v_63 (∀ j : Nat, (j : Int) < ((i.toNat : Nat) : Int) → gk lc (tup bxa j) ≠ gk lc (tup bxa i.toNat)) := by rw [show ((i.toNat : Nat) : Int) = i by omega]; exact qfo
        refine z_if_ne (tgt := 70) F dX7_groups_64 (by decide) zv_63 (fun c_66 => ?_) (fun c_66 => ?_)
        · refine z_iconst F dX7_groups_70 ?_
          refine lv_istore (lv' := [(9, .int (iI 0)), (8, .int (iI v_54)), (7, .int (iI i)), (6, .int (iI v_32)), (5, .int (iI v_24)), (4, .int (iI v_16)), (3, .int (iI v_8)), (0, .ref mo), (1, .int (iI sd)), (2, .int (iI rr))]) F.1 F.2.1 dX7_groups_71 hl (by decide) rfl (fun ls hl => ?_)
          refine z_iconst F dX7_groups_73 ?_
          refine lv_istore (lv' := [(10, .int (iI 0)), (9, .int (iI 0)), (8, .int (iI v_54)), (7, .int (iI i)), (6, .int (iI v_32)), (5, .int (iI v_24)), (4, .int (iI v_16)), (3, .int (iI v_8)), (0, .ref mo), (1, .int (iI sd)), (2, .int (iI rr))]) F.1 F.2.1 dX7_groups_74 hl (by decide) rfl (fun ls hl => ?_)
          refine lv_iload F.1 F.2.1 dX7_groups_76 (lv_at hl 3 rfl) ?_
          refine lv_istore (lv' := [(11, .int (iI i)), (10, .int (iI 0)), (9, .int (iI 0)), (8, .int (iI v_54)), (7, .int (iI i)), (6, .int (iI v_32)), (5, .int (iI v_24)), (4, .int (iI v_16)), (3, .int (iI v_8)), (0, .ref mo), (1, .int (iI sd)), (2, .int (iI rr))]) F.1 F.2.1 dX7_groups_78 hl (by decide) rfl (fun ls hl => ?_)
          have cut_80_66 : ∀ (NN : Nat) (su hs1 jj : Int) (H : Heap) (locs : List Loc) (ls : Array Slot), zr su → zr hs1 → zr jj → (0 ≤ jj ∧ jj ≤ 120) → (gfI lc bxa (gk lc (tup bxa i.toNat)) jj.toNat hs1 su) → (i ≤ jj ∧ jj ≤ (na : Int)) → (120 - jj) < ((NN : Nat) : Int) → gH g I_34 R J AI_35 AJ AR H → va_S (gA g) s.heap H locs → lv_has ls 15 [(11, .int (iI jj)), (10, .int (iI hs1)), (9, .int (iI su)), (8, .int (iI v_54)), (7, .int (iI i)), (6, .int (iI v_32)), (5, .int (iI v_24)), (4, .int (iI v_16)), (3, .int (iI v_8)), (0, .ref mo), (1, .int (iI sd)), (2, .int (iI rr))] → W p l e rmX7_groupsf s m ([.ref mo, .int (iI sd), .int (iI rr)] : List Value).toArray below meth c H locs 0 0 (MQ below (gQv g (fun w : gS => R = w.2.1 ∧ J = w.2.2.1 ∧ AJ = w.2.2.2.2.1 ∧ AR = w.2.2.2.2.2 ∧ (mInv g gh R (w.1) (w.2.2.2.1)) ∧ ((w.2.2.2.1) (gh 50 0) = T) ∧ (wF mo I (w.1)) ∧ (∀ b, b ≠ gh 75 0 → b ≠ gh 77 0 → (w.2.2.2.1) b = AI b) ∧ (gaR ((w.2.2.2.1) (gh 75 0)) ((w.1) mo 26).toInt.toNat (sG lc bxa na)))) ([.ref mo, .int (iI sd), .int (iI rr)] : List Value).toArray s 0 0 (gA g)) (F0 m 80 ls []) := by
            intro NN80
            induction NN80 with
            | zero =>
              intro su hs1 jj H locs ls zsu zhs1 zjj hj hgi hjn hm80 hH hS hl
              exact absurd hm80 (by omega)
            | succ NN80 ih80 =>
              intro su hs1 jj H locs ls zsu zhs1 zjj hj hgi hjn hm80 hH hS hl
              refine lv_iload F.1 F.2.1 dX7_groups_80 (lv_at hl 0 rfl) ?_
              refine lv_aload_n F.1 F.2.1 dX7_groups_82 rfl (lv_at hl 9 rfl) ?_
              refine lv_iload_n F.1 F.2.1 dX7_groups_83 rfl (lv_at hl 10 rfl) ?_
              refine lv_iload_n F.1 F.2.1 dX7_groups_84 rfl (lv_at hl 8 rfl) ?_
              refine g_calli (g_runV (As := [.int (iI sd), .int (iI v_8)]) (rest := [.int (iI jj)]) (ci := 7) F hl.1 hH hS hz (c_X7_sizeOf l g gh T I_34 R J AI_35 AJ AR mo sd v_8 zsd zv_8 hv hm hT (by omega) (by omega)) (cwV 2 F.2.2.2.2.1 (good_up gT_X7_sizeOf) rfl rfl rfl hdX7_sizeOf ⟨Nat.le_of_ble_eq_true rfl, Nat.le_of_ble_eq_true rfl⟩) hm (by decide) rfl rfl rfl (Nat.le_of_ble_eq_true rfl) dX7_groups_85 ⟨Nat.zero_le _, Nat.zero_le _⟩) hS (fun v_74 I_68 R_69 J_70 AI_71 AJ_72 AR_73 H locs zv_74 hp_75 hH hS => ?_)
              dsimp only at hp_75
              obtain ⟨rfl, rfl, rfl, rfl, rfl, rfl, q_76, qz85⟩ := hp_75
              have hsqz85 : v_74 = (na : Int) := by rw [qz85, h57]; exact hna9
              refine z_icmp_ge (tgt := 221) F dX7_groups_88 (by decide) zjj zv_74 (fun c_77 => ?_) (fun c_77 => ?_)
              · have hgv : (gF lc bxa (gk lc (tup bxa i.toNat)) na).2 = iI su := by rw [← show jj.toNat = na by omega, hgi.1]
                refine z_iconst F dX7_groups_221 ?_
                refine lv_istore (lv' := [(11, .int (iI 0)), (10, .int (iI hs1)), (9, .int (iI su)), (8, .int (iI v_54)), (7, .int (iI i)), (6, .int (iI v_32)), (5, .int (iI v_24)), (4, .int (iI v_16)), (3, .int (iI v_8)), (0, .ref mo), (1, .int (iI sd)), (2, .int (iI rr))]) F.1 F.2.1 dX7_groups_222 hl (by decide) rfl (fun ls hl => ?_)
                have cut_224_78 : ∀ (NN : Nat) (k : Int) (AI_78 : gI) (H : Heap) (locs : List Loc) (ls : Array Slot), zr k → (mInv g gh R I_34 AI_78) → (AI_78 (gh 50 0) = T) → (0 ≤ k ∧ k ≤ 4) → (∀ b, b ≠ gh 75 0 → b ≠ gh 77 0 → AI_78 b = AI b) → (grM lc bxa na i.toNat (AI_78 (gh 75 0)) (I_34 mo 26).toInt.toNat) → (∀ j : Nat, (j : Int) < k → AI_78 (gh 77 0) j = tg (gTp lc bxa na (gk lc (tup bxa i.toNat))) j) → (4 - k) < ((NN : Nat) : Int) → gH g I_34 R J AI_78 AJ AR H → va_S (gA g) s.heap H locs → lv_has ls 15 [(11, .int (iI k)), (10, .int (iI hs1)), (9, .int (iI su)), (8, .int (iI v_54)), (7, .int (iI i)), (6, .int (iI v_32)), (5, .int (iI v_24)), (4, .int (iI v_16)), (3, .int (iI v_8)), (0, .ref mo), (1, .int (iI sd)), (2, .int (iI rr))] → W p l e rmX7_groupsf s m ([.ref mo, .int (iI sd), .int (iI rr)] : List Value).toArray below meth c H locs 0 0 (MQ below (gQv g (fun w : gS => R = w.2.1 ∧ J = w.2.2.1 ∧ AJ = w.2.2.2.2.1 ∧ AR = w.2.2.2.2.2 ∧ (mInv g gh R (w.1) (w.2.2.2.1)) ∧ ((w.2.2.2.1) (gh 50 0) = T) ∧ (wF mo I (w.1)) ∧ (∀ b, b ≠ gh 75 0 → b ≠ gh 77 0 → (w.2.2.2.1) b = AI b) ∧ (gaR ((w.2.2.2.1) (gh 75 0)) ((w.1) mo 26).toInt.toNat (sG lc bxa na)))) ([.ref mo, .int (iI sd), .int (iI rr)] : List Value).toArray s 0 0 (gA g)) (F0 m 224 ls []) := by
                  intro NN224
                  induction NN224 with
                  | zero =>
                    intro k AI_78 H locs ls zk hv hT hk1 fW hgr hgt hm224 hH hS hl
                    exact absurd hm224 (by omega)
                  | succ NN224 ih224 =>
                    intro k AI_78 H locs ls zk hv hT hk1 fW hgr hgt hm224 hH hS hl
                    have h56 : AI_78 (gh 56 0) = AI (gh 56 0) := fW _ (show gh 56 0 ≠ gh 75 0 from mNe hv hm (p := (6, 126720)) (q := (25, 9600)) (by decide) (by decide) (by decide)) (show gh 56 0 ≠ gh 77 0 from mNe hv hm (p := (6, 126720)) (q := (27, 4)) (by decide) (by decide) (by decide))
                    have h57 : AI_78 (gh 57 0) = AI (gh 57 0) := fW _ (show gh 57 0 ≠ gh 75 0 from mNe hv hm (p := (7, 176)) (q := (25, 9600)) (by decide) (by decide) (by decide)) (show gh 57 0 ≠ gh 77 0 from mNe hv hm (p := (7, 176)) (q := (27, 4)) (by decide) (by decide) (by decide))
                    refine lv_iload F.1 F.2.1 dX7_groups_224 (lv_at hl 0 rfl) ?_
                    refine z_iconst F dX7_groups_226 ?_
                    refine z_icmp_ge (tgt := 282) F dX7_groups_227 (by decide) zk ⟨by decide, by decide⟩ (fun c_80 => ?_) (fun c_80 => ?_)
                    · refine lv_aload_n F.1 F.2.1 dX7_groups_282 rfl (lv_at hl 9 rfl) ?_
                      refine z_iconst F dX7_groups_283 ?_
                      refine z_iconst F dX7_groups_284 ?_
                      refine g_calli (g_runV (As := [.int (iI 1), .int (iI 0)]) (rest := []) (ci := 7) F hl.1 hH hS hz (c_X7_gathersf l g gh T ((I_34 mo 26).toInt.toNat) (gPM lc bxa na i.toNat) (fun _ => 1) zM (gTp lc bxa na (gk lc (tup bxa i.toNat))) I_34 R J AI_78 AJ AR mo 1 0 ⟨by decide, by decide⟩ ⟨by decide, by decide⟩ hv hm hT (by omega) hgr (by omega) (fun j hj => hgt j (by omega))) (cwV 2 F.2.2.2.2.1 (good_up gT_X7_gathers) rfl rfl rfl hdX7_gathers ⟨Nat.le_of_ble_eq_true rfl, Nat.le_of_ble_eq_true rfl⟩) hm (by decide) rfl rfl rfl (Nat.le_of_ble_eq_true rfl) dX7_groups_285 ⟨Nat.zero_le _, Nat.zero_le _⟩) hS (fun v_87 I_81 R_82 J_83 AI_84 AJ_85 AR_86 H locs zv_87 hp_88 hH hS => ?_)
                      dsimp only at hp_88
                      obtain ⟨rfl, rfl, rfl, rfl, hv, hT, wfq, q_89, qga, fWq⟩ := hp_88
                      have wf := wF_t wf wfq
                      have u_90_2 : (I_81 mo 2).toInt = (I mo 2).toInt := by rw [wf 2 (by decide)]
                      have u_90_5 : (I_81 mo 5).toInt = (I mo 5).toInt := by rw [wf 5 (by decide)]
                      have u_90_14 : (I_81 mo 14).toInt = (I mo 14).toInt := by rw [wf 14 (by decide)]
                      have u_90_16 : (I_81 mo 16).toInt = (I mo 16).toInt := by rw [wf 16 (by decide)]
                      have u_90_24 : (I_81 mo 24).toInt = (I mo 24).toInt := by rw [wf 24 (by decide)]
                      have hgr9 := grM_s (by omega) (tIz_1 qfo (by omega)) qga
                      clear qga
                      have fW : ∀ b, b ≠ gh 75 0 → b ≠ gh 77 0 → AI_84 b = AI b := fun b h1 h2 => (fWq b h1).trans (fW b h1 h2)
                      refine lv_istore (lv' := [(11, .int (iI v_87)), (10, .int (iI hs1)), (9, .int (iI su)), (8, .int (iI v_54)), (7, .int (iI i)), (6, .int (iI v_32)), (5, .int (iI v_24)), (4, .int (iI v_16)), (3, .int (iI v_8)), (0, .ref mo), (1, .int (iI sd)), (2, .int (iI rr))]) F.1 F.2.1 dX7_groups_288 hl (by decide) rfl (fun ls hl => ?_)
                      refine lv_iload F.1 F.2.1 dX7_groups_290 (lv_at hl 0 rfl) ?_
                      refine z_if_ne (tgt := 298) F dX7_groups_292 (by decide) zv_87 (fun c_91 => ?_) (fun c_91 => ?_)
                      · rw [show i.toNat + 1 = (i + 1).toNat by omega] at hgr9
                        refine z_iinc (lv' := [(7, .int (iI (i + 1))), (11, .int (iI v_87)), (10, .int (iI hs1)), (9, .int (iI su)), (8, .int (iI v_54)), (6, .int (iI v_32)), (5, .int (iI v_24)), (4, .int (iI v_16)), (3, .int (iI v_8)), (0, .ref mo), (1, .int (iI sd)), (2, .int (iI rr))]) F dX7_groups_298 hl (k := 4) rfl (by decide) rfl (fun ls hl => ?_)
                        refine z_goto (tgt := 36) F dX7_groups_301 (by decide) ?_
                        exact ih36 (i + 1) I_81 AI_84 H locs ls ⟨by omega, by omega⟩ hv hT wf (by omega) fW hgr9 (by omega) (by omega) hH hS (lv_sub hl [0, 5, 6, 7, 8, 9, 10, 11] rfl)
                      · refine z_iconst F dX7_groups_295 ?_
                        refine lv_istore (lv' := [(9, .int (iI 0)), (11, .int (iI v_87)), (10, .int (iI hs1)), (8, .int (iI v_54)), (7, .int (iI i)), (6, .int (iI v_32)), (5, .int (iI v_24)), (4, .int (iI v_16)), (3, .int (iI v_8)), (0, .ref mo), (1, .int (iI sd)), (2, .int (iI rr))]) F.1 F.2.1 dX7_groups_296 hl (by decide) rfl (fun ls hl => ?_)
                        rw [show i.toNat + 1 = (i + 1).toNat by omega] at hgr9
                        refine z_iinc (lv' := [(7, .int (iI (i + 1))), (9, .int (iI 0)), (11, .int (iI v_87)), (10, .int (iI hs1)), (8, .int (iI v_54)), (6, .int (iI v_32)), (5, .int (iI v_24)), (4, .int (iI v_16)), (3, .int (iI v_8)), (0, .ref mo), (1, .int (iI sd)), (2, .int (iI rr))]) F dX7_groups_298 hl (k := 4) rfl (by decide) rfl (fun ls hl => ?_)
                        refine z_goto (tgt := 36) F dX7_groups_301 (by decide) ?_
                        exact ih36 (i + 1) I_81 AI_84 H locs ls ⟨by omega, by omega⟩ hv hT wf (by omega) fW hgr9 (by omega) (by omega) hH hS (lv_sub hl [0, 5, 6, 7, 8, 9, 10, 11] rfl)
                    · refine lv_aload_n F.1 F.2.1 dX7_groups_230 rfl (lv_at hl 9 rfl) ?_
                      obtain ⟨r_92a, r_92b⟩ : R mo 27 = some (gh 77 0) ∧ gAr g (gh 77 0) 9 4 := mR hv hm (q := (27, 4)) (by decide)
                      refine g_getR (ci := 7) (k := 27) F hH rfl (by decide) iX7 hm (by decide) rfl (b := gh 77 0) r_92a k45 dX7_groups_231 ?_
                      refine lv_iload F.1 F.2.1 dX7_groups_234 (lv_at hl 0 rfl) ?_
                      refine lv_iload F.1 F.2.1 dX7_groups_236 (lv_at hl 0 rfl) ?_
                      refine lv_iload F.1 F.2.1 dX7_groups_238 (lv_at hl 7 rfl) ?_
                      refine z_icmp_ge (tgt := 262) F dX7_groups_240 (by decide) zk zv_16 (fun c_93 => ?_) (fun c_93 => ?_)
                      · refine lv_iload F.1 F.2.1 dX7_groups_262 (lv_at hl 0 rfl) ?_
                        refine lv_iload F.1 F.2.1 dX7_groups_264 (lv_at hl 7 rfl) ?_
                        refine z_icmp_ne (tgt := 274) F dX7_groups_266 (by decide) zk zv_16 (fun c_94 => ?_) (fun c_94 => ?_)
                        · refine z_iconst F dX7_groups_274 ?_
                          have hx275 : 0 ≤ k ∧ k < ((4 : Nat) : Int) ∧ k ≤ 2147483647 := ⟨by omega, by omega, by omega⟩
                          refine g_iast F hH hS r_92b hx275.1 hx275.2.1 hx275.2.2 dX7_groups_275 (fun H locs hH hS => ?_)
                          obtain ⟨AI_95, eAI_95⟩ : ∃ qQ, qQ = gup2 AI_78 (gh 77 0) (k).toNat (iI (0)) := ⟨_, rfl⟩
                          rw [← eAI_95] at hH
                          have kAI_95 : ∀ b, b ≠ (gh 77 0) → AI_95 b = AI_78 b := fun b hb => by rw [eAI_95]; exact funext fun j => gup2_a _ _ hb
                          have hvO := hv
                          have t_96 : AI_95 (gh 50 0) = AI_78 (gh 50 0) := mK hv hm (p := (0, 640)) (q := (27, 4)) (by decide) (by decide) (by decide) kAI_95
                          have hv : mInv g gh R I_34 AI_95 := mInv_a hv hm (q := (27, 4)) (by decide) (by decide) kAI_95
                          have hT : AI_95 (gh 50 0) = T := t_96.trans hT
                          have hgt : ∀ j : Nat, (j : Int) < k + 1 → AI_95 (gh 77 0) j = tg (gTp lc bxa na (gk lc (tup bxa i.toNat))) j := fun j hj => by
                            by_cases e9 : (j : Int) = k
                            · rw [eAI_95, gup2_e _ _ (by omega)]; symm; exact by rw [gTp_r (by omega) (by omega) (by omega)]; rfl
                            · rw [eAI_95, gup2_k _ _ (by omega)]; exact hgt j (by omega)
                          have hgr : grM lc bxa na i.toNat (AI_95 (gh 75 0)) (I_34 mo 26).toInt.toNat := by rw [kAI_95 _ (show gh 75 0 ≠ gh 77 0 from mNe hv hm (p := (25, 9600)) (q := (27, 4)) (by decide) (by decide) (by decide))]; exact hgr
                          have fW : ∀ b, b ≠ gh 75 0 → b ≠ gh 77 0 → AI_95 b = AI b := fun b h1 h2 => (kAI_95 b h2).trans (fW b h1 h2)
                          refine z_iinc (lv' := [(11, .int (iI (k + 1))), (10, .int (iI hs1)), (9, .int (iI su)), (8, .int (iI v_54)), (7, .int (iI i)), (6, .int (iI v_32)), (5, .int (iI v_24)), (4, .int (iI v_16)), (3, .int (iI v_8)), (0, .ref mo), (1, .int (iI sd)), (2, .int (iI rr))]) F dX7_groups_276 hl (k := 0) rfl (by decide) rfl (fun ls hl => ?_)
                          refine z_goto (tgt := 224) F dX7_groups_279 (by decide) ?_
                          exact ih224 (k + 1) AI_95 H locs ls ⟨by omega, by omega⟩ hv hT (by omega) fW hgr hgt (by omega) hH hS (lv_sub hl [0, 1, 2, 3, 4, 5, 6, 7, 8, 9, 10, 11] rfl)
                        · refine lv_iload F.1 F.2.1 dX7_groups_269 (lv_at hl 2 rfl) ?_
                          refine z_goto (tgt := 275) F dX7_groups_271 (by decide) ?_
                          have hx275 : 0 ≤ k ∧ k < ((4 : Nat) : Int) ∧ k ≤ 2147483647 := ⟨by omega, by omega, by omega⟩
                          refine g_iast F hH hS r_92b hx275.1 hx275.2.1 hx275.2.2 dX7_groups_275 (fun H locs hH hS => ?_)
                          obtain ⟨AI_97, eAI_97⟩ : ∃ qQ, qQ = gup2 AI_78 (gh 77 0) (k).toNat (iI (su)) := ⟨_, rfl⟩
                          rw [← eAI_97] at hH
                          have kAI_97 : ∀ b, b ≠ (gh 77 0) → AI_97 b = AI_78 b := fun b hb => by rw [eAI_97]; exact funext fun j => gup2_a _ _ hb
                          have hvO := hv
                          have t_98 : AI_97 (gh 50 0) = AI_78 (gh 50 0) := mK hv hm (p := (0, 640)) (q := (27, 4)) (by decide) (by decide) (by decide) kAI_97
                          have hv : mInv g gh R I_34 AI_97 := mInv_a hv hm (q := (27, 4)) (by decide) (by decide) kAI_97
                          have hT : AI_97 (gh 50 0) = T := t_98.trans hT
                          have hgt : ∀ j : Nat, (j : Int) < k + 1 → AI_97 (gh 77 0) j = tg (gTp lc bxa na (gk lc (tup bxa i.toNat))) j := fun j hj => by
                            by_cases e9 : (j : Int) = k
                            · rw [eAI_97, gup2_e _ _ (by omega)]; symm; exact by rw [gTp_m (by omega) (by omega), hgv]
                            · rw [eAI_97, gup2_k _ _ (by omega)]; exact hgt j (by omega)
                          have hgr : grM lc bxa na i.toNat (AI_97 (gh 75 0)) (I_34 mo 26).toInt.toNat := by rw [kAI_97 _ (show gh 75 0 ≠ gh 77 0 from mNe hv hm (p := (25, 9600)) (q := (27, 4)) (by decide) (by decide) (by decide))]; exact hgr
                          have fW : ∀ b, b ≠ gh 75 0 → b ≠ gh 77 0 → AI_97 b = AI b := fun b h1 h2 => (kAI_97 b h2).trans (fW b h1 h2)
                          refine z_iinc (lv' := [(11, .int (iI (k + 1))), (10, .int (iI hs1)), (9, .int (iI su)), (8, .int (iI v_54)), (7, .int (iI i)), (6, .int (iI v_32)), (5, .int (iI v_24)), (4, .int (iI v_16)), (3, .int (iI v_8)), (0, .ref mo), (1, .int (iI sd)), (2, .int (iI rr))]) F dX7_groups_276 hl (k := 0) rfl (by decide) rfl (fun ls hl => ?_)
                          refine z_goto (tgt := 224) F dX7_groups_279 (by decide) ?_
                          exact ih224 (k + 1) AI_97 H locs ls ⟨by omega, by omega⟩ hv hT (by omega) fW hgr hgt (by omega) hH hS (lv_sub hl [0, 1, 2, 3, 4, 5, 6, 7, 8, 9, 10, 11] rfl)
                      · have q1 := x7b k (by omega) (by omega)
                        have hpk := gpM_at hgp (k := k) (by omega) (by omega)
                        refine lv_aload_n F.1 F.2.1 dX7_groups_243 rfl (lv_at hl 9 rfl) ?_
                        obtain ⟨r_99a, r_99b⟩ : R mo 6 = some (gh 56 0) ∧ gAr g (gh 56 0) 9 126720 := mR hv hm (q := (6, 126720)) (by decide)
                        refine g_getR (ci := 7) (k := 6) F hH rfl (by decide) iX7 hm (by decide) rfl (b := gh 56 0) r_99a k24 dX7_groups_244 ?_
                        refine lv_iload F.1 F.2.1 dX7_groups_247 (lv_at hl 3 rfl) ?_
                        refine lv_aload_n F.1 F.2.1 dX7_groups_249 rfl (lv_at hl 9 rfl) ?_
                        refine lv_iload_n F.1 F.2.1 dX7_groups_250 rfl (lv_at hl 11 rfl) ?_
                        refine lv_iload F.1 F.2.1 dX7_groups_251 (lv_at hl 0 rfl) ?_
                        refine z_iconst F dX7_groups_253 ?_
                        refine g_calli (g_runV (As := [.int (iI rr), .int (iI k), .int (iI 0)]) (rest := [.int (iI v_54), .ref (gh 56 0), .int (iI k), .ref (gh 77 0)]) (ci := 7) F hl.1 hH hS hz (c_X7_part l g gh T I_34 R J AI_78 AJ AR mo rr k 0 zrr zk ⟨by decide, by decide⟩ hv hm hT (by omega) (by omega) (by omega)) (cwV 3 F.2.2.2.2.1 (good_up gT_X7_part) rfl rfl rfl hdX7_part ⟨Nat.le_of_ble_eq_true rfl, Nat.le_of_ble_eq_true rfl⟩) hm (by decide) rfl rfl rfl (Nat.le_of_ble_eq_true rfl) dX7_groups_254 ⟨Nat.zero_le _, Nat.zero_le _⟩) hS (fun v_106 I_100 R_101 J_102 AI_103 AJ_104 AR_105 H locs zv_106 hp_107 hH hS => ?_)
                        dsimp only at hp_107
                        obtain ⟨rfl, rfl, rfl, rfl, rfl, rfl, qp0⟩ := hp_107
                        refine z_iadd F dX7_groups_257 ?_
                        have hx258 : 0 ≤ (v_54 + v_106) ∧ (v_54 + v_106) < ((126720 : Nat) : Int) ∧ (v_54 + v_106) ≤ 2147483647 := ⟨by omega, by omega, by omega⟩
                        refine g_iald F hH r_99b hx258.1 hx258.2.1 hx258.2.2 dX7_groups_258 ?_
                        refine z_name (fun v_108 ev_108 => ?_)
                        have zv_108 : zr v_108 := by rw [ev_108]; exact zr_t _
                        have c258 : iI v_108 = tg (tup bxa i.toNat) (lc.2 k.toNat 0).toNat := by rw [ev_108, iI_self, h56, tg_up _ (by omega), ← hXa9 _ (by omega)]; congr 1; omega
                        refine z_goto (tgt := 275) F dX7_groups_259 (by decide) ?_
                        have hx275 : 0 ≤ k ∧ k < ((4 : Nat) : Int) ∧ k ≤ 2147483647 := ⟨by omega, by omega, by omega⟩
                        refine g_iast F hH hS r_92b hx275.1 hx275.2.1 hx275.2.2 dX7_groups_275 (fun H locs hH hS => ?_)
                        obtain ⟨AI_109, eAI_109⟩ : ∃ qQ, qQ = gup2 AI_78 (gh 77 0) (k).toNat (iI (v_108)) := ⟨_, rfl⟩
                        rw [← eAI_109] at hH
                        have kAI_109 : ∀ b, b ≠ (gh 77 0) → AI_109 b = AI_78 b := fun b hb => by rw [eAI_109]; exact funext fun j => gup2_a _ _ hb
                        have hvO := hv
                        have t_110 : AI_109 (gh 50 0) = AI_78 (gh 50 0) := mK hv hm (p := (0, 640)) (q := (27, 4)) (by decide) (by decide) (by decide) kAI_109
                        have hv : mInv g gh R I_34 AI_109 := mInv_a hv hm (q := (27, 4)) (by decide) (by decide) kAI_109
                        have hT : AI_109 (gh 50 0) = T := t_110.trans hT
                        have hgt : ∀ j : Nat, (j : Int) < k + 1 → AI_109 (gh 77 0) j = tg (gTp lc bxa na (gk lc (tup bxa i.toNat))) j := fun j hj => by
                          by_cases e9 : (j : Int) = k
                          · rw [eAI_109, gup2_e _ _ (by omega)]; symm; exact by rw [gTp_l (by omega) (by omega), show j = k.toNat by omega, ← c258]
                          · rw [eAI_109, gup2_k _ _ (by omega)]; exact hgt j (by omega)
                        have hgr : grM lc bxa na i.toNat (AI_109 (gh 75 0)) (I_34 mo 26).toInt.toNat := by rw [kAI_109 _ (show gh 75 0 ≠ gh 77 0 from mNe hv hm (p := (25, 9600)) (q := (27, 4)) (by decide) (by decide) (by decide))]; exact hgr
                        have fW : ∀ b, b ≠ gh 75 0 → b ≠ gh 77 0 → AI_109 b = AI b := fun b h1 h2 => (kAI_109 b h2).trans (fW b h1 h2)
                        refine z_iinc (lv' := [(11, .int (iI (k + 1))), (10, .int (iI hs1)), (9, .int (iI su)), (8, .int (iI v_54)), (7, .int (iI i)), (6, .int (iI v_32)), (5, .int (iI v_24)), (4, .int (iI v_16)), (3, .int (iI v_8)), (0, .ref mo), (1, .int (iI sd)), (2, .int (iI rr))]) F dX7_groups_276 hl (k := 0) rfl (by decide) rfl (fun ls hl => ?_)
                        refine z_goto (tgt := 224) F dX7_groups_279 (by decide) ?_
                        exact ih224 (k + 1) AI_109 H locs ls ⟨by omega, by omega⟩ hv hT (by omega) fW hgr hgt (by omega) hH hS (lv_sub hl [0, 1, 2, 3, 4, 5, 6, 7, 8, 9, 10, 11] rfl)
                exact cut_224_78 (((4 - 0) + 1 : Int).toNat) 0 AI_35 H locs ls ⟨by decide, by decide⟩ hv hT (by omega) fW hgr (fun j hj => absurd hj (by omega)) (by omega) hH hS (lv_sub hl [0, 1, 2, 3, 4, 5, 6, 7, 8, 9, 10, 11] rfl)
              · refine lv_iload_n F.1 F.2.1 dX7_groups_91 rfl (lv_at hl 10 rfl) ?_
                refine lv_iload_n F.1 F.2.1 dX7_groups_92 rfl (lv_at hl 8 rfl) ?_
                refine lv_iload F.1 F.2.1 dX7_groups_93 (lv_at hl 0 rfl) ?_
                refine g_calli (g_runS (As := [.int (iI sd), .int (iI v_8), .int (iI jj)]) (rest := []) F hl.1 hH hS hz (c_X7_spot l g  I_34 R J AI_35 AJ AR sd v_8 jj zsd zv_8 zjj (by omega) (by omega) (by omega)) (va_cwS 3 F.2.2.2.2.1 (good_up gT_X7_spot) rfl rfl rfl hdX7_spot.2 ⟨Nat.le_of_ble_eq_true rfl, Nat.le_of_ble_eq_true rfl⟩) rfl rfl (Nat.le_of_ble_eq_true rfl) dX7_groups_95 ⟨Nat.zero_le _, Nat.zero_le _⟩) hS (fun v_117 I_111 R_112 J_113 AI_114 AJ_115 AR_116 H locs zv_117 hp_118 hH hS => ?_)
                dsimp only at hp_118
                obtain ⟨rfl, rfl, rfl, rfl, rfl, rfl, q_119⟩ := hp_118
                refine lv_istore (lv' := [(12, .int (iI v_117)), (11, .int (iI jj)), (10, .int (iI hs1)), (9, .int (iI su)), (8, .int (iI v_54)), (7, .int (iI i)), (6, .int (iI v_32)), (5, .int (iI v_24)), (4, .int (iI v_16)), (3, .int (iI v_8)), (0, .ref mo), (1, .int (iI sd)), (2, .int (iI rr))]) F.1 F.2.1 dX7_groups_98 hl (by decide) rfl (fun ls hl => ?_)
                refine lv_aload_n F.1 F.2.1 dX7_groups_100 rfl (lv_at hl 10 rfl) ?_
                refine lv_iload_n F.1 F.2.1 dX7_groups_101 rfl (lv_at hl 12 rfl) ?_
                refine lv_iload F.1 F.2.1 dX7_groups_102 (lv_at hl 4 rfl) ?_
                refine lv_iload F.1 F.2.1 dX7_groups_104 (lv_at hl 0 rfl) ?_
                refine g_calli (g_runV (As := [.int (iI rr), .int (iI v_54), .int (iI v_117)]) (rest := []) (ci := 7) F hl.1 hH hS hz (c_X7_areOneGroupf l g gh T lc (tup bxa i.toNat) (tup bxa jj.toNat) I_34 R J AI_35 AJ AR mo rr v_54 v_117 zrr zv_54 zv_117 hv hm hT (by omega) (by omega) (by omega) hgp (fun j hj => by rw [h56, tg_up j hj, ← hXa9 _ (by omega)]; congr 1; omega) (fun j hj => by rw [h56, tg_up j hj, ← hXa9 _ (by omega)]; congr 1; omega)) (cwV 3 F.2.2.2.2.1 (good_up gT_X7_areOneGroup) rfl rfl rfl hdX7_areOneGroup ⟨Nat.le_of_ble_eq_true rfl, Nat.le_of_ble_eq_true rfl⟩) hm (by decide) rfl rfl rfl (Nat.le_of_ble_eq_true rfl) dX7_groups_106 ⟨Nat.zero_le _, Nat.zero_le _⟩) hS (fun v_126 I_120 R_121 J_122 AI_123 AJ_124 AR_125 H locs zv_126 hp_127 hH hS => ?_)
                dsimp only at hp_127
                obtain ⟨rfl, rfl, rfl, rfl, rfl, rfl, q_128, qog⟩ := hp_127
                refine z_if_ne (tgt := 115) F dX7_groups_109 (by decide) zv_126 (fun c_129 => ?_) (fun c_129 => ?_)
                · have hog : gk lc (tup bxa jj.toNat) = (gk lc (tup bxa i.toNat)) := (tIz_1 qog (by omega)).symm
                  refine lv_aload_n F.1 F.2.1 dX7_groups_115 rfl (lv_at hl 10 rfl) ?_
                  obtain ⟨r_130a, r_130b⟩ : R mo 6 = some (gh 56 0) ∧ gAr g (gh 56 0) 9 126720 := mR hv hm (q := (6, 126720)) (by decide)
                  refine g_getR (ci := 7) (k := 6) F hH rfl (by decide) iX7 hm (by decide) rfl (b := gh 56 0) r_130a k24 dX7_groups_116 ?_
                  refine lv_iload F.1 F.2.1 dX7_groups_119 (lv_at hl 0 rfl) ?_
                  refine lv_iload F.1 F.2.1 dX7_groups_121 (lv_at hl 6 rfl) ?_
                  refine z_iadd F dX7_groups_123 ?_
                  have hx124 : 0 ≤ (v_117 + v_32) ∧ (v_117 + v_32) < ((126720 : Nat) : Int) ∧ (v_117 + v_32) ≤ 2147483647 := ⟨by omega, by omega, by omega⟩
                  refine g_iald F hH r_130b hx124.1 hx124.2.1 hx124.2.2 dX7_groups_124 ?_
                  refine z_name (fun v_131 ev_131 => ?_)
                  have zv_131 : zr v_131 := by rw [ev_131]; exact zr_t _
                  have c124 : iI v_131 = tg (tup bxa jj.toNat) (lc.1 10).toNat := by rw [ev_131, iI_self, h56, tg_up _ (by omega), ← hXa9 _ (by omega)]; congr 1; omega
                  refine lv_istore (lv' := [(13, .int (iI v_131)), (12, .int (iI v_117)), (11, .int (iI jj)), (10, .int (iI hs1)), (9, .int (iI su)), (8, .int (iI v_54)), (7, .int (iI i)), (6, .int (iI v_32)), (5, .int (iI v_24)), (4, .int (iI v_16)), (3, .int (iI v_8)), (0, .ref mo), (1, .int (iI sd)), (2, .int (iI rr))]) F.1 F.2.1 dX7_groups_125 hl (by decide) rfl (fun ls hl => ?_)
                  refine lv_aload_n F.1 F.2.1 dX7_groups_127 rfl (lv_at hl 11 rfl) ?_
                  refine g_getR (ci := 7) (k := 6) F hH rfl (by decide) iX7 hm (by decide) rfl (b := gh 56 0) r_130a k24 dX7_groups_128 ?_
                  refine lv_iload F.1 F.2.1 dX7_groups_131 (lv_at hl 1 rfl) ?_
                  refine z_iconst F dX7_groups_133 ?_
                  refine z_iadd F dX7_groups_134 ?_
                  have hx135 : 0 ≤ (v_117 + 4) ∧ (v_117 + 4) < ((126720 : Nat) : Int) ∧ (v_117 + 4) ≤ 2147483647 := ⟨by omega, by omega, by omega⟩
                  refine g_iald F hH r_130b hx135.1 hx135.2.1 hx135.2.2 dX7_groups_135 ?_
                  refine z_name (fun v_132 ev_132 => ?_)
                  have zv_132 : zr v_132 := by rw [ev_132]; exact zr_t _
                  have c135 : iI v_132 = bxa (6 * jj.toNat + 4) := by rw [ev_132, iI_self, h56, ← hXa9 _ (by omega)]; congr 1; omega
                  refine lv_istore (lv' := [(14, .int (iI v_132)), (13, .int (iI v_131)), (12, .int (iI v_117)), (11, .int (iI jj)), (10, .int (iI hs1)), (9, .int (iI su)), (8, .int (iI v_54)), (7, .int (iI i)), (6, .int (iI v_32)), (5, .int (iI v_24)), (4, .int (iI v_16)), (3, .int (iI v_8)), (0, .ref mo), (1, .int (iI sd)), (2, .int (iI rr))]) F.1 F.2.1 dX7_groups_136 hl (by decide) rfl (fun ls hl => ?_)
                  refine lv_iload F.1 F.2.1 dX7_groups_138 (lv_at hl 9 rfl) ?_
                  refine z_if_ne (tgt := 150) F dX7_groups_140 (by decide) zv_24 (fun c_133 => ?_) (fun c_133 => ?_)
                  · refine lv_iload F.1 F.2.1 dX7_groups_150 (lv_at hl 9 rfl) ?_
                    refine z_iconst F dX7_groups_152 ?_
                    refine z_icmp_ne (tgt := 166) F dX7_groups_153 (by decide) zv_24 ⟨by decide, by decide⟩ (fun c_134 => ?_) (fun c_134 => ?_)
                    · refine lv_iload F.1 F.2.1 dX7_groups_166 (lv_at hl 9 rfl) ?_
                      refine z_iconst F dX7_groups_168 ?_
                      refine z_icmp_lt (tgt := 215) F dX7_groups_169 (by decide) zv_24 ⟨by decide, by decide⟩ (fun c_135 => ?_) (fun c_135 => ?_)
                      · exact absurd trivial (by omega)
                      · refine lv_iload F.1 F.2.1 dX7_groups_172 (lv_at hl 0 rfl) ?_
                        refine z_if_gt (tgt := 180) F dX7_groups_174 (by decide) zv_132 (fun c_136 => ?_) (fun c_136 => ?_)
                        · refine lv_iload F.1 F.2.1 dX7_groups_180 (lv_at hl 4 rfl) ?_
                          refine z_if_eq (tgt := 208) F dX7_groups_182 (by decide) zhs1 (fun c_137 => ?_) (fun c_137 => ?_)
                          · refine lv_iload F.1 F.2.1 dX7_groups_208 (lv_at hl 1 rfl) ?_
                            refine lv_istore (lv' := [(9, .int (iI v_131)), (14, .int (iI v_132)), (13, .int (iI v_131)), (12, .int (iI v_117)), (11, .int (iI jj)), (10, .int (iI hs1)), (8, .int (iI v_54)), (7, .int (iI i)), (6, .int (iI v_32)), (5, .int (iI v_24)), (4, .int (iI v_16)), (3, .int (iI v_8)), (0, .ref mo), (1, .int (iI sd)), (2, .int (iI rr))]) F.1 F.2.1 dX7_groups_210 hl (by decide) rfl (fun ls hl => ?_)
                            refine z_iconst F dX7_groups_212 ?_
                            refine lv_istore (lv' := [(10, .int (iI 1)), (9, .int (iI v_131)), (14, .int (iI v_132)), (13, .int (iI v_131)), (12, .int (iI v_117)), (11, .int (iI jj)), (8, .int (iI v_54)), (7, .int (iI i)), (6, .int (iI v_32)), (5, .int (iI v_24)), (4, .int (iI v_16)), (3, .int (iI v_8)), (0, .ref mo), (1, .int (iI sd)), (2, .int (iI rr))]) F.1 F.2.1 dX7_groups_213 hl (by decide) rfl (fun ls hl => ?_)
                            have hgi9 := gfI_t hgi hog (by omega) (by rw [← c135, iI_val zv_132]; omega) zsu zv_131 c124 (by first | exact Or.inl (by omega) | exact Or.inr (Or.inl ⟨by omega, by omega⟩) | exact Or.inr (Or.inr ⟨by omega, by omega⟩))
                            rw [show jj.toNat + 1 = (jj + 1).toNat by omega] at hgi9
                            refine z_iinc (lv' := [(11, .int (iI (jj + 1))), (10, .int (iI 1)), (9, .int (iI v_131)), (14, .int (iI v_132)), (13, .int (iI v_131)), (12, .int (iI v_117)), (8, .int (iI v_54)), (7, .int (iI i)), (6, .int (iI v_32)), (5, .int (iI v_24)), (4, .int (iI v_16)), (3, .int (iI v_8)), (0, .ref mo), (1, .int (iI sd)), (2, .int (iI rr))]) F dX7_groups_215 hl (k := 5) rfl (by decide) rfl (fun ls hl => ?_)
                            refine z_goto (tgt := 80) F dX7_groups_218 (by decide) ?_
                            exact ih80 v_131 1 (jj + 1) H locs ls zv_131 ⟨by decide, by decide⟩ ⟨by omega, by omega⟩ (by omega) hgi9 (by omega) (by omega) hH hS (lv_sub hl [0, 1, 2, 6, 7, 8, 9, 10, 11, 12, 13, 14] rfl)
                          · refine lv_iload F.1 F.2.1 dX7_groups_185 (lv_at hl 9 rfl) ?_
                            refine z_iconst F dX7_groups_187 ?_
                            refine z_icmp_ne (tgt := 201) F dX7_groups_188 (by decide) zv_24 ⟨by decide, by decide⟩ (fun c_138 => ?_) (fun c_138 => ?_)
                            · refine lv_iload F.1 F.2.1 dX7_groups_201 (lv_at hl 1 rfl) ?_
                              refine lv_iload F.1 F.2.1 dX7_groups_203 (lv_at hl 5 rfl) ?_
                              refine z_icmp_le (tgt := 212) F dX7_groups_205 (by decide) zv_131 zsu (fun c_139 => ?_) (fun c_139 => ?_)
                              · refine z_iconst F dX7_groups_212 ?_
                                refine lv_istore (lv' := [(10, .int (iI 1)), (14, .int (iI v_132)), (13, .int (iI v_131)), (12, .int (iI v_117)), (11, .int (iI jj)), (9, .int (iI su)), (8, .int (iI v_54)), (7, .int (iI i)), (6, .int (iI v_32)), (5, .int (iI v_24)), (4, .int (iI v_16)), (3, .int (iI v_8)), (0, .ref mo), (1, .int (iI sd)), (2, .int (iI rr))]) F.1 F.2.1 dX7_groups_213 hl (by decide) rfl (fun ls hl => ?_)
                                have hgi9 := gfI_k hgi hog (by omega) (by rw [← c135, iI_val zv_132]; omega) zsu zv_131 c124 (by rintro (h9 | h9 | h9) <;> omega)
                                rw [show jj.toNat + 1 = (jj + 1).toNat by omega] at hgi9
                                refine z_iinc (lv' := [(11, .int (iI (jj + 1))), (10, .int (iI 1)), (14, .int (iI v_132)), (13, .int (iI v_131)), (12, .int (iI v_117)), (9, .int (iI su)), (8, .int (iI v_54)), (7, .int (iI i)), (6, .int (iI v_32)), (5, .int (iI v_24)), (4, .int (iI v_16)), (3, .int (iI v_8)), (0, .ref mo), (1, .int (iI sd)), (2, .int (iI rr))]) F dX7_groups_215 hl (k := 4) rfl (by decide) rfl (fun ls hl => ?_)
                                refine z_goto (tgt := 80) F dX7_groups_218 (by decide) ?_
                                exact ih80 su 1 (jj + 1) H locs ls zsu ⟨by decide, by decide⟩ ⟨by omega, by omega⟩ (by omega) hgi9 (by omega) (by omega) hH hS (lv_sub hl [0, 1, 5, 6, 7, 8, 9, 10, 11, 12, 13, 14] rfl)
                              · refine lv_iload F.1 F.2.1 dX7_groups_208 (lv_at hl 1 rfl) ?_
                                refine lv_istore (lv' := [(9, .int (iI v_131)), (14, .int (iI v_132)), (13, .int (iI v_131)), (12, .int (iI v_117)), (11, .int (iI jj)), (10, .int (iI hs1)), (8, .int (iI v_54)), (7, .int (iI i)), (6, .int (iI v_32)), (5, .int (iI v_24)), (4, .int (iI v_16)), (3, .int (iI v_8)), (0, .ref mo), (1, .int (iI sd)), (2, .int (iI rr))]) F.1 F.2.1 dX7_groups_210 hl (by decide) rfl (fun ls hl => ?_)
                                refine z_iconst F dX7_groups_212 ?_
                                refine lv_istore (lv' := [(10, .int (iI 1)), (9, .int (iI v_131)), (14, .int (iI v_132)), (13, .int (iI v_131)), (12, .int (iI v_117)), (11, .int (iI jj)), (8, .int (iI v_54)), (7, .int (iI i)), (6, .int (iI v_32)), (5, .int (iI v_24)), (4, .int (iI v_16)), (3, .int (iI v_8)), (0, .ref mo), (1, .int (iI sd)), (2, .int (iI rr))]) F.1 F.2.1 dX7_groups_213 hl (by decide) rfl (fun ls hl => ?_)
                                have hgi9 := gfI_t hgi hog (by omega) (by rw [← c135, iI_val zv_132]; omega) zsu zv_131 c124 (by first | exact Or.inl (by omega) | exact Or.inr (Or.inl ⟨by omega, by omega⟩) | exact Or.inr (Or.inr ⟨by omega, by omega⟩))
                                rw [show jj.toNat + 1 = (jj + 1).toNat by omega] at hgi9
                                refine z_iinc (lv' := [(11, .int (iI (jj + 1))), (10, .int (iI 1)), (9, .int (iI v_131)), (14, .int (iI v_132)), (13, .int (iI v_131)), (12, .int (iI v_117)), (8, .int (iI v_54)), (7, .int (iI i)), (6, .int (iI v_32)), (5, .int (iI v_24)), (4, .int (iI v_16)), (3, .int (iI v_8)), (0, .ref mo), (1, .int (iI sd)), (2, .int (iI rr))]) F dX7_groups_215 hl (k := 5) rfl (by decide) rfl (fun ls hl => ?_)
                                refine z_goto (tgt := 80) F dX7_groups_218 (by decide) ?_
                                exact ih80 v_131 1 (jj + 1) H locs ls zv_131 ⟨by decide, by decide⟩ ⟨by omega, by omega⟩ (by omega) hgi9 (by omega) (by omega) hH hS (lv_sub hl [0, 1, 2, 6, 7, 8, 9, 10, 11, 12, 13, 14] rfl)
                            · refine lv_iload F.1 F.2.1 dX7_groups_191 (lv_at hl 1 rfl) ?_
                              refine lv_iload F.1 F.2.1 dX7_groups_193 (lv_at hl 5 rfl) ?_
                              refine z_icmp_ge (tgt := 212) F dX7_groups_195 (by decide) zv_131 zsu (fun c_140 => ?_) (fun c_140 => ?_)
                              · refine z_iconst F dX7_groups_212 ?_
                                refine lv_istore (lv' := [(10, .int (iI 1)), (14, .int (iI v_132)), (13, .int (iI v_131)), (12, .int (iI v_117)), (11, .int (iI jj)), (9, .int (iI su)), (8, .int (iI v_54)), (7, .int (iI i)), (6, .int (iI v_32)), (5, .int (iI v_24)), (4, .int (iI v_16)), (3, .int (iI v_8)), (0, .ref mo), (1, .int (iI sd)), (2, .int (iI rr))]) F.1 F.2.1 dX7_groups_213 hl (by decide) rfl (fun ls hl => ?_)
                                have hgi9 := gfI_k hgi hog (by omega) (by rw [← c135, iI_val zv_132]; omega) zsu zv_131 c124 (by rintro (h9 | h9 | h9) <;> omega)
                                rw [show jj.toNat + 1 = (jj + 1).toNat by omega] at hgi9
                                refine z_iinc (lv' := [(11, .int (iI (jj + 1))), (10, .int (iI 1)), (14, .int (iI v_132)), (13, .int (iI v_131)), (12, .int (iI v_117)), (9, .int (iI su)), (8, .int (iI v_54)), (7, .int (iI i)), (6, .int (iI v_32)), (5, .int (iI v_24)), (4, .int (iI v_16)), (3, .int (iI v_8)), (0, .ref mo), (1, .int (iI sd)), (2, .int (iI rr))]) F dX7_groups_215 hl (k := 4) rfl (by decide) rfl (fun ls hl => ?_)
                                refine z_goto (tgt := 80) F dX7_groups_218 (by decide) ?_
                                exact ih80 su 1 (jj + 1) H locs ls zsu ⟨by decide, by decide⟩ ⟨by omega, by omega⟩ (by omega) hgi9 (by omega) (by omega) hH hS (lv_sub hl [0, 1, 5, 6, 7, 8, 9, 10, 11, 12, 13, 14] rfl)
                              · refine z_goto (tgt := 208) F dX7_groups_198 (by decide) ?_
                                refine lv_iload F.1 F.2.1 dX7_groups_208 (lv_at hl 1 rfl) ?_
                                refine lv_istore (lv' := [(9, .int (iI v_131)), (14, .int (iI v_132)), (13, .int (iI v_131)), (12, .int (iI v_117)), (11, .int (iI jj)), (10, .int (iI hs1)), (8, .int (iI v_54)), (7, .int (iI i)), (6, .int (iI v_32)), (5, .int (iI v_24)), (4, .int (iI v_16)), (3, .int (iI v_8)), (0, .ref mo), (1, .int (iI sd)), (2, .int (iI rr))]) F.1 F.2.1 dX7_groups_210 hl (by decide) rfl (fun ls hl => ?_)
                                refine z_iconst F dX7_groups_212 ?_
                                refine lv_istore (lv' := [(10, .int (iI 1)), (9, .int (iI v_131)), (14, .int (iI v_132)), (13, .int (iI v_131)), (12, .int (iI v_117)), (11, .int (iI jj)), (8, .int (iI v_54)), (7, .int (iI i)), (6, .int (iI v_32)), (5, .int (iI v_24)), (4, .int (iI v_16)), (3, .int (iI v_8)), (0, .ref mo), (1, .int (iI sd)), (2, .int (iI rr))]) F.1 F.2.1 dX7_groups_213 hl (by decide) rfl (fun ls hl => ?_)
                                have hgi9 := gfI_t hgi hog (by omega) (by rw [← c135, iI_val zv_132]; omega) zsu zv_131 c124 (by first | exact Or.inl (by omega) | exact Or.inr (Or.inl ⟨by omega, by omega⟩) | exact Or.inr (Or.inr ⟨by omega, by omega⟩))
                                rw [show jj.toNat + 1 = (jj + 1).toNat by omega] at hgi9
                                refine z_iinc (lv' := [(11, .int (iI (jj + 1))), (10, .int (iI 1)), (9, .int (iI v_131)), (14, .int (iI v_132)), (13, .int (iI v_131)), (12, .int (iI v_117)), (8, .int (iI v_54)), (7, .int (iI i)), (6, .int (iI v_32)), (5, .int (iI v_24)), (4, .int (iI v_16)), (3, .int (iI v_8)), (0, .ref mo), (1, .int (iI sd)), (2, .int (iI rr))]) F dX7_groups_215 hl (k := 5) rfl (by decide) rfl (fun ls hl => ?_)
                                refine z_goto (tgt := 80) F dX7_groups_218 (by decide) ?_
                                exact ih80 v_131 1 (jj + 1) H locs ls zv_131 ⟨by decide, by decide⟩ ⟨by omega, by omega⟩ (by omega) hgi9 (by omega) (by omega) hH hS (lv_sub hl [0, 1, 2, 6, 7, 8, 9, 10, 11, 12, 13, 14] rfl)
                        · refine z_goto (tgt := 215) F dX7_groups_177 (by decide) ?_
                          have hgi9 := gfI_z hgi hog (by omega) (by rw [← c135, iI_val zv_132]; omega)
                          rw [show jj.toNat + 1 = (jj + 1).toNat by omega] at hgi9
                          refine z_iinc (lv' := [(11, .int (iI (jj + 1))), (14, .int (iI v_132)), (13, .int (iI v_131)), (12, .int (iI v_117)), (10, .int (iI hs1)), (9, .int (iI su)), (8, .int (iI v_54)), (7, .int (iI i)), (6, .int (iI v_32)), (5, .int (iI v_24)), (4, .int (iI v_16)), (3, .int (iI v_8)), (0, .ref mo), (1, .int (iI sd)), (2, .int (iI rr))]) F dX7_groups_215 hl (k := 3) rfl (by decide) rfl (fun ls hl => ?_)
                          refine z_goto (tgt := 80) F dX7_groups_218 (by decide) ?_
                          exact ih80 su hs1 (jj + 1) H locs ls zsu zhs1 ⟨by omega, by omega⟩ (by omega) hgi9 (by omega) (by omega) hH hS (lv_sub hl [0, 4, 5, 6, 7, 8, 9, 10, 11, 12, 13, 14] rfl)
                    · refine lv_iload F.1 F.2.1 dX7_groups_156 (lv_at hl 5 rfl) ?_
                      refine lv_iload F.1 F.2.1 dX7_groups_158 (lv_at hl 0 rfl) ?_
                      refine lv_iload F.1 F.2.1 dX7_groups_160 (lv_at hl 1 rfl) ?_
                      refine z_imul F dX7_groups_162 ?_
                      refine z_iadd F dX7_groups_163 ?_
                      refine z_norm (fun v_141 zv_141 ev_141 => ?_)
                      have hsu : iI v_141 = iI su + bxa (6 * jj.toNat + 4) * tg (tup bxa jj.toNat) (lc.1 10).toNat := by rw [ev_141, ← iI_add, ← iI_mul, c135, c124]
                      refine lv_istore (lv' := [(9, .int (iI v_141)), (14, .int (iI v_132)), (13, .int (iI v_131)), (12, .int (iI v_117)), (11, .int (iI jj)), (10, .int (iI hs1)), (8, .int (iI v_54)), (7, .int (iI i)), (6, .int (iI v_32)), (5, .int (iI v_24)), (4, .int (iI v_16)), (3, .int (iI v_8)), (0, .ref mo), (1, .int (iI sd)), (2, .int (iI rr))]) F.1 F.2.1 dX7_groups_164 hl (by decide) rfl (fun ls hl => ?_)
                      refine lv_iload F.1 F.2.1 dX7_groups_166 (lv_at hl 9 rfl) ?_
                      refine z_iconst F dX7_groups_168 ?_
                      refine z_icmp_lt (tgt := 215) F dX7_groups_169 (by decide) zv_24 ⟨by decide, by decide⟩ (fun c_142 => ?_) (fun c_142 => ?_)
                      · have hgi9 := gfI_s hgi hog (by omega) hsu
                        rw [show jj.toNat + 1 = (jj + 1).toNat by omega] at hgi9
                        refine z_iinc (lv' := [(11, .int (iI (jj + 1))), (9, .int (iI v_141)), (14, .int (iI v_132)), (13, .int (iI v_131)), (12, .int (iI v_117)), (10, .int (iI hs1)), (8, .int (iI v_54)), (7, .int (iI i)), (6, .int (iI v_32)), (5, .int (iI v_24)), (4, .int (iI v_16)), (3, .int (iI v_8)), (0, .ref mo), (1, .int (iI sd)), (2, .int (iI rr))]) F dX7_groups_215 hl (k := 4) rfl (by decide) rfl (fun ls hl => ?_)
                        refine z_goto (tgt := 80) F dX7_groups_218 (by decide) ?_
                        exact ih80 v_141 hs1 (jj + 1) H locs ls zv_141 zhs1 ⟨by omega, by omega⟩ (by omega) hgi9 (by omega) (by omega) hH hS (lv_sub hl [0, 5, 1, 6, 7, 8, 9, 10, 11, 12, 13, 14] rfl)
                      · exact absurd trivial (by omega)
                  · refine lv_iload F.1 F.2.1 dX7_groups_143 (lv_at hl 5 rfl) ?_
                    refine lv_iload F.1 F.2.1 dX7_groups_145 (lv_at hl 0 rfl) ?_
                    refine z_iadd F dX7_groups_147 ?_
                    refine z_norm (fun v_143 zv_143 ev_143 => ?_)
                    have hsu : iI v_143 = iI su + bxa (6 * jj.toNat + 4) := by rw [ev_143, ← iI_add, c135]
                    refine lv_istore (lv' := [(9, .int (iI v_143)), (14, .int (iI v_132)), (13, .int (iI v_131)), (12, .int (iI v_117)), (11, .int (iI jj)), (10, .int (iI hs1)), (8, .int (iI v_54)), (7, .int (iI i)), (6, .int (iI v_32)), (5, .int (iI v_24)), (4, .int (iI v_16)), (3, .int (iI v_8)), (0, .ref mo), (1, .int (iI sd)), (2, .int (iI rr))]) F.1 F.2.1 dX7_groups_148 hl (by decide) rfl (fun ls hl => ?_)
                    refine lv_iload F.1 F.2.1 dX7_groups_150 (lv_at hl 9 rfl) ?_
                    refine z_iconst F dX7_groups_152 ?_
                    refine z_icmp_ne (tgt := 166) F dX7_groups_153 (by decide) zv_24 ⟨by decide, by decide⟩ (fun c_144 => ?_) (fun c_144 => ?_)
                    · refine lv_iload F.1 F.2.1 dX7_groups_166 (lv_at hl 9 rfl) ?_
                      refine z_iconst F dX7_groups_168 ?_
                      refine z_icmp_lt (tgt := 215) F dX7_groups_169 (by decide) zv_24 ⟨by decide, by decide⟩ (fun c_145 => ?_) (fun c_145 => ?_)
                      · have hgi9 := gfI_c hgi hog (by omega) hsu
                        rw [show jj.toNat + 1 = (jj + 1).toNat by omega] at hgi9
                        refine z_iinc (lv' := [(11, .int (iI (jj + 1))), (9, .int (iI v_143)), (14, .int (iI v_132)), (13, .int (iI v_131)), (12, .int (iI v_117)), (10, .int (iI hs1)), (8, .int (iI v_54)), (7, .int (iI i)), (6, .int (iI v_32)), (5, .int (iI v_24)), (4, .int (iI v_16)), (3, .int (iI v_8)), (0, .ref mo), (1, .int (iI sd)), (2, .int (iI rr))]) F dX7_groups_215 hl (k := 4) rfl (by decide) rfl (fun ls hl => ?_)
                        refine z_goto (tgt := 80) F dX7_groups_218 (by decide) ?_
                        exact ih80 v_143 hs1 (jj + 1) H locs ls zv_143 zhs1 ⟨by omega, by omega⟩ (by omega) hgi9 (by omega) (by omega) hH hS (lv_sub hl [0, 5, 1, 6, 7, 8, 9, 10, 11, 12, 13, 14] rfl)
                      · exact absurd trivial (by omega)
                    · exact absurd trivial (by omega)
                · refine z_goto (tgt := 215) F dX7_groups_112 (by decide) ?_
                  have hgi9 := gfI_n hgi (fun h9 => tIz_0 qog (by omega) h9.symm)
                  rw [show jj.toNat + 1 = (jj + 1).toNat by omega] at hgi9
                  refine z_iinc (lv' := [(11, .int (iI (jj + 1))), (12, .int (iI v_117)), (10, .int (iI hs1)), (9, .int (iI su)), (8, .int (iI v_54)), (7, .int (iI i)), (6, .int (iI v_32)), (5, .int (iI v_24)), (4, .int (iI v_16)), (3, .int (iI v_8)), (0, .ref mo), (1, .int (iI sd)), (2, .int (iI rr))]) F dX7_groups_215 hl (k := 1) rfl (by decide) rfl (fun ls hl => ?_)
                  refine z_goto (tgt := 80) F dX7_groups_218 (by decide) ?_
                  exact ih80 su hs1 (jj + 1) H locs ls zsu zhs1 ⟨by omega, by omega⟩ (by omega) hgi9 (by omega) (by omega) hH hS (lv_sub hl [0, 2, 3, 4, 5, 6, 7, 8, 9, 10, 11, 12] rfl)
          exact cut_80_66 (((120 - i) + 1 : Int).toNat) 0 0 i H locs ls ⟨by decide, by decide⟩ ⟨by decide, by decide⟩ zi (by omega) (gfI_0 (tIz_1 qfo (by omega))) (by omega) (by omega) hH hS (lv_sub hl [0, 1, 2, 3, 4, 5, 6, 7, 8, 9, 10, 11] rfl)
        · refine z_goto (tgt := 298) F dX7_groups_67 (by decide) ?_
          have hgr9 := grM_k hgr (tIz_0 qfo (by omega))
          rw [show i.toNat + 1 = (i + 1).toNat by omega] at hgr9
          refine z_iinc (lv' := [(7, .int (iI (i + 1))), (8, .int (iI v_54)), (6, .int (iI v_32)), (5, .int (iI v_24)), (4, .int (iI v_16)), (3, .int (iI v_8)), (0, .ref mo), (1, .int (iI sd)), (2, .int (iI rr))]) F dX7_groups_298 hl (k := 1) rfl (by decide) rfl (fun ls hl => ?_)
          refine z_goto (tgt := 36) F dX7_groups_301 (by decide) ?_
          exact ih36 (i + 1) I_34 AI_35 H locs ls ⟨by omega, by omega⟩ hv hT wf (by omega) fW hgr9 (by omega) (by omega) hH hS (lv_sub hl [0, 2, 3, 4, 5, 6, 7, 8] rfl)
  exact cut_36_35 (((120 - 0) + 1 : Int).toNat) 0 I AI H locs ls ⟨by decide, by decide⟩ hv hT wf (by omega) (fun _ _ _ => rfl) (by rw [show (I mo 26).toInt = 0 by omega]; exact grM_0) (by omega) (by omega) hH hS (lv_sub hl [0, 1, 2, 3, 4, 5, 6, 7] rfl)
end
section
/-! the reference: rings -/
section Rgm
variable {c : LC} {x y f f' F F' A : Nat → Int32} {t u s : Tup} {T : Nat → Int32} {r z k' : Int} {n m i j k p was len len' R : Nat} {P Q Q' : Tup → Prop} {M : Tup → Int32} {rd : Int32} {Tk : Nat → Tup} {hh h2 : Nat → Int32}
def rgM (T : Nat → Int32) (r : Int) (c : LC) : Prop := tmM T r 1 c ∧ tI T (40 * r + 4) = c.1 4 ∧ tI T (40 * tI T (40 * r + 2) + 1) = c.1 5 ∧ tI T (40 * tI T (40 * r + 3) + 1) = c.1 6 ∧ mP T r 0 0 = c.1 7 ∧ mP T r 0 1 = c.1 8
theorem isW_bg {S M : Tup → Int32} {L : Nat} (a : isW f n P S M) (h : L < n) : bigP L P := ⟨tup f, fun i j hij hj e => absurd (isW_i a (by omega) (by omega) e) (by omega), fun i hi => (a.2.1 i (by omega)).1⟩
theorem trT_cg (h : ∀ k : Nat, (k : Int) < c.1 4 → c.2 k 0 ≠ -1 → hh (c.2 k 0).toNat = h2 (c.2 k 0).toNat) : trT c hh = trT c h2 := by
  unfold trT; congr 1; funext k
  by_cases w : (k : Int) < c.1 4
  · rw [if_pos w, if_pos w]; unfold trm
    by_cases v : c.2 k 0 = -1
    · rw [if_pos v, if_pos v]
    · rw [if_neg v, if_neg v, h k w v]
  · rw [if_neg w, if_neg w]
def rfI (f : Nat → Int32) (n : Nat) (P Q : Tup → Prop) (M : Tup → Int32) (rd : Int32) : Prop := isW f n (fun s => P s ∨ Q s) (fun _ => 1) (fun t => pI (P t) (M t) rd)
theorem rfI_q (h : rfI f n P Q M rd) (hQ : ∀ s, P s ∨ Q' s ↔ P s ∨ Q s) : rfI f n P Q' M rd := isW_q h hQ (fun _ _ => rfl) (fun _ _ => rfl)
theorem rfI_s (hn : ¬ (P t ∨ Q t)) (h : (z = 0 ∧ (P t ∨ Q t) ∧ k' = (n : Int) ∧ isW f' n (fun s => P s ∨ Q s) (sAdd (fun _ => 1) t (iI 1)) (fun t => pI (P t) (M t) rd)) ∨
    (z = 1 ∧ ¬ (P t ∨ Q t) ∧ k' = (n : Int) + 1 ∧ isW f' (n + 1) (pAdd (fun s => P s ∨ Q s) t) (tUp (fun _ => 1) t (iI 1)) (tUp (fun t => pI (P t) (M t) rd) t rd))) : z = 1 ∧ k' = (n : Int) + 1 ∧ rfI f' k'.toNat P (fun s => Q s ∨ s = t) M rd := by
  rcases h with ⟨_, h2, _⟩ | ⟨h1, _, h3, h4⟩
  · exact absurd h2 hn
  · refine ⟨h1, h3, ?_⟩
    rw [show k'.toNat = n + 1 by omega]
    refine isW_q h4 (fun s => ⟨fun w => ?_, fun w => ?_⟩) (fun s _ => ?_) (fun s _ => ?_)
    · rcases w with w | w | w
      · exact Or.inr (Or.inl w)
      · exact Or.inr (Or.inr w)
      · exact Or.inl w
    · rcases w with w | w | w
      · exact Or.inr (Or.inr w)
      · exact Or.inl w
      · exact Or.inr (Or.inl w)
    · by_cases w : s = t
      · rw [w, tUp_s]; rfl
      · rw [tUp_k w]
    · by_cases w : s = t
      · rw [w, tUp_s, pI_n (fun q => hn (Or.inl q))]
      · rw [tUp_k w]
/-- what comes of the tuples ahead of k, and of k with the first j -/
def rqM (c : LC) (y : Nat → Int32) (m : Nat) (Tk : Nat → Tup) (k j : Nat) : Tup → Prop := fun s => (∃ i, i < k ∧ rGo c y m (Tk i) s) ∨ rGo c y j (Tk k) s
theorem rqM_0 : ¬ rqM c y m Tk 0 0 s := fun h => h.elim (fun ⟨i, hi, _⟩ => Nat.not_lt_zero i hi) rGo_0
theorem rqM_r : rqM c y m Tk (k + 1) 0 s ↔ rqM c y m Tk k m s := by
  refine ⟨fun h => ?_, fun h => ?_⟩
  · rcases h with ⟨i, hi, w⟩ | h
    · by_cases e : i = k
      · rw [e] at w; exact Or.inr w
      · exact Or.inl ⟨i, by omega, w⟩
    · exact absurd h rGo_0
  · rcases h with ⟨i, hi, w⟩ | h
    · exact Or.inl ⟨i, by omega, w⟩
    · exact Or.inl ⟨k, by omega, h⟩
theorem rqM_3 (h1 : ¬ (0 < (y (6 * j + 4)).toInt ∧ tg (Tk k) (c.1 7).toNat = tg (tup y j) (c.1 8).toNat)) : rqM c y m Tk k (j + 1) s ↔ rqM c y m Tk k j s := by
  unfold rqM; rw [rGo_s]
  refine ⟨fun h => ?_, fun h => ?_⟩
  · rcases h with h | h | h
    · exact Or.inl h
    · exact Or.inr h
    · exact absurd ⟨h.1, h.2.1⟩ h1
  · rcases h with h | h
    · exact Or.inl h
    · exact Or.inr (Or.inl h)
theorem rqM_1 (h1 : 0 < (y (6 * j + 4)).toInt) (h2 : tg (Tk k) (c.1 7).toNat = tg (tup y j) (c.1 8).toNat) : rqM c y m Tk k (j + 1) s ↔ rqM c y m Tk k j s ∨ s = trT c (sdH c (Tk k) (tup y j)) := by
  unfold rqM; rw [rGo_s]
  refine ⟨fun h => ?_, fun h => ?_⟩
  · rcases h with h | h | h
    · exact Or.inl (Or.inl h)
    · exact Or.inl (Or.inr h)
    · exact Or.inr h.2.2.symm
  · rcases h with (h | h) | h
    · exact Or.inl h
    · exact Or.inr (Or.inl h)
    · exact Or.inr (Or.inr ⟨h1, h2, h.symm⟩)
theorem rqM_a (h : rqM c y m Tk k j s) (hk : k < was) (hj : j ≤ m) : ∃ i, i < was ∧ rGo c y m (Tk i) s := by
  rcases h with ⟨i, hi, w⟩ | w
  · exact ⟨i, by omega, w⟩
  · exact ⟨k, hk, rGo_m hj w⟩
theorem rqM_e : rqM c y m Tk was 0 s ↔ ∃ i, i < was ∧ rGo c y m (Tk i) s := ⟨fun h => h.elim id (fun w => absurd w rGo_0), fun h => Or.inl h⟩
theorem rq_d (hin : P t ∨ Q t) (e : Q' s ↔ Q s ∨ s = t) : P s ∨ Q' s ↔ P s ∨ Q s := by
  rw [e]
  refine ⟨fun h => ?_, fun h => ?_⟩
  · rcases h with h | h | h
    · exact Or.inl h
    · exact Or.inr h
    · rw [h]; exact hin
  · rcases h with h | h
    · exact Or.inl h
    · exact Or.inr (Or.inl h)
/-- the tuples of the round, as they were picked -/
def frW (W : Nat → Int32) (r : Nat) (F : Nat → Int32) (was k : Nat) : Prop := (∀ i, i < was → ∃ p, p < k ∧ tup W p = arT F i ∧ W (6 * p + 5) = iI (r : Int)) ∧ ∀ p, p < k → W (6 * p + 5) = iI (r : Int) → ∃ i, i < was ∧ arT F i = tup W p
theorem frW_0 : frW f R F 0 0 := ⟨fun i h => absurd h (Nat.not_lt_zero i), fun p h => absurd h (Nat.not_lt_zero p)⟩
theorem frW_n (h : frW f R F was k) (hn : f (6 * k + 5) ≠ iI (R : Int)) : frW f R F was (k + 1) := by
  refine ⟨fun i hi => ?_, fun p hp e => ?_⟩
  · obtain ⟨p, a, b⟩ := h.1 i hi
    exact ⟨p, by omega, b⟩
  · by_cases w : p = k
    · rw [w] at e; exact absurd e hn
    · exact h.2 p (by omega) e
theorem frW_y (h : frW f R F was k) (hy : f (6 * k + 5) = iI (R : Int)) (e : ∀ j, j < 4 * was → F' j = F j) (e' : ∀ j, j < 4 → F' (4 * was + j) = f (6 * k + j)) : frW f R F' (was + 1) (k + 1) := by
  have ea : ∀ i, i < was → arT F' i = arT F i := fun i hi => arT_c (fun j hj => e _ (by omega))
  have eb : arT F' was = tup f k := tg_x (fun j hj => by rw [arT_at hj, tg_up j hj]; exact e' j hj)
  refine ⟨fun i hi => ?_, fun p hp e => ?_⟩
  · by_cases w : i = was
    · exact ⟨k, by omega, by rw [w, eb], hy⟩
    · obtain ⟨p, a, b⟩ := h.1 i (by omega)
      exact ⟨p, by omega, by rw [ea i (by omega)]; exact b⟩
  · by_cases w : p = k
    · exact ⟨was, by omega, by rw [w, eb]⟩
    · obtain ⟨i, a, b⟩ := h.2 p (by omega) e
      exact ⟨i, by omega, by rw [ea i a]; exact b⟩
/-- the set at a round's end -/
def rhM (c : LC) (x : Nat → Int32) (n : Nat) (y : Nat → Int32) (m : Nat) (W : Nat → Int32) (len r : Nat) : Prop :=
  ∃ M, isW W len (rS c x n y m r).2 (fun _ => 1) M ∧ (∀ q t, q ≤ r → (rS c x n y m q).1 t → M t = iI (q : Int)) ∧ len ≤ 120 ∧ (1 ≤ r → ∃ t, (rS c x n y m r).1 t)
def frA (c : LC) (x : Nat → Int32) (n : Nat) (y : Nat → Int32) (m r was : Nat) (Tk : Nat → Tup) : Prop := (∀ i, i < was → (rS c x n y m r).1 (Tk i)) ∧ ∀ t, (rS c x n y m r).1 t → ∃ i, i < was ∧ Tk i = t
theorem frW_e (hW : isW f len (rS c x n y m R).2 (fun _ => 1) M) (hM : ∀ q t, q ≤ R → (rS c x n y m q).1 t → M t = iI (q : Int)) (hR : R ≤ 40) (h : frW f R F was len) : frA c x n y m R was (arT F) := by
  refine ⟨fun i hi => ?_, fun t ht => ?_⟩
  · obtain ⟨p, a, b, d⟩ := h.1 i hi
    have q := hW.2.1 p a
    obtain ⟨w, w1, w2⟩ := rS_at R _ q.1
    have e := hM w _ w1 w2
    rw [← q.2.2, d] at e
    have e9 := (iI_eq (a := (R : Int)) (b := (w : Int)) ⟨by omega, by omega⟩ ⟨by omega, by omega⟩).mp e
    rw [← b, show R = w by omega]; exact w2
  · obtain ⟨p, a, b⟩ := hW.2.2 t (rS_new R t ht)
    have q := hW.2.1 p a
    obtain ⟨i, d1, d2⟩ := h.2 p a (by rw [q.2.2, b]; exact hM R t (Nat.le_refl _) ht)
    exact ⟨i, d1, d2.trans b⟩
theorem rh_new (hT : frA c x n y m R was Tk) : (rS c x n y m (R + 1)).1 s ↔ rqM c y m Tk was 0 s ∧ ¬ (rS c x n y m R).2 s := by
  rw [rqM_e]
  refine ⟨fun ⟨⟨t, a, b⟩, d⟩ => ?_, fun ⟨⟨i, a, b⟩, d⟩ => ⟨⟨Tk i, hT.1 i a, b⟩, d⟩⟩
  obtain ⟨i, e1, e2⟩ := hT.2 t a
  exact ⟨⟨i, e1, by rw [e2]; exact b⟩, d⟩
theorem rh_all (hT : frA c x n y m R was Tk) : (rS c x n y m (R + 1)).2 s ↔ (rS c x n y m R).2 s ∨ rqM c y m Tk was 0 s := by
  refine ⟨fun w => ?_, fun w => ?_⟩
  · rcases w with w | w
    · exact Or.inl w
    · exact Or.inr ((rh_new hT).mp w).1
  · by_cases v : (rS c x n y m R).2 s
    · exact Or.inl v
    · exact Or.inr ((rh_new hT).mpr ⟨w.resolve_left v, v⟩)
theorem rh_no (hW : isW f len (rS c x n y m R).2 (fun _ => 1) M) (hT : frA c x n y m R was Tk) (h : rfI f' len' (rS c x n y m R).2 (rqM c y m Tk was 0) M rd) (e : len' = len) : ∀ t, ¬ (rS c x n y m (R + 1)).1 t := fun t ht => by
  have q := (rh_new hT).mp ht
  have b := bigP_of (P := fun s => (rS c x n y m R).2 s ∨ rqM c y m Tk was 0 s) hW.1 (fun i hi => Or.inl (hW.2.1 i hi).1) (Or.inr q.1) (fun i hi e => q.2 (by rw [← e]; exact (hW.2.1 i hi).1))
  have := isW_big h b
  omega
theorem rh_end (hW : isW f len (rS c x n y m R).2 (fun _ => 1) M) (hM : ∀ q t, q ≤ R → (rS c x n y m q).1 t → M t = iI (q : Int)) (hN : 1 ≤ R → ∃ t, (rS c x n y m R).1 t) (hR : R ≤ 40) (hl : len ≤ 120) (hT : frA c x n y m R was Tk) (h : rfI f' len' (rS c x n y m R).2 (rqM c y m Tk was 0) M rd) (e : len' = len) : rgY c x n y m R f' len' := by
  have no := rh_no hW hT h e
  refine ⟨hR, no, ?_, by omega, M, isW_q h (fun s => ⟨fun w => Or.inl w, fun w => ?_⟩) (fun _ _ => rfl) (fun s hs => ?_), hM⟩
  · by_cases w : R = 0
    · exact Or.inl w
    · exact Or.inr (hN (by omega))
  · rcases w with w | w
    · exact w
    · exact Classical.byContradiction fun v => no s ((rh_new hT).mpr ⟨w, v⟩)
  · have v : (rS c x n y m R).2 s := by
      rcases hs with w | w
      · exact w
      · exact Classical.byContradiction fun v => no s ((rh_new hT).mpr ⟨w, v⟩)
    exact (pI_y v).symm
theorem rh_next (hW : isW f len (rS c x n y m R).2 (fun _ => 1) M) (hM : ∀ q t, q ≤ R → (rS c x n y m q).1 t → M t = iI (q : Int)) (hT : frA c x n y m R was Tk) (h : rfI f' len' (rS c x n y m R).2 (rqM c y m Tk was 0) M (iI ((R : Int) + 1))) (hl : len' ≤ 120) (e : len' ≠ len) : rhM c x n y m f' len' (R + 1) := by
  refine ⟨fun t => pI ((rS c x n y m R).2 t) (M t) (iI ((R : Int) + 1)), isW_q h (fun s => rh_all hT) (fun _ _ => rfl) (fun _ _ => rfl), fun q t hq ht => ?_, hl, fun _ => ?_⟩
  · by_cases w : q = R + 1
    · subst w
      show pI ((rS c x n y m R).2 t) (M t) (iI ((R : Int) + 1)) = _
      rw [pI_n ht.2]; rfl
    · show pI ((rS c x n y m R).2 t) (M t) (iI ((R : Int) + 1)) = _
      rw [pI_y (rS_lt (by omega) t (rS_new q t ht))]
      exact hM q t (by omega) ht
  · refine Classical.byContradiction fun no => e ?_
    have b := isW_q (P' := (rS c x n y m R).2) (S' := fun _ => 1) (M' := M) h (fun s => ⟨fun w => Or.inl w, fun w => w.elim id (fun w => Classical.byContradiction fun v => no ⟨s, (rh_new hT).mpr ⟨w, v⟩⟩)⟩) (fun _ _ => rfl) (fun s hs => (pI_y (hs.elim id (fun w => Classical.byContradiction fun v => no ⟨s, (rh_new hT).mpr ⟨w, v⟩⟩))).symm)
    exact (isW_u hW b (fun _ _ => rfl) (fun _ _ => rfl)).1.symm
theorem rh_big (hT : frA c x n y m R was Tk) (hR : R + 1 ≤ 40) (hb : bigP 120 (fun s => (rS c x n y m R).2 s ∨ ∃ i, i < was ∧ rGo c y m (Tk i) s)) : ∃ q, q ≤ 40 ∧ bigP 120 (rS c x n y m q).2 :=
  ⟨R + 1, hR, bigP_m hb (fun s hs => (rh_all hT).mpr (hs.elim Or.inl (fun w => Or.inr (rqM_e.mpr w))))⟩
theorem rh_many (hW : isW f len (rS c x n y m R).2 (fun _ => 1) M) (hl : len ≤ 120) (hT : frA c x n y m R was Tk) (hR : R = 40) (hs : ∃ s, ¬ (rS c x n y m R).2 s ∧ ∃ i, i < was ∧ rGo c y m (Tk i) s) : (∃ t, (rS c x n y m 41).1 t) ∧ ¬ bigP 120 (rS c x n y m 40).2 := by
  subst hR
  obtain ⟨s, a, b⟩ := hs
  refine ⟨⟨s, (rh_new hT).mpr ⟨rqM_e.mpr b, a⟩⟩, fun hb => ?_⟩
  have := isW_big hW hb
  omega
/-- round 0 -/
theorem rh_0 (h : isW f len (rQ0 x n) (fun _ => 1) zM) (hl : len ≤ 120) : rhM c x n y m f len 0 := ⟨zM, h, fun q t hq _ => by rw [show q = 0 by omega]; rfl, hl, fun w => absurd w (by omega)⟩
theorem rq_s (hn : ¬ rQ0 x i t) (h0 : 0 < (x (6 * i + 4)).toInt) (et : tup x i = t) (h : (z = 0 ∧ rQ0 x i t ∧ k' = (len : Int) ∧ isW f' len (rQ0 x i) (sAdd (fun _ => 1) t (iI 1)) zM) ∨ (z = 1 ∧ ¬ rQ0 x i t ∧ k' = (len : Int) + 1 ∧ isW f' (len + 1) (pAdd (rQ0 x i) t) (tUp (fun _ => 1) t (iI 1)) (tUp zM t (iI 0)))) : isW f' k'.toNat (rQ0 x (i + 1)) (fun _ => 1) zM := by
  rcases h with ⟨_, h2, _⟩ | ⟨_, _, h3, h4⟩
  · exact absurd h2 hn
  · rw [show k'.toNat = len + 1 by omega]
    refine isW_q h4 (fun s => ⟨fun ⟨q, a, b, d⟩ => ?_, fun w => ?_⟩) (fun s _ => ?_) (fun s _ => ?_)
    · by_cases e : q = i
      · exact Or.inl (by rw [← d, e, et])
      · exact Or.inr ⟨q, by omega, b, d⟩
    · rcases w with w | ⟨q, a, b⟩
      · exact ⟨i, by omega, h0, by rw [w, et]⟩
      · exact ⟨q, by omega, b⟩
    · by_cases w : s = t
      · rw [w, tUp_s]; rfl
      · rw [tUp_k w]
    · by_cases w : s = t
      · rw [w, tUp_s]; rfl
      · rw [tUp_k w]
theorem rq_n (h0 : ¬ 0 < (x (6 * i + 4)).toInt) (h : isW f len (rQ0 x i) (fun _ => 1) zM) : isW f len (rQ0 x (i + 1)) (fun _ => 1) zM := by
  refine isW_q h (fun s => ⟨fun ⟨q, a, b, d⟩ => ⟨q, ?_, b, d⟩, fun ⟨q, a, b⟩ => ⟨q, by omega, b⟩⟩) (fun _ _ => rfl) (fun _ _ => rfl)
  by_cases e : q = i
  · rw [e] at b; exact absurd b h0
  · omega
theorem rq_no (hx : okB x n) (hi : i < n) : ¬ rQ0 x i (tup x i) := fun ⟨q, a, _, d⟩ => absurd (srtB_ne hx.1 (by omega) hi d) (by omega)
/-- a ring's set, laid -/
theorem rgY_lay {W g g' : Nat → Int32} {b : Nat} (h : rgY c x n y m R W k) (hl : layP W g g' b (k : Int) 0) : rgY c x n y m R (fun q => g' (b + q)) (wCnt W k).toNat := by
  obtain ⟨h1, h2, h3, h4, M, h5, h6⟩ := h
  have e := layP_B (S := fun t => pI ((rS c x n y m R).2 t) 1 0) (isW_q h5 (fun _ => Iff.rfl) (fun t ht => pI_y ht) (fun _ _ => rfl)) hl (fun t ht => pI_ne ht)
  have u := wCnt_u (f := W) (a := k)
  refine ⟨h1, h2, h3, by omega, M, isW_q e (fun t => ⟨fun ht => ?_, fun ht => pI_ne ht⟩) (fun t ht => (pI_y (pI_ne ht)).symm) (fun _ _ => rfl), h6⟩
  show pI _ 1 0 ≠ 0
  rw [pI_y ht]; decide
end Rgm
end
