def rmX7_movedInViewsf : Room := { frames := 2, cells := 0, slots := 0, locals := 54 }
set_option maxHeartbeats 4000000 in
set_option maxRecDepth 100000 in
/-- moved in views -/
theorem c_X7_movedInViewsf (l : Launch) (g : gG) (gh : gGh) (T : Nat → Int32) (tbs : Int) (nr : Nat) (cc : Nat → LC) (cl : Nat → Int) (I : gI) (R : gR) (J : gJ) (AI : gI) (AJ : gJ) (AR : gR) (mo : Nat) (hv : mInv g gh R I AI) (hm : gO g mo 7) (hT : AI (gh 50 0) = T) (hmr : (I mo 2).toInt = (nr : Int)) (hpl : plM9 T tbs nr cc cl) (hbg : ∀ r : Nat, r < nr → bgOK (rfM gh AI 0) cl r) (hb9 : ∀ r : Nat, r < nr → bgOK (rfM gh AI 9) cl r) : gMet l g yX7_movedInViews tsX7_movedInViews rmX7_movedInViewsf [.ref mo] (I, R, J, AI, AJ, AR) (gQi g (fun (z : Int) (w : gS) => I = w.1 ∧ R = w.2.1 ∧ J = w.2.2.1 ∧ AJ = w.2.2.2.2.1 ∧ AR = w.2.2.2.2.2 ∧ (mInv g gh R I (w.2.2.2.1)) ∧ ((w.2.2.2.1) (gh 50 0) = T) ∧ (∀ b, b ≠ gh 81 0 → (w.2.2.2.1) b = AI b) ∧ (z = smL (fun r => ((bgN (mvF gh AI r) : Nat) : Int)) tbs.toNat (nr - tbs.toNat)))) := by
  refine gStart (cc := cX7_movedInViews) (maxL := 3) (ret := (some (.int))) (by decide) rfl (Nat.le_of_ble_eq_true rfl) ?_
  intro p e s m below meth c ls F hr hlk hH hz hS hl
  have hl : lv_has ls 3 [(0, .ref mo)] := hl
  have hS : va_S (gA g) s.heap s.heap [] := hS
  obtain ⟨H, hHe⟩ : ∃ H : Heap, H = s.heap := ⟨_, rfl⟩
  obtain ⟨locs, hlo⟩ : ∃ k : List Loc, k = [] := ⟨_, rfl⟩
  have hH : gH g I R J AI AJ AR H := by rw [hHe]; exact hH
  have hS : va_S (gA g) s.heap H locs := by rw [hHe, hlo]; exact hS
  suffices hw : W p l e rmX7_movedInViewsf s m ([.ref mo] : List Value).toArray below meth c H locs 0 0 (MQ below (gQi g (fun (z : Int) (w : gS) => I = w.1 ∧ R = w.2.1 ∧ J = w.2.2.1 ∧ AJ = w.2.2.2.2.1 ∧ AR = w.2.2.2.2.2 ∧ (mInv g gh R I (w.2.2.2.1)) ∧ ((w.2.2.2.1) (gh 50 0) = T) ∧ (∀ b, b ≠ gh 81 0 → (w.2.2.2.1) b = AI b) ∧ (z = smL (fun r => ((bgN (mvF gh AI r) : Nat) : Int)) tbs.toNat (nr - tbs.toNat)))) ([.ref mo] : List Value).toArray s 0 0 (gA g)) (F0 m 0 ls []) by
    rw [hHe, hlo] at hw; exact hw
  clear hHe hlo
  have hb0 := mJ hv hm
  unfold mNum1 at hb0
  have hp1 := hpl.1
  have iX7 : ∀ w ∈ u_ws RX7 TX7 32, w ∈ tsX7_movedInViews := fun w h => List.mem_cons_of_mem _ (inTB7 w h)
  have k64 : Cond.fieldLink RX7 64 (TX7 2).1 (TX7 2).2.1 (TX7 2).2.2.1 ∈ tsX7_movedInViews := List.mem_cons_of_mem _ fl_64
  refine z_iconst F dX7_movedInViews_0 ?_
  refine lv_istore_n (lv' := [(1, .int (iI 0)), (0, .ref mo)]) F.1 F.2.1 dX7_movedInViews_1 rfl hl (by decide) rfl (fun ls hl => ?_)
  refine lv_aload_n F.1 F.2.1 dX7_movedInViews_2 rfl (lv_at hl 1 rfl) ?_
  have b_1 := mJ hv hm
  unfold mNum1 at b_1
  refine g_calli (g_runV (As := []) (rest := []) (ci := 7) F hl.1 hH hS hz (c_X7_tablesf l g gh T I R J AI AJ AR mo hv hm hT) (cwV 0 F.2.2.2.2.1 (good_up gT_X7_tables) rfl rfl rfl hdX7_tables ⟨Nat.le_of_ble_eq_true rfl, Nat.le_of_ble_eq_true rfl⟩) hm (by decide) rfl rfl rfl (Nat.le_of_ble_eq_true rfl) dX7_movedInViews_3 ⟨Nat.zero_le _, Nat.zero_le _⟩) hS (fun v_8 I_2 R_3 J_4 AI_5 AJ_6 AR_7 H locs zv_8 hp_9 hH hS => ?_)
  dsimp only at hp_9
  obtain ⟨rfl, rfl, rfl, rfl, rfl, rfl, q_10, hvw, qtt⟩ := hp_9
  have ht3 : v_8 = tbs := tb_eq (many := (I mo 2).toInt) (by omega) (fun r h1 h2 => hvw r h1 (by omega)) qtt (by omega) hpl.2.1 (pl_6 hpl hmr)
  refine lv_istore_n (lv' := [(2, .int (iI v_8)), (1, .int (iI 0)), (0, .ref mo)]) F.1 F.2.1 dX7_movedInViews_6 rfl hl (by decide) rfl (fun ls hl => ?_)
  have cut_7_11 : ∀ (NN : Nat) (n k : Int) (AI_11 : gI) (H : Heap) (locs : List Loc) (ls : Array Slot), zr n → zr k → (mInv g gh R I AI_11) → (AI_11 (gh 50 0) = T) → (0 ≤ k ∧ k ≤ 16 ∧ 0 ≤ n ∧ n ≤ 240 * k) → (∀ b, b ≠ gh 81 0 → AI_11 b = AI b) → (n = smL (fun r => ((bgN (mvF gh AI r) : Nat) : Int)) tbs.toNat (k - tbs).toNat ∧ tbs ≤ k ∧ k ≤ (nr : Int)) → (16 - k) < ((NN : Nat) : Int) → gH g I R J AI_11 AJ AR H → va_S (gA g) s.heap H locs → lv_has ls 3 [(2, .int (iI k)), (1, .int (iI n)), (0, .ref mo)] → W p l e rmX7_movedInViewsf s m ([.ref mo] : List Value).toArray below meth c H locs 0 0 (MQ below (gQi g (fun (z : Int) (w : gS) => I = w.1 ∧ R = w.2.1 ∧ J = w.2.2.1 ∧ AJ = w.2.2.2.2.1 ∧ AR = w.2.2.2.2.2 ∧ (mInv g gh R I (w.2.2.2.1)) ∧ ((w.2.2.2.1) (gh 50 0) = T) ∧ (∀ b, b ≠ gh 81 0 → (w.2.2.2.1) b = AI b) ∧ (z = smL (fun r => ((bgN (mvF gh AI r) : Nat) : Int)) tbs.toNat (nr - tbs.toNat)))) ([.ref mo] : List Value).toArray s 0 0 (gA g)) (F0 m 7 ls []) := by
    intro NN7
    induction NN7 with
    | zero =>
      intro n k AI_11 H locs ls zn zk hv hT hk fM hsm hm7 hH hS hl
      exact absurd hm7 (by omega)
    | succ NN7 ih7 =>
      intro n k AI_11 H locs ls zn zk hv hT hk fM hsm hm7 hH hS hl
      have h56 : AI_11 (gh 56 0) = AI (gh 56 0) := fM _ (show gh 56 0 ≠ gh 81 0 from mNe hv hm (p := (6, 126720)) (q := (31, 1200)) (by decide) (by decide) (by decide))
      have h57 : AI_11 (gh 57 0) = AI (gh 57 0) := fM _ (show gh 57 0 ≠ gh 81 0 from mNe hv hm (p := (7, 176)) (q := (31, 1200)) (by decide) (by decide) (by decide))
      have hsk := hsm.2
      have hsm := hsm.1
      refine lv_iload_n F.1 F.2.1 dX7_movedInViews_7 rfl (lv_at hl 0 rfl) ?_
      refine lv_aload_n F.1 F.2.1 dX7_movedInViews_8 rfl (lv_at hl 2 rfl) ?_
      refine g_getI (ci := 7) (k := 2) F hH rfl (by decide) iX7 hm (by decide) rfl k64 dX7_movedInViews_9 ?_
      refine z_icmp_ge (tgt := 29) F dX7_movedInViews_12 (by decide) zk (zr_t _) (fun c_13 => ?_) (fun c_13 => ?_)
      · refine lv_iload_n F.1 F.2.1 dX7_movedInViews_29 rfl (lv_at hl 1 rfl) ?_
        exact g_iret F hr hlk hH hS hz zn ⟨rfl, rfl, rfl, rfl, rfl, hv, hT, fM, by rw [show nr - tbs.toNat = (k - tbs).toNat by omega]; exact hsm⟩ dX7_movedInViews_30
      · have eF0 : rfM gh AI_11 0 = rfM gh AI 0 := rfM_g h56 h57
        have eF9 : rfM gh AI_11 9 = rfM gh AI 9 := rfM_g h56 h57
        have hra := rfM_s (gh := gh) (AI := AI_11) (sd := 0) (a := k) (n := (rfM gh AI 0 (k).toNat).1) (f := (rfM gh AI 0 (k).toNat).2) (by rw [eF0]) (by omega) (mSz1 hv hm (z := 16 * 0 + k) (by omega) (by omega)).1
        have hrb := rfM_s (gh := gh) (AI := AI_11) (sd := 9) (a := k) (n := (rfM gh AI 9 (k).toNat).1) (f := (rfM gh AI 9 (k).toNat).2) (by rw [eF9]) (by omega) (mSz1 hv hm (z := 16 * 9 + k) (by omega) (by omega)).1
        refine lv_iload_n F.1 F.2.1 dX7_movedInViews_15 rfl (lv_at hl 1 rfl) ?_
        refine lv_aload_n F.1 F.2.1 dX7_movedInViews_16 rfl (lv_at hl 2 rfl) ?_
        refine lv_iload_n F.1 F.2.1 dX7_movedInViews_17 rfl (lv_at hl 0 rfl) ?_
        refine g_calli (g_runV (As := [.int (iI k)]) (rest := [.int (iI n)]) (ci := 7) F hl.1 hH hS hz (c_X7_laysMovedf l g gh T ((rfM gh AI 0 (k).toNat).1) ((rfM gh AI 9 (k).toNat).1) ((rfM gh AI 0 (k).toNat).2) ((rfM gh AI 9 (k).toNat).2) I R J AI_11 AJ AR mo k zk hv hm hT (by omega) hra.1 hra.2 hrb.1 hrb.2 (hbg (k).toNat (by omega)).1 (hb9 (k).toNat (by omega)).1 ⟨(hbg (k).toNat (by omega)).2.1, (hb9 (k).toNat (by omega)).2.1⟩) (cwV 1 F.2.2.2.2.1 (good_up gT_X7_laysMoved) rfl rfl rfl hdX7_laysMoved ⟨Nat.le_of_ble_eq_true rfl, Nat.le_of_ble_eq_true rfl⟩) hm (by decide) rfl rfl rfl (Nat.le_of_ble_eq_true rfl) dX7_movedInViews_18 ⟨Nat.zero_le _, Nat.zero_le _⟩) hS (fun v_20 I_14 R_15 J_16 AI_17 AJ_18 AR_19 H locs zv_20 hp_21 hH hS => ?_)
        dsimp only at hp_21
        obtain ⟨rfl, rfl, rfl, rfl, rfl, hv, hT, haq7, q_22, fMq, qmv⟩ := hp_21
        have hz18 : v_20 = ((bgN (mvF gh AI k.toNat) : Nat) : Int) := by have h9 := bgN_e qmv; unfold mvF; rw [h9]; omega
        have hsm9 := smL_s (f := (fun r => ((bgN (mvF gh AI r) : Nat) : Int))) (by omega) (by omega) hsm
        have fM : ∀ b, b ≠ gh 81 0 → AI_17 b = AI b := fun b h1 => (fMq b h1).trans (fM b h1)
        refine z_iadd F dX7_movedInViews_21 ?_
        refine lv_istore_n (lv' := [(1, .int (iI (n + v_20))), (2, .int (iI k)), (0, .ref mo)]) F.1 F.2.1 dX7_movedInViews_22 rfl hl (by decide) rfl (fun ls hl => ?_)
        refine z_iinc (lv' := [(2, .int (iI (k + 1))), (1, .int (iI (n + v_20))), (0, .ref mo)]) F dX7_movedInViews_23 hl (k := 1) rfl (by decide) rfl (fun ls hl => ?_)
        refine z_goto (tgt := 7) F dX7_movedInViews_26 (by decide) ?_
        exact ih7 (n + v_20) (k + 1) AI_17 H locs ls ⟨by omega, by omega⟩ ⟨by omega, by omega⟩ hv hT (by omega) fM ⟨by rw [hz18]; exact hsm9, by omega, by omega⟩ (by omega) hH hS (lv_sub hl [0, 1, 2] rfl)
  exact cut_7_11 (((16 - v_8) + 1 : Int).toNat) 0 v_8 AI H locs ls ⟨by decide, by decide⟩ zv_8 hv hT (by omega) (fun _ _ => rfl) ⟨by rw [show (v_8 - tbs).toNat = 0 by omega]; rfl, by omega, by omega⟩ (by omega) hH hS (lv_sub hl [0, 1, 2] rfl)

def rmX7_cameTof : Room := { frames := 2, cells := 0, slots := 0, locals := 54 }
set_option maxHeartbeats 4000000 in
set_option maxRecDepth 100000 in
/-- what came -/
theorem c_X7_cameTof (l : Launch) (g : gG) (gh : gGh) (T : Nat → Int32) (lc : LC) (nr : Nat) (cl : Nat → Int) (I : gI) (R : gR) (J : gJ) (AI : gI) (AJ : gJ) (AR : gR) (mo : Nat) (rr : Int) (zrr : zr rr) (hv : mInv g gh R I AI) (hm : gO g mo 7) (hT : AI (gh 50 0) = T) (hr0 : 0 ≤ rr ∧ rr < (I mo 2).toInt) (hk0 : tI T (40 * rr) ≠ 0) (hmr : (I mo 2).toInt = (nr : Int)) (hlm : lnM T rr lc) (hcK : cOK lc rr.toNat cl) (hbg : ∀ r : Nat, r < nr → bgOK (rfM gh AI 0) cl r) (hb9 : ∀ r : Nat, r < nr → bgOK (rfM gh AI 9) cl r) : gMet l g yX7_cameTo tsX7_cameTo rmX7_cameTof [.ref mo, .int (iI rr)] (I, R, J, AI, AJ, AR) (gQi g (fun (z : Int) (w : gS) => I = w.1 ∧ R = w.2.1 ∧ J = w.2.2.1 ∧ AJ = w.2.2.2.2.1 ∧ AR = w.2.2.2.2.2 ∧ (mInv g gh R I (w.2.2.2.1)) ∧ ((w.2.2.2.1) (gh 50 0) = T) ∧ (0 ≤ z ∧ z ≤ 480) ∧ (∀ b, b ≠ gh 81 0 → (w.2.2.2.1) b = AI b) ∧ (z = ((bgN (mvF gh AI (lc.1 2).toNat) : Nat) : Int) + (if lc.1 3 < 0 then 0 else ((bgN (mvF gh AI (lc.1 3).toNat) : Nat) : Int))))) := by
  refine gStart (cc := cX7_cameTo) (maxL := 3) (ret := (some (.int))) (by decide) rfl (Nat.le_of_ble_eq_true rfl) ?_
  intro p e s m below meth c ls F hr hlk hH hz hS hl
  have hl : lv_has ls 3 [(0, .ref mo), (1, .int (iI rr))] := hl
  have hS : va_S (gA g) s.heap s.heap [] := hS
  obtain ⟨H, hHe⟩ : ∃ H : Heap, H = s.heap := ⟨_, rfl⟩
  obtain ⟨locs, hlo⟩ : ∃ k : List Loc, k = [] := ⟨_, rfl⟩
  have hH : gH g I R J AI AJ AR H := by rw [hHe]; exact hH
  have hS : va_S (gA g) s.heap H locs := by rw [hHe, hlo]; exact hS
  suffices hw : W p l e rmX7_cameTof s m ([.ref mo, .int (iI rr)] : List Value).toArray below meth c H locs 0 0 (MQ below (gQi g (fun (z : Int) (w : gS) => I = w.1 ∧ R = w.2.1 ∧ J = w.2.2.1 ∧ AJ = w.2.2.2.2.1 ∧ AR = w.2.2.2.2.2 ∧ (mInv g gh R I (w.2.2.2.1)) ∧ ((w.2.2.2.1) (gh 50 0) = T) ∧ (0 ≤ z ∧ z ≤ 480) ∧ (∀ b, b ≠ gh 81 0 → (w.2.2.2.1) b = AI b) ∧ (z = ((bgN (mvF gh AI (lc.1 2).toNat) : Nat) : Int) + (if lc.1 3 < 0 then 0 else ((bgN (mvF gh AI (lc.1 3).toNat) : Nat) : Int))))) ([.ref mo, .int (iI rr)] : List Value).toArray s 0 0 (gA g)) (F0 m 0 ls []) by
    rw [hHe, hlo] at hw; exact hw
  clear hHe hlo
  have hb0 := mJ hv hm
  unfold mNum1 at hb0
  have x := mRow hv hm hT (z := rr) (by omega) (by omega)
  have xa := x.1
  have xc := x.2.2.1
  have xb := x.2.1 (by omega)
  obtain ⟨⟨hl0, hl1, hl2, hl3⟩, -⟩ := hlm
  obtain ⟨⟨cq1, cq2, cq3, cq4, cq5, cq6⟩, -⟩ := hcK
  have h56 : AI (gh 56 0) = AI (gh 56 0) := rfl
  have h57 : AI (gh 57 0) = AI (gh 57 0) := rfl
  refine lv_aload_n F.1 F.2.1 dX7_cameTo_0 rfl (lv_at hl 0 rfl) ?_
  refine lv_aload_n F.1 F.2.1 dX7_cameTo_1 rfl (lv_at hl 0 rfl) ?_
  refine lv_iload_n F.1 F.2.1 dX7_cameTo_2 rfl (lv_at hl 1 rfl) ?_
  have b_1 := mJ hv hm
  unfold mNum1 at b_1
  refine g_calli (g_runV (As := [.int (iI rr)]) (rest := [.ref mo]) (ci := 7) F hl.1 hH hS hz (c_X7_firstOf l g gh T I R J AI AJ AR mo rr zrr hv hm hT (by omega)) (cwV 1 F.2.2.2.2.1 (good_up gT_X7_firstOf) rfl rfl rfl hdX7_firstOf ⟨Nat.le_of_ble_eq_true rfl, Nat.le_of_ble_eq_true rfl⟩) hm (by decide) rfl rfl rfl (Nat.le_of_ble_eq_true rfl) dX7_cameTo_3 ⟨Nat.zero_le _, Nat.zero_le _⟩) hS (fun v_8 I_2 R_3 J_4 AI_5 AJ_6 AR_7 H locs zv_8 hp_9 hH hS => ?_)
  dsimp only at hp_9
  obtain ⟨rfl, rfl, rfl, rfl, rfl, rfl, qa⟩ := hp_9
  have qa2 : v_8 = lc.1 2 := by rw [qa]; exact hl2
  have eF0 : rfM gh AI 0 = rfM gh AI 0 := rfM_g h56 h57
  have eF9 : rfM gh AI 9 = rfM gh AI 9 := rfM_g h56 h57
  have hra := rfM_s (gh := gh) (AI := AI) (sd := 0) (a := v_8) (n := (rfM gh AI 0 (v_8).toNat).1) (f := (rfM gh AI 0 (v_8).toNat).2) (by rw [eF0]) (by omega) (mSz1 hv hm (z := 16 * 0 + v_8) (by omega) (by omega)).1
  have hrb := rfM_s (gh := gh) (AI := AI) (sd := 9) (a := v_8) (n := (rfM gh AI 9 (v_8).toNat).1) (f := (rfM gh AI 9 (v_8).toNat).2) (by rw [eF9]) (by omega) (mSz1 hv hm (z := 16 * 9 + v_8) (by omega) (by omega)).1
  refine g_calli (g_runV (As := [.int (iI v_8)]) (rest := []) (ci := 7) F hl.1 hH hS hz (c_X7_laysMovedf l g gh T ((rfM gh AI 0 (v_8).toNat).1) ((rfM gh AI 9 (v_8).toNat).1) ((rfM gh AI 0 (v_8).toNat).2) ((rfM gh AI 9 (v_8).toNat).2) I R J AI AJ AR mo v_8 zv_8 hv hm hT (by omega) hra.1 hra.2 hrb.1 hrb.2 (hbg _ (by omega)).1 (hb9 _ (by omega)).1 ⟨(hbg _ (by omega)).2.1, (hb9 _ (by omega)).2.1⟩) (cwV 1 F.2.2.2.2.1 (good_up gT_X7_laysMoved) rfl rfl rfl hdX7_laysMoved ⟨Nat.le_of_ble_eq_true rfl, Nat.le_of_ble_eq_true rfl⟩) hm (by decide) rfl rfl rfl (Nat.le_of_ble_eq_true rfl) dX7_cameTo_6 ⟨Nat.zero_le _, Nat.zero_le _⟩) hS (fun v_16 I_10 R_11 J_12 AI_13 AJ_14 AR_15 H locs zv_16 hp_17 hH hS => ?_)
  dsimp only at hp_17
  obtain ⟨rfl, rfl, rfl, rfl, rfl, hv, hT, haq7, q_18, fMq, qmv⟩ := hp_17
  rw [qa2] at qmv
  have hz6 : v_16 = ((bgN (mvF gh AI (lc.1 2).toNat) : Nat) : Int) := by have h9 := bgN_e qmv; unfold mvF; rw [h9]; omega
  have fM : ∀ b, b ≠ gh 81 0 → AI_13 b = AI b := fMq
  have h56 : AI_13 (gh 56 0) = AI (gh 56 0) := fM _ (show gh 56 0 ≠ gh 81 0 from mNe hv hm (p := (6, 126720)) (q := (31, 1200)) (by decide) (by decide) (by decide))
  have h57 : AI_13 (gh 57 0) = AI (gh 57 0) := fM _ (show gh 57 0 ≠ gh 81 0 from mNe hv hm (p := (7, 176)) (q := (31, 1200)) (by decide) (by decide) (by decide))
  clear qmv
  refine lv_istore_n (lv' := [(2, .int (iI v_16)), (0, .ref mo), (1, .int (iI rr))]) F.1 F.2.1 dX7_cameTo_9 rfl hl (by decide) rfl (fun ls hl => ?_)
  refine lv_aload_n F.1 F.2.1 dX7_cameTo_10 rfl (lv_at hl 1 rfl) ?_
  refine lv_iload_n F.1 F.2.1 dX7_cameTo_11 rfl (lv_at hl 2 rfl) ?_
  refine g_calli (g_runV (As := [.int (iI rr)]) (rest := []) (ci := 7) F hl.1 hH hS hz (c_X7_secondOf l g gh T I R J AI_13 AJ AR mo rr zrr hv hm hT (by omega)) (cwV 1 F.2.2.2.2.1 (good_up gT_X7_secondOf) rfl rfl rfl hdX7_secondOf ⟨Nat.le_of_ble_eq_true rfl, Nat.le_of_ble_eq_true rfl⟩) hm (by decide) rfl rfl rfl (Nat.le_of_ble_eq_true rfl) dX7_cameTo_12 ⟨Nat.zero_le _, Nat.zero_le _⟩) hS (fun v_25 I_19 R_20 J_21 AI_22 AJ_23 AR_24 H locs zv_25 hp_26 hH hS => ?_)
  dsimp only at hp_26
  obtain ⟨rfl, rfl, rfl, rfl, rfl, rfl, qb⟩ := hp_26
  have qb1 : v_25 = lc.1 3 := by rw [qb]; exact hl3
  refine z_if_ge (tgt := 22) F dX7_cameTo_15 (by decide) zv_25 (fun c_27 => ?_) (fun c_27 => ?_)
  · refine lv_iload_n F.1 F.2.1 dX7_cameTo_22 rfl (lv_at hl 0 rfl) ?_
    refine lv_aload_n F.1 F.2.1 dX7_cameTo_23 rfl (lv_at hl 1 rfl) ?_
    refine lv_aload_n F.1 F.2.1 dX7_cameTo_24 rfl (lv_at hl 1 rfl) ?_
    refine lv_iload_n F.1 F.2.1 dX7_cameTo_25 rfl (lv_at hl 2 rfl) ?_
    refine g_calli (g_runV (As := [.int (iI rr)]) (rest := [.ref mo, .int (iI v_16)]) (ci := 7) F hl.1 hH hS hz (c_X7_secondOf l g gh T I R J AI_13 AJ AR mo rr zrr hv hm hT (by omega)) (cwV 1 F.2.2.2.2.1 (good_up gT_X7_secondOf) rfl rfl rfl hdX7_secondOf ⟨Nat.le_of_ble_eq_true rfl, Nat.le_of_ble_eq_true rfl⟩) hm (by decide) rfl rfl rfl (Nat.le_of_ble_eq_true rfl) dX7_cameTo_26 ⟨Nat.zero_le _, Nat.zero_le _⟩) hS (fun v_34 I_28 R_29 J_30 AI_31 AJ_32 AR_33 H locs zv_34 hp_35 hH hS => ?_)
    dsimp only at hp_35
    obtain ⟨rfl, rfl, rfl, rfl, rfl, rfl, qb2⟩ := hp_35
    have qb3 : v_34 = lc.1 3 := by rw [qb2]; exact hl3
    have eF0 : rfM gh AI_13 0 = rfM gh AI 0 := rfM_g h56 h57
    have eF9 : rfM gh AI_13 9 = rfM gh AI 9 := rfM_g h56 h57
    have hra := rfM_s (gh := gh) (AI := AI_13) (sd := 0) (a := v_34) (n := (rfM gh AI 0 (v_34).toNat).1) (f := (rfM gh AI 0 (v_34).toNat).2) (by rw [eF0]) (by omega) (mSz1 hv hm (z := 16 * 0 + v_34) (by omega) (by omega)).1
    have hrb := rfM_s (gh := gh) (AI := AI_13) (sd := 9) (a := v_34) (n := (rfM gh AI 9 (v_34).toNat).1) (f := (rfM gh AI 9 (v_34).toNat).2) (by rw [eF9]) (by omega) (mSz1 hv hm (z := 16 * 9 + v_34) (by omega) (by omega)).1
    refine g_calli (g_runV (As := [.int (iI v_34)]) (rest := [.int (iI v_16)]) (ci := 7) F hl.1 hH hS hz (c_X7_laysMovedf l g gh T ((rfM gh AI 0 (v_34).toNat).1) ((rfM gh AI 9 (v_34).toNat).1) ((rfM gh AI 0 (v_34).toNat).2) ((rfM gh AI 9 (v_34).toNat).2) I R J AI_13 AJ AR mo v_34 zv_34 hv hm hT (by omega) hra.1 hra.2 hrb.1 hrb.2 (hbg _ (by omega)).1 (hb9 _ (by omega)).1 ⟨(hbg _ (by omega)).2.1, (hb9 _ (by omega)).2.1⟩) (cwV 1 F.2.2.2.2.1 (good_up gT_X7_laysMoved) rfl rfl rfl hdX7_laysMoved ⟨Nat.le_of_ble_eq_true rfl, Nat.le_of_ble_eq_true rfl⟩) hm (by decide) rfl rfl rfl (Nat.le_of_ble_eq_true rfl) dX7_cameTo_29 ⟨Nat.zero_le _, Nat.zero_le _⟩) hS (fun v_42 I_36 R_37 J_38 AI_39 AJ_40 AR_41 H locs zv_42 hp_43 hH hS => ?_)
    dsimp only at hp_43
    obtain ⟨rfl, rfl, rfl, rfl, rfl, hv, hT, haq7, q_44, fMq, qmv⟩ := hp_43
    rw [qb3] at qmv
    have hz29 : v_42 = ((bgN (mvF gh AI (lc.1 3).toNat) : Nat) : Int) := by have h9 := bgN_e qmv; unfold mvF; rw [h9]; omega
    have fM : ∀ b, b ≠ gh 81 0 → AI_39 b = AI b := fun b h1 => (fMq b h1).trans (fM b h1)
    refine z_iadd F dX7_cameTo_32 ?_
    exact g_iret F hr hlk hH hS hz ⟨by omega, by omega⟩ ⟨rfl, rfl, rfl, rfl, rfl, hv, hT, by first | omega | rfl | (dsimp only; omega), fM, by rw [if_neg (by omega), ← hz6, ← hz29]⟩ dX7_cameTo_33
  · refine lv_iload_n F.1 F.2.1 dX7_cameTo_18 rfl (lv_at hl 0 rfl) ?_
    refine z_goto (tgt := 33) F dX7_cameTo_19 (by decide) ?_
    exact g_iret F hr hlk hH hS hz zv_16 ⟨rfl, rfl, rfl, rfl, rfl, hv, hT, by first | omega | rfl | (dsimp only; omega), fM, by rw [if_pos (by omega), ← hz6]; omega⟩ dX7_cameTo_33
