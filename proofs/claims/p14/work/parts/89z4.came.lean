section
def rmX7_movedInViewsf : Room := { frames := 2, cells := 0, slots := 0, locals := 54 }
set_option maxHeartbeats 4000000 in
set_option maxRecDepth 100000 in
/-- moved in views -/
theorem c_X7_movedInViewsf (l : Launch) (g : gG) (gh : gGh) (T : Nat → Int32) (tbs : Int) (nr : Nat) (cc : Nat → LC) (cl : Nat → Int) (I : gI) (R : gR) (J : gJ) (AI : gI) (AJ : gJ) (AR : gR) (mo : Nat) (hv : mInv g gh R I AI) (hm : gO g mo 7) (hT : AI (gh 50 0) = T) (hmr : (I mo 2).toInt = (nr : Int)) (hpl : plM9 T tbs nr cc cl) (hbg : ∀ r : Nat, r < nr → bgOK (rfM gh AI 0) cl r) (hb9 : ∀ r : Nat, r < nr → bgOK (rfM gh AI 9) cl r) : gMet l g yX7_movedInViews tsX7_movedInViews rmX7_movedInViewsf [.ref mo] (I, R, J, AI, AJ, AR) (gQi g (fun (z : Int) (w : gS) => I = w.1 ∧ R = w.2.1 ∧ J = w.2.2.1 ∧ AJ = w.2.2.2.2.1 ∧ AR = w.2.2.2.2.2 ∧ (mInv g gh R I (w.2.2.2.1)) ∧ ((w.2.2.2.1) (gh 50 0) = T) ∧ (∀ b, b ≠ gh 81 0 → (w.2.2.2.1) b = AI b) ∧ (z = smL (fun r => ((bgN (mvF gh AI r) : Nat) : Int)) tbs.toNat (nr - tbs.toNat)))) := by
  refine gStart (cc := cX7_movedInViews) (maxL := 3) (ret := (some (.int))) (by decide) rfl (Nat.le_of_ble_eq_true rfl) ?_
  intro p e s m below meth c ls F hr hlk hH hz hS hl
  have hl : lv_has ls 3 [(0, .ref mo)] := hl
  have hS : va_S (gA g) s.heap s.heap [] := hS
  obtain ⟨H, hHe⟩ : ∃ H : Heap, H = s.heap := ⟨_, rfl⟩
  obtain ⟨locs, hlo⟩ : ∃ k : List Loc, k = [] := ⟨_, rfl⟩
  have hH : gH g I R J AI AJ AR H := by rw [hHe]; exact hH
  have hS : va_S (gA g) s.heap H locs := by rw [hHe, hlo]; exact hS
  suffices hw : W p l e rmX7_movedInViewsf s m ([.ref mo] : List Value).toArray below meth c H locs 0 0 (MQ below (gQi g (fun (z : Int) (w : gS) => I = w.1 ∧ R = w.2.1 ∧ J = w.2.2.1 ∧ AJ = w.2.2.2.2.1 ∧ AR = w.2.2.2.2.2 ∧ (mInv g gh R I (w.2.2.2.1)) ∧ ((w.2.2.2.1) (gh 50 0) = T) ∧ (∀ b, b ≠ gh 81 0 → (w.2.2.2.1) b = AI b) ∧ (z = smL (fun r => ((bgN (mvF gh AI r) : Nat) : Int)) tbs.toNat (nr - tbs.toNat)))) ([.ref mo] : List Value).toArray s 0 0 (gA g)) (F0 m 0 ls []) by
    rw [hHe, hlo] at hw; exact hw
  clear hHe hlo
  have hb0 := mJ hv hm
  unfold mNum1 at hb0
  have hp1 := hpl.1
  have iX7 : ∀ w ∈ u_ws RX7 TX7 32, w ∈ tsX7_movedInViews := fun w h => List.mem_cons_of_mem _ (inTB7 w h)
  have k64 : Cond.fieldLink RX7 64 (TX7 2).1 (TX7 2).2.1 (TX7 2).2.2.1 ∈ tsX7_movedInViews := List.mem_cons_of_mem _ fl_64
  refine z_iconst F dX7_movedInViews_0 ?_
  refine lv_istore_n (lv' := [(1, .int (iI 0)), (0, .ref mo)]) F.1 F.2.1 dX7_movedInViews_1 rfl hl (by decide) rfl (fun ls hl => ?_)
  refine lv_aload_n F.1 F.2.1 dX7_movedInViews_2 rfl (lv_at hl 1 rfl) ?_
  have b_1 := mJ hv hm
  unfold mNum1 at b_1
  refine g_calli (g_runV (As := []) (rest := []) (ci := 7) F hl.1 hH hS hz (c_X7_tablesf l g gh T I R J AI AJ AR mo hv hm hT) (cwV 0 F.2.2.2.2.1 (good_up gT_X7_tables) rfl rfl rfl hdX7_tables ⟨Nat.le_of_ble_eq_true rfl, Nat.le_of_ble_eq_true rfl⟩) hm (by decide) rfl rfl rfl (Nat.le_of_ble_eq_true rfl) dX7_movedInViews_3 ⟨Nat.zero_le _, Nat.zero_le _⟩) hS (fun v_8 I_2 R_3 J_4 AI_5 AJ_6 AR_7 H locs zv_8 hp_9 hH hS => ?_)
  dsimp only at hp_9
  obtain ⟨rfl, rfl, rfl, rfl, rfl, rfl, q_10, hvw, qtt⟩ := hp_9
  have ht3 : v_8 = tbs := tb_eq (many := (I mo 2).toInt) (by omega) (fun r h1 h2 => hvw r h1 (by omega)) qtt (by omega) hpl.2.1 (pl_6 hpl hmr)
  refine lv_istore_n (lv' := [(2, .int (iI v_8)), (1, .int (iI 0)), (0, .ref mo)]) F.1 F.2.1 dX7_movedInViews_6 rfl hl (by decide) rfl (fun ls hl => ?_)
  have cut_7_11 : ∀ (NN : Nat) (n k : Int) (AI_11 : gI) (H : Heap) (locs : List Loc) (ls : Array Slot), zr n → zr k → (mInv g gh R I AI_11) → (AI_11 (gh 50 0) = T) → (0 ≤ k ∧ k ≤ 16 ∧ 0 ≤ n ∧ n ≤ 240 * k) → (∀ b, b ≠ gh 81 0 → AI_11 b = AI b) → (n = smL (fun r => ((bgN (mvF gh AI r) : Nat) : Int)) tbs.toNat (k - tbs).toNat ∧ tbs ≤ k ∧ k ≤ (nr : Int)) → (16 - k) < ((NN : Nat) : Int) → gH g I R J AI_11 AJ AR H → va_S (gA g) s.heap H locs → lv_has ls 3 [(2, .int (iI k)), (1, .int (iI n)), (0, .ref mo)] → W p l e rmX7_movedInViewsf s m ([.ref mo] : List Value).toArray below meth c H locs 0 0 (MQ below (gQi g (fun (z : Int) (w : gS) => I = w.1 ∧ R = w.2.1 ∧ J = w.2.2.1 ∧ AJ = w.2.2.2.2.1 ∧ AR = w.2.2.2.2.2 ∧ (mInv g gh R I (w.2.2.2.1)) ∧ ((w.2.2.2.1) (gh 50 0) = T) ∧ (∀ b, b ≠ gh 81 0 → (w.2.2.2.1) b = AI b) ∧ (z = smL (fun r => ((bgN (mvF gh AI r) : Nat) : Int)) tbs.toNat (nr - tbs.toNat)))) ([.ref mo] : List Value).toArray s 0 0 (gA g)) (F0 m 7 ls []) := by
    intro NN7
    induction NN7 with
    | zero =>
      intro n k AI_11 H locs ls zn zk hv hT hk fM hsm hm7 hH hS hl
      exact absurd hm7 (by omega)
    | succ NN7 ih7 =>
      intro n k AI_11 H locs ls zn zk hv hT hk fM hsm hm7 hH hS hl
      have h56 : AI_11 (gh 56 0) = AI (gh 56 0) := fM _ (show gh 56 0 ≠ gh 81 0 from mNe hv hm (p := (6, 126720)) (q := (31, 1200)) (by decide) (by decide) (by decide))
      have h57 : AI_11 (gh 57 0) = AI (gh 57 0) := fM _ (show gh 57 0 ≠ gh 81 0 from mNe hv hm (p := (7, 176)) (q := (31, 1200)) (by decide) (by decide) (by decide))
      have hsk := hsm.2
      have hsm := hsm.1
      refine lv_iload_n F.1 F.2.1 dX7_movedInViews_7 rfl (lv_at hl 0 rfl) ?_
      refine lv_aload_n F.1 F.2.1 dX7_movedInViews_8 rfl (lv_at hl 2 rfl) ?_
      refine g_getI (ci := 7) (k := 2) F hH rfl (by decide) iX7 hm (by decide) rfl k64 dX7_movedInViews_9 ?_
      refine z_icmp_ge (tgt := 29) F dX7_movedInViews_12 (by decide) zk (zr_t _) (fun c_13 => ?_) (fun c_13 => ?_)
      · refine lv_iload_n F.1 F.2.1 dX7_movedInViews_29 rfl (lv_at hl 1 rfl) ?_
        exact g_iret F hr hlk hH hS hz zn ⟨rfl, rfl, rfl, rfl, rfl, hv, hT, fM, by rw [show nr - tbs.toNat = (k - tbs).toNat by omega]; exact hsm⟩ dX7_movedInViews_30
      · have eF0 : rfM gh AI_11 0 = rfM gh AI 0 := rfM_g h56 h57
        have eF9 : rfM gh AI_11 9 = rfM gh AI 9 := rfM_g h56 h57
        have hra := rfM_s (gh := gh) (AI := AI_11) (sd := 0) (a := k) (n := (rfM gh AI 0 (k).toNat).1) (f := (rfM gh AI 0 (k).toNat).2) (by rw [eF0]) (by omega) (mSz1 hv hm (z := 16 * 0 + k) (by omega) (by omega)).1
        have hrb := rfM_s (gh := gh) (AI := AI_11) (sd := 9) (a := k) (n := (rfM gh AI 9 (k).toNat).1) (f := (rfM gh AI 9 (k).toNat).2) (by rw [eF9]) (by omega) (mSz1 hv hm (z := 16 * 9 + k) (by omega) (by omega)).1
        refine lv_iload_n F.1 F.2.1 dX7_movedInViews_15 rfl (lv_at hl 1 rfl) ?_
        refine lv_aload_n F.1 F.2.1 dX7_movedInViews_16 rfl (lv_at hl 2 rfl) ?_
        refine lv_iload_n F.1 F.2.1 dX7_movedInViews_17 rfl (lv_at hl 0 rfl) ?_
        refine g_calli (g_runV (As := [.int (iI k)]) (rest := [.int (iI n)]) (ci := 7) F hl.1 hH hS hz (c_X7_laysMovedf l g gh T ((rfM gh AI 0 (k).toNat).1) ((rfM gh AI 9 (k).toNat).1) ((rfM gh AI 0 (k).toNat).2) ((rfM gh AI 9 (k).toNat).2) I R J AI_11 AJ AR mo k zk hv hm hT (by omega) hra.1 hra.2 hrb.1 hrb.2 (hbg (k).toNat (by omega)).1 (hb9 (k).toNat (by omega)).1 ⟨(hbg (k).toNat (by omega)).2.1, (hb9 (k).toNat (by omega)).2.1⟩) (cwV 1 F.2.2.2.2.1 (good_up gT_X7_laysMoved) rfl rfl rfl hdX7_laysMoved ⟨Nat.le_of_ble_eq_true rfl, Nat.le_of_ble_eq_true rfl⟩) hm (by decide) rfl rfl rfl (Nat.le_of_ble_eq_true rfl) dX7_movedInViews_18 ⟨Nat.zero_le _, Nat.zero_le _⟩) hS (fun v_20 I_14 R_15 J_16 AI_17 AJ_18 AR_19 H locs zv_20 hp_21 hH hS => ?_)
        dsimp only at hp_21
        obtain ⟨rfl, rfl, rfl, rfl, rfl, hv, hT, haq7, q_22, fMq, qmv⟩ := hp_21
        have hz18 : v_20 = ((bgN (mvF gh AI k.toNat) : Nat) : Int) := by have h9 := bgN_e qmv; unfold mvF; rw [h9]; omega
        have hsm9 := smL_s (f := (fun r => ((bgN (mvF gh AI r) : Nat) : Int))) (by omega) (by omega) hsm
        have fM : ∀ b, b ≠ gh 81 0 → AI_17 b = AI b := fun b h1 => (fMq b h1).trans (fM b h1)
        refine z_iadd F dX7_movedInViews_21 ?_
        refine lv_istore_n (lv' := [(1, .int (iI (n + v_20))), (2, .int (iI k)), (0, .ref mo)]) F.1 F.2.1 dX7_movedInViews_22 rfl hl (by decide) rfl (fun ls hl => ?_)
        refine z_iinc (lv' := [(2, .int (iI (k + 1))), (1, .int (iI (n + v_20))), (0, .ref mo)]) F dX7_movedInViews_23 hl (k := 1) rfl (by decide) rfl (fun ls hl => ?_)
        refine z_goto (tgt := 7) F dX7_movedInViews_26 (by decide) ?_
        exact ih7 (n + v_20) (k + 1) AI_17 H locs ls ⟨by omega, by omega⟩ ⟨by omega, by omega⟩ hv hT (by omega) fM ⟨by rw [hz18]; exact hsm9, by omega, by omega⟩ (by omega) hH hS (lv_sub hl [0, 1, 2] rfl)
  exact cut_7_11 (((16 - v_8) + 1 : Int).toNat) 0 v_8 AI H locs ls ⟨by decide, by decide⟩ zv_8 hv hT (by omega) (fun _ _ => rfl) ⟨by rw [show (v_8 - tbs).toNat = 0 by omega]; rfl, by omega, by omega⟩ (by omega) hH hS (lv_sub hl [0, 1, 2] rfl)

def rmX7_cameTof : Room := { frames := 2, cells := 0, slots := 0, locals := 54 }
set_option maxHeartbeats 4000000 in
set_option maxRecDepth 100000 in
/-- what came -/
theorem c_X7_cameTof (l : Launch) (g : gG) (gh : gGh) (T : Nat → Int32) (lc : LC) (nr : Nat) (cl : Nat → Int) (I : gI) (R : gR) (J : gJ) (AI : gI) (AJ : gJ) (AR : gR) (mo : Nat) (rr : Int) (zrr : zr rr) (hv : mInv g gh R I AI) (hm : gO g mo 7) (hT : AI (gh 50 0) = T) (hr0 : 0 ≤ rr ∧ rr < (I mo 2).toInt) (hk0 : tI T (40 * rr) ≠ 0) (hmr : (I mo 2).toInt = (nr : Int)) (hlm : lnM T rr lc) (hcK : cOK lc rr.toNat cl) (hbg : ∀ r : Nat, r < nr → bgOK (rfM gh AI 0) cl r) (hb9 : ∀ r : Nat, r < nr → bgOK (rfM gh AI 9) cl r) : gMet l g yX7_cameTo tsX7_cameTo rmX7_cameTof [.ref mo, .int (iI rr)] (I, R, J, AI, AJ, AR) (gQi g (fun (z : Int) (w : gS) => I = w.1 ∧ R = w.2.1 ∧ J = w.2.2.1 ∧ AJ = w.2.2.2.2.1 ∧ AR = w.2.2.2.2.2 ∧ (mInv g gh R I (w.2.2.2.1)) ∧ ((w.2.2.2.1) (gh 50 0) = T) ∧ (0 ≤ z ∧ z ≤ 480) ∧ (∀ b, b ≠ gh 81 0 → (w.2.2.2.1) b = AI b) ∧ (z = ((bgN (mvF gh AI (lc.1 2).toNat) : Nat) : Int) + (if lc.1 3 < 0 then 0 else ((bgN (mvF gh AI (lc.1 3).toNat) : Nat) : Int))))) := by
  refine gStart (cc := cX7_cameTo) (maxL := 3) (ret := (some (.int))) (by decide) rfl (Nat.le_of_ble_eq_true rfl) ?_
  intro p e s m below meth c ls F hr hlk hH hz hS hl
  have hl : lv_has ls 3 [(0, .ref mo), (1, .int (iI rr))] := hl
  have hS : va_S (gA g) s.heap s.heap [] := hS
  obtain ⟨H, hHe⟩ : ∃ H : Heap, H = s.heap := ⟨_, rfl⟩
  obtain ⟨locs, hlo⟩ : ∃ k : List Loc, k = [] := ⟨_, rfl⟩
  have hH : gH g I R J AI AJ AR H := by rw [hHe]; exact hH
  have hS : va_S (gA g) s.heap H locs := by rw [hHe, hlo]; exact hS
  suffices hw : W p l e rmX7_cameTof s m ([.ref mo, .int (iI rr)] : List Value).toArray below meth c H locs 0 0 (MQ below (gQi g (fun (z : Int) (w : gS) => I = w.1 ∧ R = w.2.1 ∧ J = w.2.2.1 ∧ AJ = w.2.2.2.2.1 ∧ AR = w.2.2.2.2.2 ∧ (mInv g gh R I (w.2.2.2.1)) ∧ ((w.2.2.2.1) (gh 50 0) = T) ∧ (0 ≤ z ∧ z ≤ 480) ∧ (∀ b, b ≠ gh 81 0 → (w.2.2.2.1) b = AI b) ∧ (z = ((bgN (mvF gh AI (lc.1 2).toNat) : Nat) : Int) + (if lc.1 3 < 0 then 0 else ((bgN (mvF gh AI (lc.1 3).toNat) : Nat) : Int))))) ([.ref mo, .int (iI rr)] : List Value).toArray s 0 0 (gA g)) (F0 m 0 ls []) by
    rw [hHe, hlo] at hw; exact hw
  clear hHe hlo
  have hb0 := mJ hv hm
  unfold mNum1 at hb0
  have x := mRow hv hm hT (z := rr) (by omega) (by omega)
  have xa := x.1
  have xc := x.2.2.1
  have xb := x.2.1 (by omega)
  obtain ⟨⟨hl0, hl1, hl2, hl3⟩, -⟩ := hlm
  obtain ⟨⟨cq1, cq2, cq3, cq4, cq5, cq6⟩, -⟩ := hcK
  have h56 : AI (gh 56 0) = AI (gh 56 0) := rfl
  have h57 : AI (gh 57 0) = AI (gh 57 0) := rfl
  refine lv_aload_n F.1 F.2.1 dX7_cameTo_0 rfl (lv_at hl 0 rfl) ?_
  refine lv_aload_n F.1 F.2.1 dX7_cameTo_1 rfl (lv_at hl 0 rfl) ?_
  refine lv_iload_n F.1 F.2.1 dX7_cameTo_2 rfl (lv_at hl 1 rfl) ?_
  have b_1 := mJ hv hm
  unfold mNum1 at b_1
  refine g_calli (g_runV (As := [.int (iI rr)]) (rest := [.ref mo]) (ci := 7) F hl.1 hH hS hz (c_X7_firstOf l g gh T I R J AI AJ AR mo rr zrr hv hm hT (by omega)) (cwV 1 F.2.2.2.2.1 (good_up gT_X7_firstOf) rfl rfl rfl hdX7_firstOf ⟨Nat.le_of_ble_eq_true rfl, Nat.le_of_ble_eq_true rfl⟩) hm (by decide) rfl rfl rfl (Nat.le_of_ble_eq_true rfl) dX7_cameTo_3 ⟨Nat.zero_le _, Nat.zero_le _⟩) hS (fun v_8 I_2 R_3 J_4 AI_5 AJ_6 AR_7 H locs zv_8 hp_9 hH hS => ?_)
  dsimp only at hp_9
  obtain ⟨rfl, rfl, rfl, rfl, rfl, rfl, qa⟩ := hp_9
  have qa2 : v_8 = lc.1 2 := by rw [qa]; exact hl2
  have eF0 : rfM gh AI 0 = rfM gh AI 0 := rfM_g h56 h57
  have eF9 : rfM gh AI 9 = rfM gh AI 9 := rfM_g h56 h57
  have hra := rfM_s (gh := gh) (AI := AI) (sd := 0) (a := v_8) (n := (rfM gh AI 0 (v_8).toNat).1) (f := (rfM gh AI 0 (v_8).toNat).2) (by rw [eF0]) (by omega) (mSz1 hv hm (z := 16 * 0 + v_8) (by omega) (by omega)).1
  have hrb := rfM_s (gh := gh) (AI := AI) (sd := 9) (a := v_8) (n := (rfM gh AI 9 (v_8).toNat).1) (f := (rfM gh AI 9 (v_8).toNat).2) (by rw [eF9]) (by omega) (mSz1 hv hm (z := 16 * 9 + v_8) (by omega) (by omega)).1
  refine g_calli (g_runV (As := [.int (iI v_8)]) (rest := []) (ci := 7) F hl.1 hH hS hz (c_X7_laysMovedf l g gh T ((rfM gh AI 0 (v_8).toNat).1) ((rfM gh AI 9 (v_8).toNat).1) ((rfM gh AI 0 (v_8).toNat).2) ((rfM gh AI 9 (v_8).toNat).2) I R J AI AJ AR mo v_8 zv_8 hv hm hT (by omega) hra.1 hra.2 hrb.1 hrb.2 (hbg _ (by omega)).1 (hb9 _ (by omega)).1 ⟨(hbg _ (by omega)).2.1, (hb9 _ (by omega)).2.1⟩) (cwV 1 F.2.2.2.2.1 (good_up gT_X7_laysMoved) rfl rfl rfl hdX7_laysMoved ⟨Nat.le_of_ble_eq_true rfl, Nat.le_of_ble_eq_true rfl⟩) hm (by decide) rfl rfl rfl (Nat.le_of_ble_eq_true rfl) dX7_cameTo_6 ⟨Nat.zero_le _, Nat.zero_le _⟩) hS (fun v_16 I_10 R_11 J_12 AI_13 AJ_14 AR_15 H locs zv_16 hp_17 hH hS => ?_)
  dsimp only at hp_17
  obtain ⟨rfl, rfl, rfl, rfl, rfl, hv, hT, haq7, q_18, fMq, qmv⟩ := hp_17
  rw [qa2] at qmv
  have hz6 : v_16 = ((bgN (mvF gh AI (lc.1 2).toNat) : Nat) : Int) := by have h9 := bgN_e qmv; unfold mvF; rw [h9]; omega
  have fM : ∀ b, b ≠ gh 81 0 → AI_13 b = AI b := fMq
  have h56 : AI_13 (gh 56 0) = AI (gh 56 0) := fM _ (show gh 56 0 ≠ gh 81 0 from mNe hv hm (p := (6, 126720)) (q := (31, 1200)) (by decide) (by decide) (by decide))
  have h57 : AI_13 (gh 57 0) = AI (gh 57 0) := fM _ (show gh 57 0 ≠ gh 81 0 from mNe hv hm (p := (7, 176)) (q := (31, 1200)) (by decide) (by decide) (by decide))
  clear qmv
  refine lv_istore_n (lv' := [(2, .int (iI v_16)), (0, .ref mo), (1, .int (iI rr))]) F.1 F.2.1 dX7_cameTo_9 rfl hl (by decide) rfl (fun ls hl => ?_)
  refine lv_aload_n F.1 F.2.1 dX7_cameTo_10 rfl (lv_at hl 1 rfl) ?_
  refine lv_iload_n F.1 F.2.1 dX7_cameTo_11 rfl (lv_at hl 2 rfl) ?_
  refine g_calli (g_runV (As := [.int (iI rr)]) (rest := []) (ci := 7) F hl.1 hH hS hz (c_X7_secondOf l g gh T I R J AI_13 AJ AR mo rr zrr hv hm hT (by omega)) (cwV 1 F.2.2.2.2.1 (good_up gT_X7_secondOf) rfl rfl rfl hdX7_secondOf ⟨Nat.le_of_ble_eq_true rfl, Nat.le_of_ble_eq_true rfl⟩) hm (by decide) rfl rfl rfl (Nat.le_of_ble_eq_true rfl) dX7_cameTo_12 ⟨Nat.zero_le _, Nat.zero_le _⟩) hS (fun v_25 I_19 R_20 J_21 AI_22 AJ_23 AR_24 H locs zv_25 hp_26 hH hS => ?_)
  dsimp only at hp_26
  obtain ⟨rfl, rfl, rfl, rfl, rfl, rfl, qb⟩ := hp_26
  have qb1 : v_25 = lc.1 3 := by rw [qb]; exact hl3
  refine z_if_ge (tgt := 22) F dX7_cameTo_15 (by decide) zv_25 (fun c_27 => ?_) (fun c_27 => ?_)
  · refine lv_iload_n F.1 F.2.1 dX7_cameTo_22 rfl (lv_at hl 0 rfl) ?_
    refine lv_aload_n F.1 F.2.1 dX7_cameTo_23 rfl (lv_at hl 1 rfl) ?_
    refine lv_aload_n F.1 F.2.1 dX7_cameTo_24 rfl (lv_at hl 1 rfl) ?_
    refine lv_iload_n F.1 F.2.1 dX7_cameTo_25 rfl (lv_at hl 2 rfl) ?_
    refine g_calli (g_runV (As := [.int (iI rr)]) (rest := [.ref mo, .int (iI v_16)]) (ci := 7) F hl.1 hH hS hz (c_X7_secondOf l g gh T I R J AI_13 AJ AR mo rr zrr hv hm hT (by omega)) (cwV 1 F.2.2.2.2.1 (good_up gT_X7_secondOf) rfl rfl rfl hdX7_secondOf ⟨Nat.le_of_ble_eq_true rfl, Nat.le_of_ble_eq_true rfl⟩) hm (by decide) rfl rfl rfl (Nat.le_of_ble_eq_true rfl) dX7_cameTo_26 ⟨Nat.zero_le _, Nat.zero_le _⟩) hS (fun v_34 I_28 R_29 J_30 AI_31 AJ_32 AR_33 H locs zv_34 hp_35 hH hS => ?_)
    dsimp only at hp_35
    obtain ⟨rfl, rfl, rfl, rfl, rfl, rfl, qb2⟩ := hp_35
    have qb3 : v_34 = lc.1 3 := by rw [qb2]; exact hl3
    have eF0 : rfM gh AI_13 0 = rfM gh AI 0 := rfM_g h56 h57
    have eF9 : rfM gh AI_13 9 = rfM gh AI 9 := rfM_g h56 h57
    have hra := rfM_s (gh := gh) (AI := AI_13) (sd := 0) (a := v_34) (n := (rfM gh AI 0 (v_34).toNat).1) (f := (rfM gh AI 0 (v_34).toNat).2) (by rw [eF0]) (by omega) (mSz1 hv hm (z := 16 * 0 + v_34) (by omega) (by omega)).1
    have hrb := rfM_s (gh := gh) (AI := AI_13) (sd := 9) (a := v_34) (n := (rfM gh AI 9 (v_34).toNat).1) (f := (rfM gh AI 9 (v_34).toNat).2) (by rw [eF9]) (by omega) (mSz1 hv hm (z := 16 * 9 + v_34) (by omega) (by omega)).1
    refine g_calli (g_runV (As := [.int (iI v_34)]) (rest := [.int (iI v_16)]) (ci := 7) F hl.1 hH hS hz (c_X7_laysMovedf l g gh T ((rfM gh AI 0 (v_34).toNat).1) ((rfM gh AI 9 (v_34).toNat).1) ((rfM gh AI 0 (v_34).toNat).2) ((rfM gh AI 9 (v_34).toNat).2) I R J AI_13 AJ AR mo v_34 zv_34 hv hm hT (by omega) hra.1 hra.2 hrb.1 hrb.2 (hbg _ (by omega)).1 (hb9 _ (by omega)).1 ⟨(hbg _ (by omega)).2.1, (hb9 _ (by omega)).2.1⟩) (cwV 1 F.2.2.2.2.1 (good_up gT_X7_laysMoved) rfl rfl rfl hdX7_laysMoved ⟨Nat.le_of_ble_eq_true rfl, Nat.le_of_ble_eq_true rfl⟩) hm (by decide) rfl rfl rfl (Nat.le_of_ble_eq_true rfl) dX7_cameTo_29 ⟨Nat.zero_le _, Nat.zero_le _⟩) hS (fun v_42 I_36 R_37 J_38 AI_39 AJ_40 AR_41 H locs zv_42 hp_43 hH hS => ?_)
    dsimp only at hp_43
    obtain ⟨rfl, rfl, rfl, rfl, rfl, hv, hT, haq7, q_44, fMq, qmv⟩ := hp_43
    rw [qb3] at qmv
    have hz29 : v_42 = ((bgN (mvF gh AI (lc.1 3).toNat) : Nat) : Int) := by have h9 := bgN_e qmv; unfold mvF; rw [h9]; omega
    have fM : ∀ b, b ≠ gh 81 0 → AI_39 b = AI b := fun b h1 => (fMq b h1).trans (fM b h1)
    refine z_iadd F dX7_cameTo_32 ?_
    exact g_iret F hr hlk hH hS hz ⟨by omega, by omega⟩ ⟨rfl, rfl, rfl, rfl, rfl, hv, hT, by first | omega | rfl | (dsimp only; omega), fM, by rw [if_neg (by omega), ← hz6, ← hz29]⟩ dX7_cameTo_33
  · refine lv_iload_n F.1 F.2.1 dX7_cameTo_18 rfl (lv_at hl 0 rfl) ?_
    refine z_goto (tgt := 33) F dX7_cameTo_19 (by decide) ?_
    exact g_iret F hr hlk hH hS hz zv_16 ⟨rfl, rfl, rfl, rfl, rfl, hv, hT, by first | omega | rfl | (dsimp only; omega), fM, by rw [if_pos (by omega), ← hz6]; omega⟩ dX7_cameTo_33
end
section
def rmX7_commitf : Room := { frames := 7, cells := 0, slots := 0, locals := 182 }
set_option maxHeartbeats 4000000 in
set_option maxRecDepth 100000 in
/-- commit -/
theorem c_X7_commitf (l : Launch) (g : gG) (gh : gGh) (T : Nat → Int32) (tbs : Int) (nr nb : Nat) (cc : Nat → LC) (cl : Nat → Int) (bf : Nat → Int32) (I : gI) (R : gR) (J : gJ) (AI : gI) (AJ : gJ) (AR : gR) (mo : Nat) (hv : mInv g gh R I AI) (hm : gO g mo 7) (hT : AI (gh 50 0) = T) (hmr : (I mo 2).toInt = (nr : Int)) (hpl : plM9 T tbs nr cc cl) (hnb : (I mo 14).toInt = (nb : Int)) (hbm : btM9 gh AI bf nb tbs cl) (hbg : ∀ r : Nat, r < nr → bgOK (rfM gh AI 0) cl r) (hps : ∀ r : Nat, (r : Int) < tbs → ∀ t, 0 ≤ (bS (rfM gh AI 0 r).2 (rfM gh AI 0 r).1 t).toInt) : gMet l g yX7_commit tsX7_commit rmX7_commitf [.ref mo] (I, R, J, AI, AJ, AR) (gQi g (fun (z : Int) (w : gS) => R = w.2.1 ∧ J = w.2.2.1 ∧ AJ = w.2.2.2.2.1 ∧ AR = w.2.2.2.2.2 ∧ (mInv g gh R (w.1) (w.2.2.2.1)) ∧ ((w.2.2.2.1) (gh 50 0) = T) ∧ (mF mo I (w.1)) ∧ (((w.1) mo 14).toInt = 0) ∧ ((z < 0 ∧ drP gh AI tbs nr cc cl bf nb z (w.2.2.2.1) ∧ (w.1) mo 8 = I mo 8 ∧ (w.1) mo 9 = I mo 9 ∧ (w.1) mo 10 = I mo 10 + 1) ∨ (∃ A1 : gI, drP gh AI tbs nr cc cl bf nb 0 A1 ∧ cmM gh AI A1 (w.2.2.2.1) (I mo 8).toInt ((w.1) mo 8).toInt ∧ (w.1) mo 9 = I mo 9 + 1 ∧ (w.1) mo 10 = I mo 10 ∧ noY gh AI (w.2.2.2.1) ∧ z = smL (fun r => ((bgN (mvF gh (w.2.2.2.1) r) : Nat) : Int)) tbs.toNat (nr - tbs.toNat))))) := by
  refine gStart (cc := cX7_commit) (maxL := 3) (ret := (some (.int))) (by decide) rfl (Nat.le_of_ble_eq_true rfl) ?_
  intro p e s m below meth c ls F hr hlk hH hz hS hl
  have hl : lv_has ls 3 [(0, .ref mo)] := hl
  have hS : va_S (gA g) s.heap s.heap [] := hS
  obtain ⟨H, hHe⟩ : ∃ H : Heap, H = s.heap := ⟨_, rfl⟩
  obtain ⟨locs, hlo⟩ : ∃ k : List Loc, k = [] := ⟨_, rfl⟩
  have hH : gH g I R J AI AJ AR H := by rw [hHe]; exact hH
  have hS : va_S (gA g) s.heap H locs := by rw [hHe, hlo]; exact hS
  suffices hw : W p l e rmX7_commitf s m ([.ref mo] : List Value).toArray below meth c H locs 0 0 (MQ below (gQi g (fun (z : Int) (w : gS) => R = w.2.1 ∧ J = w.2.2.1 ∧ AJ = w.2.2.2.2.1 ∧ AR = w.2.2.2.2.2 ∧ (mInv g gh R (w.1) (w.2.2.2.1)) ∧ ((w.2.2.2.1) (gh 50 0) = T) ∧ (mF mo I (w.1)) ∧ (((w.1) mo 14).toInt = 0) ∧ ((z < 0 ∧ drP gh AI tbs nr cc cl bf nb z (w.2.2.2.1) ∧ (w.1) mo 8 = I mo 8 ∧ (w.1) mo 9 = I mo 9 ∧ (w.1) mo 10 = I mo 10 + 1) ∨ (∃ A1 : gI, drP gh AI tbs nr cc cl bf nb 0 A1 ∧ cmM gh AI A1 (w.2.2.2.1) (I mo 8).toInt ((w.1) mo 8).toInt ∧ (w.1) mo 9 = I mo 9 + 1 ∧ (w.1) mo 10 = I mo 10 ∧ noY gh AI (w.2.2.2.1) ∧ z = smL (fun r => ((bgN (mvF gh (w.2.2.2.1) r) : Nat) : Int)) tbs.toNat (nr - tbs.toNat))))) ([.ref mo] : List Value).toArray s 0 0 (gA g)) (F0 m 0 ls []) by
    rw [hHe, hlo] at hw; exact hw
  clear hHe hlo
  have mf : mF mo I I := mF_r
  have hp1 := hpl.1
  have hb0 := mJ hv hm
  unfold mNum1 at hb0
  have iX7 : ∀ w ∈ u_ws RX7 TX7 32, w ∈ tsX7_commit := fun w h => List.mem_cons_of_mem _ (inTB7 w h)
  have k60 : Cond.fieldLink RX7 60 (TX7 17).1 (TX7 17).2.1 (TX7 17).2.2.1 ∈ tsX7_commit := List.mem_cons_of_mem _ fl_60
  have k266 : Cond.fieldLink RX7 266 (TX7 14).1 (TX7 14).2.1 (TX7 14).2.2.1 ∈ tsX7_commit := List.mem_cons_of_mem _ fl_266
  have k263 : Cond.fieldLink RX7 263 (TX7 10).1 (TX7 10).2.1 (TX7 10).2.2.1 ∈ tsX7_commit := List.mem_cons_of_mem _ fl_263
  have k257 : Cond.fieldLink RX7 257 (TX7 8).1 (TX7 8).2.1 (TX7 8).2.2.1 ∈ tsX7_commit := List.mem_cons_of_mem _ fl_257
  have k260 : Cond.fieldLink RX7 260 (TX7 9).1 (TX7 9).2.1 (TX7 9).2.2.1 ∈ tsX7_commit := List.mem_cons_of_mem _ fl_260
  refine lv_aload_n F.1 F.2.1 dX7_commit_0 rfl (lv_at hl 0 rfl) ?_
  refine z_iconst F dX7_commit_1 ?_
  refine g_putI (ci := 7) (k := 17) F hH hS rfl (by decide) iX7 hm (by decide) tyX7 tyX7_ok nmX7 rfl rfl rfl k60 dX7_commit_2 (fun H locs hH hS => ?_)
  obtain ⟨I_1, eI_1⟩ : ∃ qQ, qQ = gup2 I mo 17 (iI (0)) := ⟨_, rfl⟩
  rw [← eI_1] at hH
  have kI_1 : ∀ b, b ≠ mo → I_1 b = I b := fun b hb => by rw [eI_1]; exact funext fun j => gup2_a _ _ hb
  have w_2 : (I_1 mo 17).toInt = 0 := by rw [eI_1, gup2_s]; exact iI_val ⟨by decide, by decide⟩
  have hv : mInv g gh R I_1 AI := by rw [eI_1]; exact mP17 hv hm
  have mf : mF mo I I_1 := mF_t mf (by rw [eI_1]; exact mF_p (by decide))
  have u_3_2 : (I_1 mo 2).toInt = (I mo 2).toInt := by rw [mf 2 (by decide) (by decide) (by decide) (by decide) (by decide) (by decide)]
  have u_3_5 : (I_1 mo 5).toInt = (I mo 5).toInt := by rw [mf 5 (by decide) (by decide) (by decide) (by decide) (by decide) (by decide)]
  have u_3_16 : (I_1 mo 16).toInt = (I mo 16).toInt := by rw [mf 16 (by decide) (by decide) (by decide) (by decide) (by decide) (by decide)]
  have u_3_24 : (I_1 mo 24).toInt = (I mo 24).toInt := by rw [mf 24 (by decide) (by decide) (by decide) (by decide) (by decide) (by decide)]
  have w_2_k14 : (I_1 mo 14).toInt = (I mo 14).toInt := by rw [eI_1, gup2_k _ _ (by decide)]
  have i8 : I mo 8 = I mo 8 := rfl
  have i9 : I mo 9 = I mo 9 := rfl
  have i10 : I mo 10 = I mo 10 := rfl
  have i14 : I mo 14 = I mo 14 := rfl
  have i8 : I_1 mo 8 = I mo 8 := (show I_1 mo 8 = I mo 8 by rw [eI_1, gup2_k _ _ (by decide)]).trans i8
  have i9 : I_1 mo 9 = I mo 9 := (show I_1 mo 9 = I mo 9 by rw [eI_1, gup2_k _ _ (by decide)]).trans i9
  have i10 : I_1 mo 10 = I mo 10 := (show I_1 mo 10 = I mo 10 by rw [eI_1, gup2_k _ _ (by decide)]).trans i10
  have i14 : I_1 mo 14 = I mo 14 := (show I_1 mo 14 = I mo 14 by rw [eI_1, gup2_k _ _ (by decide)]).trans i14
  refine lv_aload_n F.1 F.2.1 dX7_commit_5 rfl (lv_at hl 0 rfl) ?_
  have b_4 := mJ hv hm
  unfold mNum1 at b_4
  refine g_calli (g_runV (As := []) (rest := []) (ci := 7) F hl.1 hH hS hz (c_X7_draftsf l g gh T tbs nr nb cc cl bf I_1 R J AI AJ AR mo hv hm hT (by omega) hpl (by omega) hbm hbg hps) (cwV 0 F.2.2.2.2.1 (good_up gT_X7_drafts) rfl rfl rfl hdX7_drafts ⟨Nat.le_of_ble_eq_true rfl, Nat.le_of_ble_eq_true rfl⟩) hm (by decide) rfl rfl rfl (Nat.le_of_ble_eq_true rfl) dX7_commit_6 ⟨Nat.zero_le _, Nat.zero_le _⟩) hS (fun v_11 I_5 R_6 J_7 AI_8 AJ_9 AR_10 H locs zv_11 hp_12 hH hS => ?_)
  dsimp only at hp_12
  obtain ⟨rfl, rfl, rfl, rfl, hv, hT, wfq, qdr⟩ := hp_12
  have mf := mF_t mf (mF_w wfq)
  have u_13_2 : (I_5 mo 2).toInt = (I mo 2).toInt := by rw [mf 2 (by decide) (by decide) (by decide) (by decide) (by decide) (by decide)]
  have u_13_5 : (I_5 mo 5).toInt = (I mo 5).toInt := by rw [mf 5 (by decide) (by decide) (by decide) (by decide) (by decide) (by decide)]
  have u_13_16 : (I_5 mo 16).toInt = (I mo 16).toInt := by rw [mf 16 (by decide) (by decide) (by decide) (by decide) (by decide) (by decide)]
  have u_13_24 : (I_5 mo 24).toInt = (I mo 24).toInt := by rw [mf 24 (by decide) (by decide) (by decide) (by decide) (by decide) (by decide)]
  have i8 : I_5 mo 8 = I mo 8 := (wfq 8 (by decide)).trans i8
  have i9 : I_5 mo 9 = I mo 9 := (wfq 9 (by decide)).trans i9
  have i10 : I_5 mo 10 = I mo 10 := (wfq 10 (by decide)).trans i10
  have i14 : I_5 mo 14 = I mo 14 := (wfq 14 (by decide)).trans i14
  refine lv_istore_n (lv' := [(1, .int (iI v_11)), (0, .ref mo)]) F.1 F.2.1 dX7_commit_9 rfl hl (by decide) rfl (fun ls hl => ?_)
  refine lv_aload_n F.1 F.2.1 dX7_commit_10 rfl (lv_at hl 1 rfl) ?_
  refine z_iconst F dX7_commit_11 ?_
  refine g_putI (ci := 7) (k := 14) F hH hS rfl (by decide) iX7 hm (by decide) tyX7 tyX7_ok nmX7 rfl rfl rfl k266 dX7_commit_12 (fun H locs hH hS => ?_)
  obtain ⟨I_14, eI_14⟩ : ∃ qQ, qQ = gup2 I_5 mo 14 (iI (0)) := ⟨_, rfl⟩
  rw [← eI_14] at hH
  have kI_14 : ∀ b, b ≠ mo → I_14 b = I_5 b := fun b hb => by rw [eI_14]; exact funext fun j => gup2_a _ _ hb
  have w_15 : (I_14 mo 14).toInt = 0 := by rw [eI_14, gup2_s]; exact iI_val ⟨by decide, by decide⟩
  have hv : mInv g gh R I_14 AI_8 := by rw [eI_14]; exact mP14 hv hm (by omega) (by omega)
  have mf : mF mo I I_14 := mF_t mf (by rw [eI_14]; exact mF_p (by decide))
  have u_16_2 : (I_14 mo 2).toInt = (I mo 2).toInt := by rw [mf 2 (by decide) (by decide) (by decide) (by decide) (by decide) (by decide)]
  have u_16_5 : (I_14 mo 5).toInt = (I mo 5).toInt := by rw [mf 5 (by decide) (by decide) (by decide) (by decide) (by decide) (by decide)]
  have u_16_16 : (I_14 mo 16).toInt = (I mo 16).toInt := by rw [mf 16 (by decide) (by decide) (by decide) (by decide) (by decide) (by decide)]
  have u_16_24 : (I_14 mo 24).toInt = (I mo 24).toInt := by rw [mf 24 (by decide) (by decide) (by decide) (by decide) (by decide) (by decide)]
  have i8 : I_14 mo 8 = I mo 8 := (show I_14 mo 8 = I_5 mo 8 by rw [eI_14, gup2_k _ _ (by decide)]).trans i8
  have i9 : I_14 mo 9 = I mo 9 := (show I_14 mo 9 = I_5 mo 9 by rw [eI_14, gup2_k _ _ (by decide)]).trans i9
  have i10 : I_14 mo 10 = I mo 10 := (show I_14 mo 10 = I_5 mo 10 by rw [eI_14, gup2_k _ _ (by decide)]).trans i10
  refine lv_iload_n F.1 F.2.1 dX7_commit_15 rfl (lv_at hl 0 rfl) ?_
  refine z_if_ge (tgt := 31) F dX7_commit_16 (by decide) zv_11 (fun c_17 => ?_) (fun c_17 => ?_)
  · have i8t : (I_14 mo 8).toInt = (I mo 8).toInt := by rw [i8]
    have hz0 : v_11 = 0 := by have h9 := qdr.2.2.2.2; omega
    rw [hz0] at qdr
    have hst := (qdr.2.2.2.1 rfl).1
    have cut_76_19 : ∀ (I_18 : gI) (AI_19 : gI) (H : Heap) (locs : List Loc) (ls : Array Slot), (mInv g gh R I_18 AI_19) → (AI_19 (gh 50 0) = T) → (mF mo I I_18) → ((I_18 mo 8).toInt ≤ 7) → ((I_18 mo 14).toInt = 0) → (bkU gh AI_8 AI_19 (I mo 8).toInt (I_18 mo 8).toInt) → (I_18 mo 9 = I mo 9) → (I_18 mo 10 = I mo 10) → gH g I_18 R J AI_19 AJ AR H → va_S (gA g) s.heap H locs → lv_has ls 3 [(1, .int (iI v_11)), (0, .ref mo)] → W p l e rmX7_commitf s m ([.ref mo] : List Value).toArray below meth c H locs 0 0 (MQ below (gQi g (fun (z : Int) (w : gS) => R = w.2.1 ∧ J = w.2.2.1 ∧ AJ = w.2.2.2.2.1 ∧ AR = w.2.2.2.2.2 ∧ (mInv g gh R (w.1) (w.2.2.2.1)) ∧ ((w.2.2.2.1) (gh 50 0) = T) ∧ (mF mo I (w.1)) ∧ (((w.1) mo 14).toInt = 0) ∧ ((z < 0 ∧ drP gh AI tbs nr cc cl bf nb z (w.2.2.2.1) ∧ (w.1) mo 8 = I mo 8 ∧ (w.1) mo 9 = I mo 9 ∧ (w.1) mo 10 = I mo 10 + 1) ∨ (∃ A1 : gI, drP gh AI tbs nr cc cl bf nb 0 A1 ∧ cmM gh AI A1 (w.2.2.2.1) (I mo 8).toInt ((w.1) mo 8).toInt ∧ (w.1) mo 9 = I mo 9 + 1 ∧ (w.1) mo 10 = I mo 10 ∧ noY gh AI (w.2.2.2.1) ∧ z = smL (fun r => ((bgN (mvF gh (w.2.2.2.1) r) : Nat) : Int)) tbs.toNat (nr - tbs.toNat))))) ([.ref mo] : List Value).toArray s 0 0 (gA g)) (F0 m 76 ls []) := by
      intro I_18 AI_19 H locs ls hv hT mf hu hc14 hbu i9 i10 hH hS hl
      have uc_2 : (I_18 mo 2).toInt = (I mo 2).toInt := by rw [mf 2 (by decide) (by decide) (by decide) (by decide) (by decide) (by decide)]
      have uc_5 : (I_18 mo 5).toInt = (I mo 5).toInt := by rw [mf 5 (by decide) (by decide) (by decide) (by decide) (by decide) (by decide)]
      have uc_16 : (I_18 mo 16).toInt = (I mo 16).toInt := by rw [mf 16 (by decide) (by decide) (by decide) (by decide) (by decide) (by decide)]
      have uc_24 : (I_18 mo 24).toInt = (I mo 24).toInt := by rw [mf 24 (by decide) (by decide) (by decide) (by decide) (by decide) (by decide)]
      refine lv_aload_n F.1 F.2.1 dX7_commit_76 rfl (lv_at hl 1 rfl) ?_
      refine z_iconst F dX7_commit_77 ?_
      refine z_iconst F dX7_commit_78 ?_
      refine lv_aload_n F.1 F.2.1 dX7_commit_79 rfl (lv_at hl 1 rfl) ?_
      refine g_getI (ci := 7) (k := 8) F hH rfl (by decide) iX7 hm (by decide) rfl k257 dX7_commit_80 ?_
      have b_21 := mJ hv hm
      unfold mNum1 at b_21
      refine z_iadd F dX7_commit_83 ?_
      refine g_callv (g_runV (As := [.int (iI 0), .int (iI (1 + ((I_18 mo 8).toInt)))]) (rest := []) (ci := 7) F hl.1 hH hS hz (c_X7_copiesf l g gh T I_18 R J AI_19 AJ AR mo 0 (1 + ((I_18 mo 8).toInt)) ⟨by decide, by decide⟩ ⟨by omega, by omega⟩ hv hm hT (by omega)) (cwV 2 F.2.2.2.2.1 (good_up gT_X7_copies) rfl rfl rfl hdX7_copies ⟨Nat.le_of_ble_eq_true rfl, Nat.le_of_ble_eq_true rfl⟩) hm (by decide) rfl rfl rfl (Nat.le_of_ble_eq_true rfl) dX7_commit_84 ⟨Nat.zero_le _, Nat.zero_le _⟩) hS (fun I_22 R_23 J_24 AI_25 AJ_26 AR_27 H locs hp_28 hH hS => ?_)
      dsimp only at hp_28
      obtain ⟨rfl, rfl, rfl, rfl, rfl, hv, hT, qc1⟩ := hp_28
      refine lv_aload_n F.1 F.2.1 dX7_commit_87 rfl (lv_at hl 1 rfl) ?_
      refine lv_dup F.1 F.2.1 dX7_commit_88 rfl ?_
      refine g_getI (ci := 7) (k := 8) F hH rfl (by decide) iX7 hm (by decide) rfl k257 dX7_commit_89 ?_
      refine z_iconst F dX7_commit_92 ?_
      refine z_iadd F dX7_commit_93 ?_
      refine g_putI (ci := 7) (k := 8) F hH hS rfl (by decide) iX7 hm (by decide) tyX7 tyX7_ok nmX7 rfl rfl rfl k257 dX7_commit_94 (fun H locs hH hS => ?_)
      obtain ⟨I_29, eI_29⟩ : ∃ qQ, qQ = gup2 I_18 mo 8 (iI (((I_18 mo 8).toInt) + 1)) := ⟨_, rfl⟩
      rw [← eI_29] at hH
      have kI_29 : ∀ b, b ≠ mo → I_29 b = I_18 b := fun b hb => by rw [eI_29]; exact funext fun j => gup2_a _ _ hb
      have w_30 : (I_29 mo 8).toInt = ((I_18 mo 8).toInt) + 1 := by rw [eI_29, gup2_s]; exact iI_val ⟨by omega, by omega⟩
      have hv : mInv g gh R I_29 AI_25 := by rw [eI_29]; exact mP8 hv hm (by omega) (by omega)
      have mf : mF mo I I_29 := mF_t mf (by rw [eI_29]; exact mF_p (by decide))
      have u_31_2 : (I_29 mo 2).toInt = (I mo 2).toInt := by rw [mf 2 (by decide) (by decide) (by decide) (by decide) (by decide) (by decide)]
      have u_31_5 : (I_29 mo 5).toInt = (I mo 5).toInt := by rw [mf 5 (by decide) (by decide) (by decide) (by decide) (by decide) (by decide)]
      have u_31_16 : (I_29 mo 16).toInt = (I mo 16).toInt := by rw [mf 16 (by decide) (by decide) (by decide) (by decide) (by decide) (by decide)]
      have u_31_24 : (I_29 mo 24).toInt = (I mo 24).toInt := by rw [mf 24 (by decide) (by decide) (by decide) (by decide) (by decide) (by decide)]
      have w_30_k14 : (I_29 mo 14).toInt = (I_18 mo 14).toInt := by rw [eI_29, gup2_k _ _ (by decide)]
      have i9 : I_29 mo 9 = I mo 9 := (show I_29 mo 9 = I_18 mo 9 by rw [eI_29, gup2_k _ _ (by decide)]).trans i9
      have i10 : I_29 mo 10 = I mo 10 := (show I_29 mo 10 = I_18 mo 10 by rw [eI_29, gup2_k _ _ (by decide)]).trans i10
      have j8 : (I_29 mo 8).toInt = (I_18 mo 8).toInt + 1 := by omega
      refine lv_aload_n F.1 F.2.1 dX7_commit_97 rfl (lv_at hl 1 rfl) ?_
      refine z_iconst F dX7_commit_98 ?_
      refine z_bipush F dX7_commit_99 (by decide) ?_
      have b_32 := mJ hv hm
      unfold mNum1 at b_32
      refine g_callv (g_runV (As := [.int (iI 0), .int (iI 9)]) (rest := []) (ci := 7) F hl.1 hH hS hz (c_X7_copiesf l g gh T I_29 R J AI_25 AJ AR mo 0 9 ⟨by decide, by decide⟩ ⟨by decide, by decide⟩ hv hm hT (by omega)) (cwV 2 F.2.2.2.2.1 (good_up gT_X7_copies) rfl rfl rfl hdX7_copies ⟨Nat.le_of_ble_eq_true rfl, Nat.le_of_ble_eq_true rfl⟩) hm (by decide) rfl rfl rfl (Nat.le_of_ble_eq_true rfl) dX7_commit_101 ⟨Nat.zero_le _, Nat.zero_le _⟩) hS (fun I_33 R_34 J_35 AI_36 AJ_37 AR_38 H locs hp_39 hH hS => ?_)
      dsimp only at hp_39
      obtain ⟨rfl, rfl, rfl, rfl, rfl, hv, hT, qc2⟩ := hp_39
      refine lv_aload_n F.1 F.2.1 dX7_commit_104 rfl (lv_at hl 1 rfl) ?_
      refine z_bipush F dX7_commit_105 (by decide) ?_
      refine z_iconst F dX7_commit_107 ?_
      refine g_callv (g_runV (As := [.int (iI 10), .int (iI 0)]) (rest := []) (ci := 7) F hl.1 hH hS hz (c_X7_copiesf l g gh T I_29 R J AI_36 AJ AR mo 10 0 ⟨by decide, by decide⟩ ⟨by decide, by decide⟩ hv hm hT (by omega)) (cwV 2 F.2.2.2.2.1 (good_up gT_X7_copies) rfl rfl rfl hdX7_copies ⟨Nat.le_of_ble_eq_true rfl, Nat.le_of_ble_eq_true rfl⟩) hm (by decide) rfl rfl rfl (Nat.le_of_ble_eq_true rfl) dX7_commit_108 ⟨Nat.zero_le _, Nat.zero_le _⟩) hS (fun I_40 R_41 J_42 AI_43 AJ_44 AR_45 H locs hp_46 hH hS => ?_)
      dsimp only at hp_46
      obtain ⟨rfl, rfl, rfl, rfl, rfl, hv, hT, qc3⟩ := hp_46
      have hcm := cm_all qdr.1 hbu (by omega) qc1 qc2 qc3
      have hnz := noZ_cp (noZ_cp (noZ_cp (noZ_bu qdr.2.1 hbu) qc1) qc2) qc3
      have hb0 : ∀ r : Nat, r < nr → bgOK (rfM gh AI_43 0) cl r := fun r hr => by have h9 := (hst r hr).2; unfold bgOK at h9 ⊢; rw [rs_rf (hcm.1 r (by omega))]; exact h9
      have hb9 : ∀ r : Nat, r < nr → bgOK (rfM gh AI_43 9) cl r := fun r hr => by have h9 := hbg r hr; unfold bgOK at h9 ⊢; rw [rs_rf (hcm.2.1 r (by omega))]; exact h9
      refine lv_aload_n F.1 F.2.1 dX7_commit_111 rfl (lv_at hl 1 rfl) ?_
      refine lv_dup F.1 F.2.1 dX7_commit_112 rfl ?_
      refine g_getI (ci := 7) (k := 9) F hH rfl (by decide) iX7 hm (by decide) rfl k260 dX7_commit_113 ?_
      refine z_iconst F dX7_commit_116 ?_
      refine z_iadd F dX7_commit_117 ?_
      refine z_norm (fun v_47 zv_47 ev_47 => ?_)
      refine g_putI (ci := 7) (k := 9) F hH hS rfl (by decide) iX7 hm (by decide) tyX7 tyX7_ok nmX7 rfl rfl rfl k260 dX7_commit_118 (fun H locs hH hS => ?_)
      obtain ⟨I_48, eI_48⟩ : ∃ qQ, qQ = gup2 I_29 mo 9 (iI (v_47)) := ⟨_, rfl⟩
      rw [← eI_48] at hH
      have kI_48 : ∀ b, b ≠ mo → I_48 b = I_29 b := fun b hb => by rw [eI_48]; exact funext fun j => gup2_a _ _ hb
      have hv : mInv g gh R I_48 AI_43 := by rw [eI_48]; exact mP9 hv hm
      have mf : mF mo I I_48 := mF_t mf (by rw [eI_48]; exact mF_p (by decide))
      have u_50_2 : (I_48 mo 2).toInt = (I mo 2).toInt := by rw [mf 2 (by decide) (by decide) (by decide) (by decide) (by decide) (by decide)]
      have u_50_5 : (I_48 mo 5).toInt = (I mo 5).toInt := by rw [mf 5 (by decide) (by decide) (by decide) (by decide) (by decide) (by decide)]
      have u_50_16 : (I_48 mo 16).toInt = (I mo 16).toInt := by rw [mf 16 (by decide) (by decide) (by decide) (by decide) (by decide) (by decide)]
      have u_50_24 : (I_48 mo 24).toInt = (I mo 24).toInt := by rw [mf 24 (by decide) (by decide) (by decide) (by decide) (by decide) (by decide)]
      have w_49_k14 : (I_48 mo 14).toInt = (I_29 mo 14).toInt := by rw [eI_48, gup2_k _ _ (by decide)]
      have i10 : I_48 mo 10 = I mo 10 := (show I_48 mo 10 = I_29 mo 10 by rw [eI_48, gup2_k _ _ (by decide)]).trans i10
      have i9 : I_48 mo 9 = I mo 9 + 1 := by rw [eI_48, gup2_e _ _ rfl, ev_47, ← iI_add, iI_self, i9]; rfl
      have j8 : (I_48 mo 8).toInt = (I_18 mo 8).toInt + 1 := by rw [eI_48, gup2_k _ _ (by decide)]; exact j8
      refine lv_aload_n F.1 F.2.1 dX7_commit_121 rfl (lv_at hl 1 rfl) ?_
      have b_51 := mJ hv hm
      unfold mNum1 at b_51
      refine g_calli (g_runV (As := []) (rest := []) (ci := 7) F hl.1 hH hS hz (c_X7_movedInViewsf l g gh T tbs nr cc cl I_48 R J AI_43 AJ AR mo hv hm hT (by omega) hpl hb0 hb9) (cwV 0 F.2.2.2.2.1 (good_up gT_X7_movedInViews) rfl rfl rfl hdX7_movedInViews ⟨Nat.le_of_ble_eq_true rfl, Nat.le_of_ble_eq_true rfl⟩) hm (by decide) rfl rfl rfl (Nat.le_of_ble_eq_true rfl) dX7_commit_122 ⟨Nat.zero_le _, Nat.zero_le _⟩) hS (fun v_58 I_52 R_53 J_54 AI_55 AJ_56 AR_57 H locs zv_58 hp_59 hH hS => ?_)
      dsimp only at hp_59
      obtain ⟨rfl, rfl, rfl, rfl, rfl, hv, hT, fMq, qsm⟩ := hp_59
      have y56 : AI_55 (gh 56 0) = AI_43 (gh 56 0) := fMq _ (show gh 56 0 ≠ gh 81 0 from mNe hv hm (p := (6, 126720)) (q := (31, 1200)) (by decide) (by decide) (by decide))
      have y57 : AI_55 (gh 57 0) = AI_43 (gh 57 0) := fMq _ (show gh 57 0 ≠ gh 81 0 from mNe hv hm (p := (7, 176)) (q := (31, 1200)) (by decide) (by decide) (by decide))
      have y79 : AI_55 (gh 79 0) = AI_43 (gh 79 0) := fMq _ (show gh 79 0 ≠ gh 81 0 from mNe hv hm (p := (29, 176)) (q := (31, 1200)) (by decide) (by decide) (by decide))
      have hcm2 := cmM_g hcm y56 y57 y79
      have hny := noY_z hnz fMq
      have hsm2 : v_58 = smL (fun r => ((bgN (mvF gh AI_55 r) : Nat) : Int)) tbs.toNat (nr - tbs.toNat) := by rw [qsm]; congr 1; funext r; unfold mvF; rw [rfM_g y56 y57, rfM_g y56 y57]
      exact g_iret F hr hlk hH hS hz zv_58 ⟨rfl, rfl, rfl, rfl, hv, hT, mf, by first | omega | rfl | (dsimp only; omega), Or.inr ⟨AI_8, qdr, by (try dsimp only); rw [j8]; exact hcm2, by (try dsimp only); exact i9, by (try dsimp only); exact i10, hny, hsm2⟩⟩ dX7_commit_125
    refine lv_aload_n F.1 F.2.1 dX7_commit_31 rfl (lv_at hl 1 rfl) ?_
    refine g_getI (ci := 7) (k := 8) F hH rfl (by decide) iX7 hm (by decide) rfl k257 dX7_commit_32 ?_
    have b_60 := mJ hv hm
    unfold mNum1 at b_60
    refine z_bipush F dX7_commit_35 (by decide) ?_
    refine z_icmp_ne (tgt := 76) F dX7_commit_37 (by decide) (zr_t _) ⟨by decide, by decide⟩ (fun c_61 => ?_) (fun c_61 => ?_)
    · exact cut_76_19 I_14 AI_8 H locs ls hv hT mf (by omega) (by omega) (Or.inl ⟨by omega, by omega, rfl⟩) i9 i10 hH hS (lv_sub hl [0, 1] rfl)
    · refine z_iconst F dX7_commit_40 ?_
      refine lv_istore_n (lv' := [(2, .int (iI 1)), (1, .int (iI v_11)), (0, .ref mo)]) F.1 F.2.1 dX7_commit_41 rfl hl (by decide) rfl (fun ls hl => ?_)
      have cut_42_62 : ∀ (NN : Nat) (k : Int) (AI_62 : gI) (H : Heap) (locs : List Loc) (ls : Array Slot), zr k → (mInv g gh R I_14 AI_62) → (AI_62 (gh 50 0) = T) → (1 ≤ k ∧ k ≤ 8) → (bkI gh AI_8 AI_62 k) → (8 - k) < ((NN : Nat) : Int) → gH g I_14 R J AI_62 AJ AR H → va_S (gA g) s.heap H locs → lv_has ls 3 [(2, .int (iI k)), (1, .int (iI v_11)), (0, .ref mo)] → W p l e rmX7_commitf s m ([.ref mo] : List Value).toArray below meth c H locs 0 0 (MQ below (gQi g (fun (z : Int) (w : gS) => R = w.2.1 ∧ J = w.2.2.1 ∧ AJ = w.2.2.2.2.1 ∧ AR = w.2.2.2.2.2 ∧ (mInv g gh R (w.1) (w.2.2.2.1)) ∧ ((w.2.2.2.1) (gh 50 0) = T) ∧ (mF mo I (w.1)) ∧ (((w.1) mo 14).toInt = 0) ∧ ((z < 0 ∧ drP gh AI tbs nr cc cl bf nb z (w.2.2.2.1) ∧ (w.1) mo 8 = I mo 8 ∧ (w.1) mo 9 = I mo 9 ∧ (w.1) mo 10 = I mo 10 + 1) ∨ (∃ A1 : gI, drP gh AI tbs nr cc cl bf nb 0 A1 ∧ cmM gh AI A1 (w.2.2.2.1) (I mo 8).toInt ((w.1) mo 8).toInt ∧ (w.1) mo 9 = I mo 9 + 1 ∧ (w.1) mo 10 = I mo 10 ∧ noY gh AI (w.2.2.2.1) ∧ z = smL (fun r => ((bgN (mvF gh (w.2.2.2.1) r) : Nat) : Int)) tbs.toNat (nr - tbs.toNat))))) ([.ref mo] : List Value).toArray s 0 0 (gA g)) (F0 m 42 ls []) := by
        intro NN42
        induction NN42 with
        | zero =>
          intro k AI_62 H locs ls zk hv hT hk hbi hm42 hH hS hl
          exact absurd hm42 (by omega)
        | succ NN42 ih42 =>
          intro k AI_62 H locs ls zk hv hT hk hbi hm42 hH hS hl
          refine lv_iload_n F.1 F.2.1 dX7_commit_42 rfl (lv_at hl 0 rfl) ?_
          refine z_bipush F dX7_commit_43 (by decide) ?_
          refine z_icmp_ge (tgt := 66) F dX7_commit_45 (by decide) zk ⟨by decide, by decide⟩ (fun c_64 => ?_) (fun c_64 => ?_)
          · refine lv_aload_n F.1 F.2.1 dX7_commit_66 rfl (lv_at hl 2 rfl) ?_
            refine lv_dup F.1 F.2.1 dX7_commit_67 rfl ?_
            refine g_getI (ci := 7) (k := 8) F hH rfl (by decide) iX7 hm (by decide) rfl k257 dX7_commit_68 ?_
            refine z_iconst F dX7_commit_71 ?_
            refine z_isub F dX7_commit_72 ?_
            refine g_putI (ci := 7) (k := 8) F hH hS rfl (by decide) iX7 hm (by decide) tyX7 tyX7_ok nmX7 rfl rfl rfl k257 dX7_commit_73 (fun H locs hH hS => ?_)
            obtain ⟨I_65, eI_65⟩ : ∃ qQ, qQ = gup2 I_14 mo 8 (iI (((I_14 mo 8).toInt) - 1)) := ⟨_, rfl⟩
            rw [← eI_65] at hH
            have kI_65 : ∀ b, b ≠ mo → I_65 b = I_14 b := fun b hb => by rw [eI_65]; exact funext fun j => gup2_a _ _ hb
            have w_66 : (I_65 mo 8).toInt = ((I_14 mo 8).toInt) - 1 := by rw [eI_65, gup2_s]; exact iI_val ⟨by omega, by omega⟩
            have hv : mInv g gh R I_65 AI_62 := by rw [eI_65]; exact mP8 hv hm (by omega) (by omega)
            have mf : mF mo I I_65 := mF_t mf (by rw [eI_65]; exact mF_p (by decide))
            have u_67_2 : (I_65 mo 2).toInt = (I mo 2).toInt := by rw [mf 2 (by decide) (by decide) (by decide) (by decide) (by decide) (by decide)]
            have u_67_5 : (I_65 mo 5).toInt = (I mo 5).toInt := by rw [mf 5 (by decide) (by decide) (by decide) (by decide) (by decide) (by decide)]
            have u_67_16 : (I_65 mo 16).toInt = (I mo 16).toInt := by rw [mf 16 (by decide) (by decide) (by decide) (by decide) (by decide) (by decide)]
            have u_67_24 : (I_65 mo 24).toInt = (I mo 24).toInt := by rw [mf 24 (by decide) (by decide) (by decide) (by decide) (by decide) (by decide)]
            have w_66_k14 : (I_65 mo 14).toInt = (I_14 mo 14).toInt := by rw [eI_65, gup2_k _ _ (by decide)]
            have i9 : I_65 mo 9 = I mo 9 := (show I_65 mo 9 = I_14 mo 9 by rw [eI_65, gup2_k _ _ (by decide)]).trans i9
            have i10 : I_65 mo 10 = I mo 10 := (show I_65 mo 10 = I_14 mo 10 by rw [eI_65, gup2_k _ _ (by decide)]).trans i10
            have hbu9 : bkU gh AI_8 AI_62 (I mo 8).toInt (I_65 mo 8).toInt := Or.inr ⟨by omega, by omega, by rw [show k = 8 by omega] at hbi; exact hbi⟩
            exact cut_76_19 I_65 AI_62 H locs ls hv hT mf (by omega) (by omega) hbu9 i9 i10 hH hS (lv_sub hl [1, 2] rfl)
          · refine lv_aload_n F.1 F.2.1 dX7_commit_48 rfl (lv_at hl 2 rfl) ?_
            refine z_iconst F dX7_commit_49 ?_
            refine lv_iload_n F.1 F.2.1 dX7_commit_50 rfl (lv_at hl 0 rfl) ?_
            refine z_iadd F dX7_commit_51 ?_
            refine z_iconst F dX7_commit_52 ?_
            refine lv_iload_n F.1 F.2.1 dX7_commit_53 rfl (lv_at hl 0 rfl) ?_
            refine z_iadd F dX7_commit_54 ?_
            refine z_iconst F dX7_commit_55 ?_
            refine z_isub F dX7_commit_56 ?_
            refine g_callv (g_runV (As := [.int (iI (1 + k)), .int (iI ((1 + k) - 1))]) (rest := []) (ci := 7) F hl.1 hH hS hz (c_X7_copiesf l g gh T I_14 R J AI_62 AJ AR mo (1 + k) ((1 + k) - 1) ⟨by omega, by omega⟩ ⟨by omega, by omega⟩ hv hm hT (by omega)) (cwV 2 F.2.2.2.2.1 (good_up gT_X7_copies) rfl rfl rfl hdX7_copies ⟨Nat.le_of_ble_eq_true rfl, Nat.le_of_ble_eq_true rfl⟩) hm (by decide) rfl rfl rfl (Nat.le_of_ble_eq_true rfl) dX7_commit_57 ⟨Nat.zero_le _, Nat.zero_le _⟩) hS (fun I_68 R_69 J_70 AI_71 AJ_72 AR_73 H locs hp_74 hH hS => ?_)
            dsimp only at hp_74
            obtain ⟨rfl, rfl, rfl, rfl, rfl, hv, hT, qcp⟩ := hp_74
            have hbi := bkI_s hbi (by omega) qcp (by omega) (by omega)
            refine z_iinc (lv' := [(2, .int (iI (k + 1))), (1, .int (iI v_11)), (0, .ref mo)]) F dX7_commit_60 hl (k := 0) rfl (by decide) rfl (fun ls hl => ?_)
            refine z_goto (tgt := 42) F dX7_commit_63 (by decide) ?_
            exact ih42 (k + 1) AI_71 H locs ls ⟨by omega, by omega⟩ hv hT (by omega) hbi (by omega) hH hS (lv_sub hl [0, 1, 2] rfl)
      exact cut_42_62 (((8 - 1) + 1 : Int).toNat) 1 AI_8 H locs ls ⟨by decide, by decide⟩ hv hT (by omega) bkI_1 (by omega) hH hS (lv_sub hl [0, 1, 2] rfl)
  · refine lv_aload_n F.1 F.2.1 dX7_commit_19 rfl (lv_at hl 1 rfl) ?_
    refine lv_dup F.1 F.2.1 dX7_commit_20 rfl ?_
    refine g_getI (ci := 7) (k := 10) F hH rfl (by decide) iX7 hm (by decide) rfl k263 dX7_commit_21 ?_
    refine z_iconst F dX7_commit_24 ?_
    refine z_iadd F dX7_commit_25 ?_
    refine z_norm (fun v_75 zv_75 ev_75 => ?_)
    refine g_putI (ci := 7) (k := 10) F hH hS rfl (by decide) iX7 hm (by decide) tyX7 tyX7_ok nmX7 rfl rfl rfl k263 dX7_commit_26 (fun H locs hH hS => ?_)
    obtain ⟨I_76, eI_76⟩ : ∃ qQ, qQ = gup2 I_14 mo 10 (iI (v_75)) := ⟨_, rfl⟩
    rw [← eI_76] at hH
    have kI_76 : ∀ b, b ≠ mo → I_76 b = I_14 b := fun b hb => by rw [eI_76]; exact funext fun j => gup2_a _ _ hb
    have hv : mInv g gh R I_76 AI_8 := by rw [eI_76]; exact mP10 hv hm
    have mf : mF mo I I_76 := mF_t mf (by rw [eI_76]; exact mF_p (by decide))
    have u_78_2 : (I_76 mo 2).toInt = (I mo 2).toInt := by rw [mf 2 (by decide) (by decide) (by decide) (by decide) (by decide) (by decide)]
    have u_78_5 : (I_76 mo 5).toInt = (I mo 5).toInt := by rw [mf 5 (by decide) (by decide) (by decide) (by decide) (by decide) (by decide)]
    have u_78_16 : (I_76 mo 16).toInt = (I mo 16).toInt := by rw [mf 16 (by decide) (by decide) (by decide) (by decide) (by decide) (by decide)]
    have u_78_24 : (I_76 mo 24).toInt = (I mo 24).toInt := by rw [mf 24 (by decide) (by decide) (by decide) (by decide) (by decide) (by decide)]
    have w_77_k14 : (I_76 mo 14).toInt = (I_14 mo 14).toInt := by rw [eI_76, gup2_k _ _ (by decide)]
    have i8 : I_76 mo 8 = I mo 8 := (show I_76 mo 8 = I_14 mo 8 by rw [eI_76, gup2_k _ _ (by decide)]).trans i8
    have i9 : I_76 mo 9 = I mo 9 := (show I_76 mo 9 = I_14 mo 9 by rw [eI_76, gup2_k _ _ (by decide)]).trans i9
    have i10 : I_76 mo 10 = I mo 10 + 1 := by rw [eI_76, gup2_e _ _ rfl, ev_75, ← iI_add, iI_self, i10]; rfl
    refine lv_iload_n F.1 F.2.1 dX7_commit_29 rfl (lv_at hl 0 rfl) ?_
    exact g_iret F hr hlk hH hS hz zv_11 ⟨rfl, rfl, rfl, rfl, hv, hT, mf, by first | omega | rfl | (dsimp only; omega), Or.inl ⟨by omega, qdr, by (try dsimp only); exact i8, by (try dsimp only); exact i9, by (try dsimp only); exact i10⟩⟩ dX7_commit_30

def rmX7_wouldf : Room := { frames := 7, cells := 0, slots := 0, locals := 182 }
set_option maxHeartbeats 4000000 in
set_option maxRecDepth 100000 in
/-- would -/
theorem c_X7_wouldf (l : Launch) (g : gG) (gh : gGh) (T : Nat → Int32) (tbs : Int) (nr nb : Nat) (cc : Nat → LC) (cl : Nat → Int) (bf : Nat → Int32) (I : gI) (R : gR) (J : gJ) (AI : gI) (AJ : gJ) (AR : gR) (mo : Nat) (rr : Int) (zrr : zr rr) (hv : mInv g gh R I AI) (hm : gO g mo 7) (hT : AI (gh 50 0) = T) (hmr : (I mo 2).toInt = (nr : Int)) (hpl : plM9 T tbs nr cc cl) (hnb : (I mo 14).toInt = (nb : Int)) (hbm : btM9 gh AI bf nb tbs cl) (hbg : ∀ r : Nat, r < nr → bgOK (rfM gh AI 0) cl r) (hps : ∀ r : Nat, (r : Int) < tbs → ∀ t, 0 ≤ (bS (rfM gh AI 0 r).2 (rfM gh AI 0 r).1 t).toInt) : gMet l g yX7_would tsX7_would rmX7_wouldf [.ref mo, .int (iI rr)] (I, R, J, AI, AJ, AR) (gQi g (fun (z : Int) (w : gS) => R = w.2.1 ∧ J = w.2.2.1 ∧ AJ = w.2.2.2.2.1 ∧ AR = w.2.2.2.2.2 ∧ (mInv g gh R (w.1) (w.2.2.2.1)) ∧ ((w.2.2.2.1) (gh 50 0) = T) ∧ (nF mo I (w.1)) ∧ (((rr < 0 ∨ (nr : Int) ≤ rr) ∧ z = -1 ∧ (w.2.2.2.1) = AI) ∨ (0 ≤ rr ∧ rr < (nr : Int) ∧ ∃ code : Int, drP gh AI tbs nr cc cl bf nb code (w.2.2.2.1) ∧ ((code = 0 ∧ z = (((rfM gh (w.2.2.2.1) 10 rr.toNat).1 : Nat) : Int)) ∨ (code ≠ 0 ∧ z = code)))) ∧ ((w.1) mo 8 = I mo 8 ∧ (w.1) mo 9 = I mo 9 ∧ (w.1) mo 10 = I mo 10))) := by
  refine gStart (cc := cX7_would) (maxL := 3) (ret := (some (.int))) (by decide) rfl (Nat.le_of_ble_eq_true rfl) ?_
  intro p e s m below meth c ls F hr hlk hH hz hS hl
  have hl : lv_has ls 3 [(0, .ref mo), (1, .int (iI rr))] := hl
  have hS : va_S (gA g) s.heap s.heap [] := hS
  obtain ⟨H, hHe⟩ : ∃ H : Heap, H = s.heap := ⟨_, rfl⟩
  obtain ⟨locs, hlo⟩ : ∃ k : List Loc, k = [] := ⟨_, rfl⟩
  have hH : gH g I R J AI AJ AR H := by rw [hHe]; exact hH
  have hS : va_S (gA g) s.heap H locs := by rw [hHe, hlo]; exact hS
  suffices hw : W p l e rmX7_wouldf s m ([.ref mo, .int (iI rr)] : List Value).toArray below meth c H locs 0 0 (MQ below (gQi g (fun (z : Int) (w : gS) => R = w.2.1 ∧ J = w.2.2.1 ∧ AJ = w.2.2.2.2.1 ∧ AR = w.2.2.2.2.2 ∧ (mInv g gh R (w.1) (w.2.2.2.1)) ∧ ((w.2.2.2.1) (gh 50 0) = T) ∧ (nF mo I (w.1)) ∧ (((rr < 0 ∨ (nr : Int) ≤ rr) ∧ z = -1 ∧ (w.2.2.2.1) = AI) ∨ (0 ≤ rr ∧ rr < (nr : Int) ∧ ∃ code : Int, drP gh AI tbs nr cc cl bf nb code (w.2.2.2.1) ∧ ((code = 0 ∧ z = (((rfM gh (w.2.2.2.1) 10 rr.toNat).1 : Nat) : Int)) ∨ (code ≠ 0 ∧ z = code)))) ∧ ((w.1) mo 8 = I mo 8 ∧ (w.1) mo 9 = I mo 9 ∧ (w.1) mo 10 = I mo 10))) ([.ref mo, .int (iI rr)] : List Value).toArray s 0 0 (gA g)) (F0 m 0 ls []) by
    rw [hHe, hlo] at hw; exact hw
  clear hHe hlo
  have nf : nF mo I I := nF_r
  have hp1 := hpl.1
  have hb0 := mJ hv hm
  unfold mNum1 at hb0
  have iX7 : ∀ w ∈ u_ws RX7 TX7 32, w ∈ tsX7_would := fun w h => List.mem_cons_of_mem _ (inTB7 w h)
  have k60 : Cond.fieldLink RX7 60 (TX7 17).1 (TX7 17).2.1 (TX7 17).2.2.1 ∈ tsX7_would := List.mem_cons_of_mem _ fl_60
  refine lv_aload_n F.1 F.2.1 dX7_would_0 rfl (lv_at hl 0 rfl) ?_
  refine z_iconst F dX7_would_1 ?_
  refine g_putI (ci := 7) (k := 17) F hH hS rfl (by decide) iX7 hm (by decide) tyX7 tyX7_ok nmX7 rfl rfl rfl k60 dX7_would_2 (fun H locs hH hS => ?_)
  obtain ⟨I_1, eI_1⟩ : ∃ qQ, qQ = gup2 I mo 17 (iI (0)) := ⟨_, rfl⟩
  rw [← eI_1] at hH
  have kI_1 : ∀ b, b ≠ mo → I_1 b = I b := fun b hb => by rw [eI_1]; exact funext fun j => gup2_a _ _ hb
  have w_2 : (I_1 mo 17).toInt = 0 := by rw [eI_1, gup2_s]; exact iI_val ⟨by decide, by decide⟩
  have hv : mInv g gh R I_1 AI := by rw [eI_1]; exact mP17 hv hm
  have nf : nF mo I I_1 := nF_t nf (by rw [eI_1]; exact nF_p (by decide))
  have u_3_2 : (I_1 mo 2).toInt = (I mo 2).toInt := by rw [nf 2 (by decide) (by decide) (by decide) (by decide) (by decide)]
  have u_3_5 : (I_1 mo 5).toInt = (I mo 5).toInt := by rw [nf 5 (by decide) (by decide) (by decide) (by decide) (by decide)]
  have u_3_14 : (I_1 mo 14).toInt = (I mo 14).toInt := by rw [nf 14 (by decide) (by decide) (by decide) (by decide) (by decide)]
  have u_3_16 : (I_1 mo 16).toInt = (I mo 16).toInt := by rw [nf 16 (by decide) (by decide) (by decide) (by decide) (by decide)]
  have u_3_24 : (I_1 mo 24).toInt = (I mo 24).toInt := by rw [nf 24 (by decide) (by decide) (by decide) (by decide) (by decide)]
  have i8 : I mo 8 = I mo 8 := rfl
  have i9 : I mo 9 = I mo 9 := rfl
  have i10 : I mo 10 = I mo 10 := rfl
  have i14 : I mo 14 = I mo 14 := rfl
  have i8 : I_1 mo 8 = I mo 8 := (show I_1 mo 8 = I mo 8 by rw [eI_1, gup2_k _ _ (by decide)]).trans i8
  have i9 : I_1 mo 9 = I mo 9 := (show I_1 mo 9 = I mo 9 by rw [eI_1, gup2_k _ _ (by decide)]).trans i9
  have i10 : I_1 mo 10 = I mo 10 := (show I_1 mo 10 = I mo 10 by rw [eI_1, gup2_k _ _ (by decide)]).trans i10
  have i14 : I_1 mo 14 = I mo 14 := (show I_1 mo 14 = I mo 14 by rw [eI_1, gup2_k _ _ (by decide)]).trans i14
  refine lv_aload_n F.1 F.2.1 dX7_would_5 rfl (lv_at hl 0 rfl) ?_
  refine lv_iload_n F.1 F.2.1 dX7_would_6 rfl (lv_at hl 1 rfl) ?_
  have b_4 := mJ hv hm
  unfold mNum1 at b_4
  refine g_calli (g_runV (As := [.int (iI rr)]) (rest := []) (ci := 7) F hl.1 hH hS hz (c_X7_isRelationf l g gh T I_1 R J AI AJ AR mo rr zrr hv hm hT) (cwV 1 F.2.2.2.2.1 (good_up gT_X7_isRelation) rfl rfl rfl hdX7_isRelation ⟨Nat.le_of_ble_eq_true rfl, Nat.le_of_ble_eq_true rfl⟩) hm (by decide) rfl rfl rfl (Nat.le_of_ble_eq_true rfl) dX7_would_7 ⟨Nat.zero_le _, Nat.zero_le _⟩) hS (fun v_11 I_5 R_6 J_7 AI_8 AJ_9 AR_10 H locs zv_11 hp_12 hH hS => ?_)
  dsimp only at hp_12
  obtain ⟨rfl, rfl, rfl, rfl, rfl, rfl, q_13, qis⟩ := hp_12
  have qis9 := qis
  refine z_if_ne (tgt := 15) F dX7_would_10 (by decide) zv_11 (fun c_14 => ?_) (fun c_14 => ?_)
  · refine lv_aload_n F.1 F.2.1 dX7_would_15 rfl (lv_at hl 0 rfl) ?_
    refine g_calli (g_runV (As := []) (rest := []) (ci := 7) F hl.1 hH hS hz (c_X7_draftsf l g gh T tbs nr nb cc cl bf I_1 R J AI AJ AR mo hv hm hT (by omega) hpl (by omega) hbm hbg hps) (cwV 0 F.2.2.2.2.1 (good_up gT_X7_drafts) rfl rfl rfl hdX7_drafts ⟨Nat.le_of_ble_eq_true rfl, Nat.le_of_ble_eq_true rfl⟩) hm (by decide) rfl rfl rfl (Nat.le_of_ble_eq_true rfl) dX7_would_16 ⟨Nat.zero_le _, Nat.zero_le _⟩) hS (fun v_21 I_15 R_16 J_17 AI_18 AJ_19 AR_20 H locs zv_21 hp_22 hH hS => ?_)
    dsimp only at hp_22
    obtain ⟨rfl, rfl, rfl, rfl, hv, hT, wfq, qdr⟩ := hp_22
    have nf := nF_t nf (nF_w wfq)
    have u_23_2 : (I_15 mo 2).toInt = (I mo 2).toInt := by rw [nf 2 (by decide) (by decide) (by decide) (by decide) (by decide)]
    have u_23_5 : (I_15 mo 5).toInt = (I mo 5).toInt := by rw [nf 5 (by decide) (by decide) (by decide) (by decide) (by decide)]
    have u_23_14 : (I_15 mo 14).toInt = (I mo 14).toInt := by rw [nf 14 (by decide) (by decide) (by decide) (by decide) (by decide)]
    have u_23_16 : (I_15 mo 16).toInt = (I mo 16).toInt := by rw [nf 16 (by decide) (by decide) (by decide) (by decide) (by decide)]
    have u_23_24 : (I_15 mo 24).toInt = (I mo 24).toInt := by rw [nf 24 (by decide) (by decide) (by decide) (by decide) (by decide)]
    have i8 : I_15 mo 8 = I mo 8 := (wfq 8 (by decide)).trans i8
    have i9 : I_15 mo 9 = I mo 9 := (wfq 9 (by decide)).trans i9
    have i10 : I_15 mo 10 = I mo 10 := (wfq 10 (by decide)).trans i10
    have i14 : I_15 mo 14 = I mo 14 := (wfq 14 (by decide)).trans i14
    refine lv_istore_n (lv' := [(2, .int (iI v_21)), (0, .ref mo), (1, .int (iI rr))]) F.1 F.2.1 dX7_would_19 rfl hl (by decide) rfl (fun ls hl => ?_)
    refine lv_iload_n F.1 F.2.1 dX7_would_20 rfl (lv_at hl 0 rfl) ?_
    refine z_if_ge (tgt := 28) F dX7_would_21 (by decide) zv_21 (fun c_24 => ?_) (fun c_24 => ?_)
    · refine lv_aload_n F.1 F.2.1 dX7_would_28 rfl (lv_at hl 1 rfl) ?_
      refine z_bipush F dX7_would_29 (by decide) ?_
      refine lv_iload_n F.1 F.2.1 dX7_would_31 rfl (lv_at hl 2 rfl) ?_
      have b_25 := mJ hv hm
      unfold mNum1 at b_25
      refine g_calli (g_runV (As := [.int (iI 10), .int (iI rr)]) (rest := []) (ci := 7) F hl.1 hH hS hz (c_X7_sizeOf l g gh T I_15 R J AI_18 AJ AR mo 10 rr ⟨by decide, by decide⟩ zrr hv hm hT (by omega) (by omega)) (cwV 2 F.2.2.2.2.1 (good_up gT_X7_sizeOf) rfl rfl rfl hdX7_sizeOf ⟨Nat.le_of_ble_eq_true rfl, Nat.le_of_ble_eq_true rfl⟩) hm (by decide) rfl rfl rfl (Nat.le_of_ble_eq_true rfl) dX7_would_32 ⟨Nat.zero_le _, Nat.zero_le _⟩) hS (fun v_32 I_26 R_27 J_28 AI_29 AJ_30 AR_31 H locs zv_32 hp_33 hH hS => ?_)
      dsimp only at hp_33
      obtain ⟨rfl, rfl, rfl, rfl, rfl, rfl, q_34, qsz⟩ := hp_33
      exact g_iret F hr hlk hH hS hz zv_32 ⟨rfl, rfl, rfl, rfl, hv, hT, nf, Or.inr ⟨by omega, by omega, _, qdr, Or.inl ⟨by have h9 := qdr.2.2.2.2; omega, by (try dsimp only); rw [rfM_1 (by omega), qsz]; unfold tI; have h8 := (mSz hv hm (z := 16 * 10 + rr) (by omega) (by omega)).1; omega⟩⟩, ⟨by (try dsimp only); exact i8, by (try dsimp only); exact i9, by (try dsimp only); exact i10⟩⟩ dX7_would_35
    · refine lv_iload_n F.1 F.2.1 dX7_would_24 rfl (lv_at hl 0 rfl) ?_
      refine z_goto (tgt := 35) F dX7_would_25 (by decide) ?_
      exact g_iret F hr hlk hH hS hz zv_21 ⟨rfl, rfl, rfl, rfl, hv, hT, nf, Or.inr ⟨by omega, by omega, _, qdr, Or.inr ⟨by omega, rfl⟩⟩, ⟨by (try dsimp only); exact i8, by (try dsimp only); exact i9, by (try dsimp only); exact i10⟩⟩ dX7_would_35
  · refine z_iconst F dX7_would_13 ?_
    exact g_iret F hr hlk hH hS hz ⟨by decide, by decide⟩ ⟨rfl, rfl, rfl, rfl, hv, hT, nf, Or.inl ⟨by have h9 := qis (by omega); omega, rfl, rfl⟩, ⟨by (try dsimp only); exact i8, by (try dsimp only); exact i9, by (try dsimp only); exact i10⟩⟩ dX7_would_14

def rmX7_undof : Room := { frames := 1, cells := 0, slots := 0, locals := 23 }
set_option maxHeartbeats 4000000 in
set_option maxRecDepth 100000 in
/-- undo -/
theorem c_X7_undof (l : Launch) (g : gG) (gh : gGh) (T : Nat → Int32) (I : gI) (R : gR) (J : gJ) (AI : gI) (AJ : gJ) (AR : gR) (mo : Nat) (hv : mInv g gh R I AI) (hm : gO g mo 7) (hT : AI (gh 50 0) = T) : gMet l g yX7_undo tsX7_undo rmX7_undof [.ref mo] (I, R, J, AI, AJ, AR) (gQi g (fun (z : Int) (w : gS) => R = w.2.1 ∧ J = w.2.2.1 ∧ AJ = w.2.2.2.2.1 ∧ AR = w.2.2.2.2.2 ∧ (mInv g gh R (w.1) (w.2.2.2.1)) ∧ ((w.2.2.2.1) (gh 50 0) = T) ∧ (nF mo I (w.1)) ∧ (((I mo 8).toInt = 0 ∧ z = -1 ∧ (w.2.2.2.1) = AI ∧ (w.1) mo 8 = I mo 8) ∨ (0 < (I mo 8).toInt ∧ z = (I mo 8).toInt - 1 ∧ ((w.1) mo 8).toInt = (I mo 8).toInt - 1 ∧ unM gh AI (w.2.2.2.1) ((I mo 8).toInt - 1))) ∧ ((w.1) mo 9 = I mo 9 ∧ (w.1) mo 10 = I mo 10))) := by
  refine gStart (cc := cX7_undo) (maxL := 1) (ret := (some (.int))) (by decide) rfl (Nat.le_of_ble_eq_true rfl) ?_
  intro p e s m below meth c ls F hr hlk hH hz hS hl
  have hl : lv_has ls 1 [(0, .ref mo)] := hl
  have hS : va_S (gA g) s.heap s.heap [] := hS
  obtain ⟨H, hHe⟩ : ∃ H : Heap, H = s.heap := ⟨_, rfl⟩
  obtain ⟨locs, hlo⟩ : ∃ k : List Loc, k = [] := ⟨_, rfl⟩
  have hH : gH g I R J AI AJ AR H := by rw [hHe]; exact hH
  have hS : va_S (gA g) s.heap H locs := by rw [hHe, hlo]; exact hS
  suffices hw : W p l e rmX7_undof s m ([.ref mo] : List Value).toArray below meth c H locs 0 0 (MQ below (gQi g (fun (z : Int) (w : gS) => R = w.2.1 ∧ J = w.2.2.1 ∧ AJ = w.2.2.2.2.1 ∧ AR = w.2.2.2.2.2 ∧ (mInv g gh R (w.1) (w.2.2.2.1)) ∧ ((w.2.2.2.1) (gh 50 0) = T) ∧ (nF mo I (w.1)) ∧ (((I mo 8).toInt = 0 ∧ z = -1 ∧ (w.2.2.2.1) = AI ∧ (w.1) mo 8 = I mo 8) ∨ (0 < (I mo 8).toInt ∧ z = (I mo 8).toInt - 1 ∧ ((w.1) mo 8).toInt = (I mo 8).toInt - 1 ∧ unM gh AI (w.2.2.2.1) ((I mo 8).toInt - 1))) ∧ ((w.1) mo 9 = I mo 9 ∧ (w.1) mo 10 = I mo 10))) ([.ref mo] : List Value).toArray s 0 0 (gA g)) (F0 m 0 ls []) by
    rw [hHe, hlo] at hw; exact hw
  clear hHe hlo
  have nf : nF mo I I := nF_r
  have hb0 := mJ hv hm
  unfold mNum1 at hb0
  have iX7 : ∀ w ∈ u_ws RX7 TX7 32, w ∈ tsX7_undo := fun w h => List.mem_cons_of_mem _ (inTB7 w h)
  have k60 : Cond.fieldLink RX7 60 (TX7 17).1 (TX7 17).2.1 (TX7 17).2.2.1 ∈ tsX7_undo := List.mem_cons_of_mem _ fl_60
  have k257 : Cond.fieldLink RX7 257 (TX7 8).1 (TX7 8).2.1 (TX7 8).2.2.1 ∈ tsX7_undo := List.mem_cons_of_mem _ fl_257
  refine lv_aload_n F.1 F.2.1 dX7_undo_0 rfl (lv_at hl 0 rfl) ?_
  refine z_iconst F dX7_undo_1 ?_
  refine g_putI (ci := 7) (k := 17) F hH hS rfl (by decide) iX7 hm (by decide) tyX7 tyX7_ok nmX7 rfl rfl rfl k60 dX7_undo_2 (fun H locs hH hS => ?_)
  obtain ⟨I_1, eI_1⟩ : ∃ qQ, qQ = gup2 I mo 17 (iI (0)) := ⟨_, rfl⟩
  rw [← eI_1] at hH
  have kI_1 : ∀ b, b ≠ mo → I_1 b = I b := fun b hb => by rw [eI_1]; exact funext fun j => gup2_a _ _ hb
  have w_2 : (I_1 mo 17).toInt = 0 := by rw [eI_1, gup2_s]; exact iI_val ⟨by decide, by decide⟩
  have hv : mInv g gh R I_1 AI := by rw [eI_1]; exact mP17 hv hm
  have nf : nF mo I I_1 := nF_t nf (by rw [eI_1]; exact nF_p (by decide))
  have u_3_2 : (I_1 mo 2).toInt = (I mo 2).toInt := by rw [nf 2 (by decide) (by decide) (by decide) (by decide) (by decide)]
  have u_3_5 : (I_1 mo 5).toInt = (I mo 5).toInt := by rw [nf 5 (by decide) (by decide) (by decide) (by decide) (by decide)]
  have u_3_14 : (I_1 mo 14).toInt = (I mo 14).toInt := by rw [nf 14 (by decide) (by decide) (by decide) (by decide) (by decide)]
  have u_3_16 : (I_1 mo 16).toInt = (I mo 16).toInt := by rw [nf 16 (by decide) (by decide) (by decide) (by decide) (by decide)]
  have u_3_24 : (I_1 mo 24).toInt = (I mo 24).toInt := by rw [nf 24 (by decide) (by decide) (by decide) (by decide) (by decide)]
  have i8 : I mo 8 = I mo 8 := rfl
  have i9 : I mo 9 = I mo 9 := rfl
  have i10 : I mo 10 = I mo 10 := rfl
  have i14 : I mo 14 = I mo 14 := rfl
  have i8 : I_1 mo 8 = I mo 8 := (show I_1 mo 8 = I mo 8 by rw [eI_1, gup2_k _ _ (by decide)]).trans i8
  have i9 : I_1 mo 9 = I mo 9 := (show I_1 mo 9 = I mo 9 by rw [eI_1, gup2_k _ _ (by decide)]).trans i9
  have i10 : I_1 mo 10 = I mo 10 := (show I_1 mo 10 = I mo 10 by rw [eI_1, gup2_k _ _ (by decide)]).trans i10
  have i14 : I_1 mo 14 = I mo 14 := (show I_1 mo 14 = I mo 14 by rw [eI_1, gup2_k _ _ (by decide)]).trans i14
  refine lv_aload_n F.1 F.2.1 dX7_undo_5 rfl (lv_at hl 0 rfl) ?_
  refine g_getI (ci := 7) (k := 8) F hH rfl (by decide) iX7 hm (by decide) rfl k257 dX7_undo_6 ?_
  have b_4 := mJ hv hm
  unfold mNum1 at b_4
  refine z_if_ne (tgt := 14) F dX7_undo_9 (by decide) (zr_t _) (fun c_5 => ?_) (fun c_5 => ?_)
  · refine lv_aload_n F.1 F.2.1 dX7_undo_14 rfl (lv_at hl 0 rfl) ?_
    refine lv_dup F.1 F.2.1 dX7_undo_15 rfl ?_
    refine g_getI (ci := 7) (k := 8) F hH rfl (by decide) iX7 hm (by decide) rfl k257 dX7_undo_16 ?_
    refine z_iconst F dX7_undo_19 ?_
    refine z_isub F dX7_undo_20 ?_
    refine g_putI (ci := 7) (k := 8) F hH hS rfl (by decide) iX7 hm (by decide) tyX7 tyX7_ok nmX7 rfl rfl rfl k257 dX7_undo_21 (fun H locs hH hS => ?_)
    obtain ⟨I_6, eI_6⟩ : ∃ qQ, qQ = gup2 I_1 mo 8 (iI (((I_1 mo 8).toInt) - 1)) := ⟨_, rfl⟩
    rw [← eI_6] at hH
    have kI_6 : ∀ b, b ≠ mo → I_6 b = I_1 b := fun b hb => by rw [eI_6]; exact funext fun j => gup2_a _ _ hb
    have w_7 : (I_6 mo 8).toInt = ((I_1 mo 8).toInt) - 1 := by rw [eI_6, gup2_s]; exact iI_val ⟨by omega, by omega⟩
    have hv : mInv g gh R I_6 AI := by rw [eI_6]; exact mP8 hv hm (by omega) (by omega)
    have nf : nF mo I I_6 := nF_t nf (by rw [eI_6]; exact nF_p (by decide))
    have u_8_2 : (I_6 mo 2).toInt = (I mo 2).toInt := by rw [nf 2 (by decide) (by decide) (by decide) (by decide) (by decide)]
    have u_8_5 : (I_6 mo 5).toInt = (I mo 5).toInt := by rw [nf 5 (by decide) (by decide) (by decide) (by decide) (by decide)]
    have u_8_14 : (I_6 mo 14).toInt = (I mo 14).toInt := by rw [nf 14 (by decide) (by decide) (by decide) (by decide) (by decide)]
    have u_8_16 : (I_6 mo 16).toInt = (I mo 16).toInt := by rw [nf 16 (by decide) (by decide) (by decide) (by decide) (by decide)]
    have u_8_24 : (I_6 mo 24).toInt = (I mo 24).toInt := by rw [nf 24 (by decide) (by decide) (by decide) (by decide) (by decide)]
    have i9 : I_6 mo 9 = I mo 9 := (show I_6 mo 9 = I_1 mo 9 by rw [eI_6, gup2_k _ _ (by decide)]).trans i9
    have i10 : I_6 mo 10 = I mo 10 := (show I_6 mo 10 = I_1 mo 10 by rw [eI_6, gup2_k _ _ (by decide)]).trans i10
    have i14 : I_6 mo 14 = I mo 14 := (show I_6 mo 14 = I_1 mo 14 by rw [eI_6, gup2_k _ _ (by decide)]).trans i14
    have j8 : (I_6 mo 8).toInt = (I mo 8).toInt - 1 := by have h9 := congrArg Int32.toInt i8; omega
    refine lv_aload_n F.1 F.2.1 dX7_undo_24 rfl (lv_at hl 0 rfl) ?_
    refine z_iconst F dX7_undo_25 ?_
    refine z_bipush F dX7_undo_26 (by decide) ?_
    have b_9 := mJ hv hm
    unfold mNum1 at b_9
    refine g_callv (g_runV (As := [.int (iI 0), .int (iI 9)]) (rest := []) (ci := 7) F hl.1 hH hS hz (c_X7_copiesf l g gh T I_6 R J AI AJ AR mo 0 9 ⟨by decide, by decide⟩ ⟨by decide, by decide⟩ hv hm hT (by omega)) (cwV 2 F.2.2.2.2.1 (good_up gT_X7_copies) rfl rfl rfl hdX7_copies ⟨Nat.le_of_ble_eq_true rfl, Nat.le_of_ble_eq_true rfl⟩) hm (by decide) rfl rfl rfl (Nat.le_of_ble_eq_true rfl) dX7_undo_28 ⟨Nat.zero_le _, Nat.zero_le _⟩) hS (fun I_10 R_11 J_12 AI_13 AJ_14 AR_15 H locs hp_16 hH hS => ?_)
    dsimp only at hp_16
    obtain ⟨rfl, rfl, rfl, rfl, rfl, hv, hT, qc1⟩ := hp_16
    refine lv_aload_n F.1 F.2.1 dX7_undo_31 rfl (lv_at hl 0 rfl) ?_
    refine z_iconst F dX7_undo_32 ?_
    refine lv_aload_n F.1 F.2.1 dX7_undo_33 rfl (lv_at hl 0 rfl) ?_
    refine g_getI (ci := 7) (k := 8) F hH rfl (by decide) iX7 hm (by decide) rfl k257 dX7_undo_34 ?_
    refine z_iadd F dX7_undo_37 ?_
    refine z_iconst F dX7_undo_38 ?_
    refine g_callv (g_runV (As := [.int (iI (1 + ((I_6 mo 8).toInt))), .int (iI 0)]) (rest := []) (ci := 7) F hl.1 hH hS hz (c_X7_copiesf l g gh T I_6 R J AI_13 AJ AR mo (1 + ((I_6 mo 8).toInt)) 0 ⟨by omega, by omega⟩ ⟨by decide, by decide⟩ hv hm hT (by omega)) (cwV 2 F.2.2.2.2.1 (good_up gT_X7_copies) rfl rfl rfl hdX7_copies ⟨Nat.le_of_ble_eq_true rfl, Nat.le_of_ble_eq_true rfl⟩) hm (by decide) rfl rfl rfl (Nat.le_of_ble_eq_true rfl) dX7_undo_39 ⟨Nat.zero_le _, Nat.zero_le _⟩) hS (fun I_17 R_18 J_19 AI_20 AJ_21 AR_22 H locs hp_23 hH hS => ?_)
    dsimp only at hp_23
    obtain ⟨rfl, rfl, rfl, rfl, rfl, hv, hT, qc2⟩ := hp_23
    refine lv_aload_n F.1 F.2.1 dX7_undo_42 rfl (lv_at hl 0 rfl) ?_
    refine g_getI (ci := 7) (k := 8) F hH rfl (by decide) iX7 hm (by decide) rfl k257 dX7_undo_43 ?_
    exact g_iret F hr hlk hH hS hz (zr_t _) ⟨rfl, rfl, rfl, rfl, hv, hT, nf, Or.inr ⟨by have h9 := congrArg Int32.toInt i8; omega, by (try dsimp only); omega, by (try dsimp only); exact j8, by rw [← j8]; exact un_m (by omega) qc1 qc2⟩, ⟨by (try dsimp only); exact i9, by (try dsimp only); exact i10⟩⟩ dX7_undo_46
  · refine z_iconst F dX7_undo_12 ?_
    exact g_iret F hr hlk hH hS hz ⟨by decide, by decide⟩ ⟨rfl, rfl, rfl, rfl, hv, hT, nf, Or.inl ⟨by have h9 := congrArg Int32.toInt i8; omega, rfl, rfl, by (try dsimp only); exact i8⟩, ⟨by (try dsimp only); exact i9, by (try dsimp only); exact i10⟩⟩ dX7_undo_13
end
section
/-! the reference: what is read -/
/-- a tuple as it is told, 0 beyond the columns -/
def kyT (cols a b c d : Int) : Tup := (iI a, iI (if 1 < cols then b else 0), iI (if 2 < cols then c else 0), iI (if 3 < cols then d else 0))
theorem kyT_of {cols a b c d k0 k1 k2 k3 : Int} {h : Nat → Int32} (e0 : h 0 = iI k0) (e1 : h 1 = iI k1) (e2 : h 2 = iI k2) (e3 : h 3 = iI k3) (f0 : k0 = a) (f1 : k1 = if 1 < cols then b else 0) (f2 : k2 = if 2 < cols then c else 0) (f3 : k3 = if 3 < cols then d else 0) : ∀ j, j < 4 → h j = tg (kyT cols a b c d) j := fun j hj => by
  subst f0; subst f1; subst f2; subst f3
  match j, hj with
  | 0, _ => exact e0
  | 1, _ => exact e1
  | 2, _ => exact e2
  | 3, _ => exact e3
/-- where a tuple is found -/
def fdM (f : Nat → Int32) (n : Nat) (t : Tup) (z : Int) : Prop := (0 ≤ z ∧ z < (n : Int) ∧ tup f z.toNat = t) ∨ (z = -1 ∧ ∀ q : Nat, q < n → tup f q ≠ t)
theorem fdM_r {f : Nat → Int32} {n : Nat} {t : Tup} {z : Int} (h : fdM f n t z) : z = -1 ∨ (0 ≤ z ∧ z < (n : Int)) := by
  rcases h with h | h
  · exact Or.inr ⟨h.1, h.2.1⟩
  · exact Or.inl h.1
theorem fdM_y {f : Nat → Int32} {n : Nat} {t : Tup} {z : Int} (h : fdM f n t z) (h0 : 0 ≤ z) : tup f z.toNat = t := by
  rcases h with h | h
  · exact h.2.2
  · have := h.1; omega
theorem fdM_n {f : Nat → Int32} {n : Nat} {t : Tup} {z : Int} (h : fdM f n t z) (h0 : z < 0) : ∀ q : Nat, q < n → tup f q ≠ t := by
  rcases h with h | h
  · have := h.1; omega
  · exact h.2
theorem fdM_c {f : Nat → Int32} {n : Nat} {t : Tup} {z : Int} (ok : okB f n) (h : fdM f n t z) (h0 : 0 ≤ z) : bS f n t = f (6 * z.toNat + 4) := by
  have r := fdM_r h
  rw [← fdM_y h h0]; exact bS_s ok.1 (by omega)
theorem fdM_0 {f : Nat → Int32} {n : Nat} {t : Tup} {z : Int} (h : fdM f n t z) (h0 : z < 0) : bS f n t = 0 := bS_n n (fun i hi => fdM_n h h0 i hi)
def smA (f : Nat → Int32) : Nat → Int32
  | 0 => 0
  | i + 1 => smA f i + f (6 * i + 4)
theorem smA_c {f f' : Nat → Int32} : ∀ n, rwA f f' n → smA f n = smA f' n
  | 0, _ => rfl
  | n + 1, h => by rw [smA, smA, smA_c n (fun i hi => h i (by omega)), h n (by omega) 4 (by omega)]
/-- told or not -/
def tdM (T : Nat → Int32) (nr : Nat) (rr wh : Int) : Prop := (0 ≤ rr ∧ rr < (nr : Int)) ∧ (wh = 4 ∨ (0 ≤ wh ∧ wh < tI T (40 * rr + 1)))
/-- the round of a tuple -/
def mkR (f : Nat → Int32) (n : Nat) (t : Tup) (z : Int) : Prop := (∃ i, i < n ∧ tup f i = t ∧ z = (f (6 * i + 5)).toInt) ∨ ((∀ q : Nat, q < n → tup f q ≠ t) ∧ z = -1)
end
