def rmX7_reckonsf : Room := { frames := 5, cells := 0, slots := 0, locals := 130 }
set_option maxHeartbeats 4000000 in
set_option maxRecDepth 100000 in
/-- a view reckoned -/
theorem c_X7_reckonsf (l : Launch) (g : gG) (gh : gGh) (T : Nat → Int32) (lc : LC) (cl : Nat → Int) (I : gI) (R : gR) (J : gJ) (AI : gI) (AJ : gJ) (AR : gR) (mo : Nat) (sd : Int) (rr : Int) (zsd : zr sd) (zrr : zr rr) (hv : mInv g gh R I AI) (hm : gO g mo 7) (hT : AI (gh 50 0) = T) (hs : 0 ≤ sd ∧ sd ≤ 10) (hr0 : 0 ≤ rr ∧ rr < (I mo 2).toInt) (hk0 : tI T (40 * rr) ≠ 0) (hlm : lnM T rr lc) (hcK : cOK lc rr.toNat cl) (hbg : ∀ q : Nat, q < rr.toNat → bgOK (rfM gh AI sd) cl q) : gMet l g yX7_reckons tsX7_reckons rmX7_reckonsf [.ref mo, .int (iI sd), .int (iI rr)] (I, R, J, AI, AJ, AR) (gQi g (fun (z : Int) (w : gS) => R = w.2.1 ∧ J = w.2.2.1 ∧ AJ = w.2.2.2.2.1 ∧ AR = w.2.2.2.2.2 ∧ (mInv g gh R (w.1) (w.2.2.2.1)) ∧ ((w.2.2.2.1) (gh 50 0) = T) ∧ (wF mo I (w.1)) ∧ (rkM gh sd rr AI (w.2.2.2.1)) ∧ (vwP lc (rfM gh AI sd) z (rfM gh (w.2.2.2.1) sd rr.toNat).2 (rfM gh (w.2.2.2.1) sd rr.toNat).1) ∧ (z = 0 ∨ z = -3 ∨ z = -4) ∧ (lc.1 0 = 8 → z = 0 → ∃ R9 : Nat, rgY lc (rfM gh AI sd (lc.1 2).toNat).2 (rfM gh AI sd (lc.1 2).toNat).1 (rfM gh AI sd (lc.1 3).toNat).2 (rfM gh AI sd (lc.1 3).toNat).1 R9 (rfM gh (w.2.2.2.1) sd rr.toNat).2 (rfM gh (w.2.2.2.1) sd rr.toNat).1 ∧ (w.2.2.2.1) (gh 79 0) (16 * sd + rr).toNat = iI (R9 : Int)))) := by
  refine gStart (cc := cX7_reckons) (maxL := 10) (ret := (some (.int))) (by decide) rfl (Nat.le_of_ble_eq_true rfl) ?_
  intro p e s m below meth c ls F hr hlk hH hz hS hl
  have hl : lv_has ls 10 [(0, .ref mo), (1, .int (iI sd)), (2, .int (iI rr))] := hl
  have hS : va_S (gA g) s.heap s.heap [] := hS
  obtain ⟨H, hHe⟩ : ∃ H : Heap, H = s.heap := ⟨_, rfl⟩
  obtain ⟨locs, hlo⟩ : ∃ k : List Loc, k = [] := ⟨_, rfl⟩
  have hH : gH g I R J AI AJ AR H := by rw [hHe]; exact hH
  have hS : va_S (gA g) s.heap H locs := by rw [hHe, hlo]; exact hS
  suffices hw : W p l e rmX7_reckonsf s m ([.ref mo, .int (iI sd), .int (iI rr)] : List Value).toArray below meth c H locs 0 0 (MQ below (gQi g (fun (z : Int) (w : gS) => R = w.2.1 ∧ J = w.2.2.1 ∧ AJ = w.2.2.2.2.1 ∧ AR = w.2.2.2.2.2 ∧ (mInv g gh R (w.1) (w.2.2.2.1)) ∧ ((w.2.2.2.1) (gh 50 0) = T) ∧ (wF mo I (w.1)) ∧ (rkM gh sd rr AI (w.2.2.2.1)) ∧ (vwP lc (rfM gh AI sd) z (rfM gh (w.2.2.2.1) sd rr.toNat).2 (rfM gh (w.2.2.2.1) sd rr.toNat).1) ∧ (z = 0 ∨ z = -3 ∨ z = -4) ∧ (lc.1 0 = 8 → z = 0 → ∃ R9 : Nat, rgY lc (rfM gh AI sd (lc.1 2).toNat).2 (rfM gh AI sd (lc.1 2).toNat).1 (rfM gh AI sd (lc.1 3).toNat).2 (rfM gh AI sd (lc.1 3).toNat).1 R9 (rfM gh (w.2.2.2.1) sd rr.toNat).2 (rfM gh (w.2.2.2.1) sd rr.toNat).1 ∧ (w.2.2.2.1) (gh 79 0) (16 * sd + rr).toNat = iI (R9 : Int)))) ([.ref mo, .int (iI sd), .int (iI rr)] : List Value).toArray s 0 0 (gA g)) (F0 m 0 ls []) by
    rw [hHe, hlo] at hw; exact hw
  clear hHe hlo
  have wf : wF mo I I := wF_r
  have hb0 := mJ hv hm
  unfold mNum1 at hb0
  have x := mRow hv hm hT (z := rr) (by omega) (by omega)
  have xa := x.1
  have xc := x.2.2.1
  have xb := x.2.1 (by omega)
  have hv0 := hv
  obtain ⟨⟨hl0, hl1, hl2, hl3⟩, hls, hlt, hlj, hlg, hlr⟩ := hlm
  obtain ⟨⟨cq1, cq2, cq3, cq4, cq5, cq6⟩, cqb, cqp, cqj, cqg, cqr⟩ := hcK
  have hba := hbg (lc.1 2).toNat (by omega)
  obtain ⟨na, bxa, hFa⟩ : ∃ n f, rfM gh AI sd (lc.1 2).toNat = (n, f) := ⟨_, _, rfl⟩
  unfold bgOK at hba
  rw [hFa] at hba
  obtain ⟨hA, hna1, hza⟩ := hba
  have hna1 : na ≤ 120 := hna1
  obtain ⟨hna, hXa⟩ := rfM_s (a := tI T (40 * rr + 2)) (n := na) (f := bxa) (by rw [hl2]; exact hFa) (by omega) (mSz1 hv hm (z := 16 * sd + tI T (40 * rr + 2)) (by omega) (by omega)).1
  have iX7 : ∀ w ∈ u_ws RX7 TX7 32, w ∈ tsX7_reckons := fun w h => List.mem_cons_of_mem _ (inTB7 w h)
  have k269 : Cond.fieldLink RX7 269 (TX7 26).1 (TX7 26).2.1 (TX7 26).2.2.1 ∈ tsX7_reckons := List.mem_cons_of_mem _ fl_269
  have k24 : Cond.fieldLink RX7 24 (TX7 6).1 (TX7 6).2.1 (TX7 6).2.2.1 ∈ tsX7_reckons := List.mem_cons_of_mem _ fl_24
  have k48 : Cond.fieldLink RX7 48 (TX7 28).1 (TX7 28).2.1 (TX7 28).2.2.1 ∈ tsX7_reckons := List.mem_cons_of_mem _ fl_48
  refine lv_aload_n F.1 F.2.1 dX7_reckons_0 rfl (lv_at hl 0 rfl) ?_
  refine z_iconst F dX7_reckons_1 ?_
  refine g_putI (ci := 7) (k := 26) F hH hS rfl (by decide) iX7 hm (by decide) tyX7 tyX7_ok nmX7 rfl rfl rfl k269 dX7_reckons_2 (fun H locs hH hS => ?_)
  obtain ⟨I_1, eI_1⟩ : ∃ qQ, qQ = gup2 I mo 26 (iI (0)) := ⟨_, rfl⟩
  rw [← eI_1] at hH
  have kI_1 : ∀ b, b ≠ mo → I_1 b = I b := fun b hb => by rw [eI_1]; exact funext fun j => gup2_a _ _ hb
  have w_2 : (I_1 mo 26).toInt = 0 := by rw [eI_1, gup2_s]; exact iI_val ⟨by decide, by decide⟩
  have hv : mInv g gh R I_1 AI := by rw [eI_1]; exact mP26 hv hm (by omega) (by omega)
  have wf : wF mo I I_1 := wF_t wf (by rw [eI_1]; exact wF_p)
  have u_3_2 : (I_1 mo 2).toInt = (I mo 2).toInt := by rw [wf 2 (by decide)]
  have u_3_5 : (I_1 mo 5).toInt = (I mo 5).toInt := by rw [wf 5 (by decide)]
  have u_3_14 : (I_1 mo 14).toInt = (I mo 14).toInt := by rw [wf 14 (by decide)]
  have u_3_16 : (I_1 mo 16).toInt = (I mo 16).toInt := by rw [wf 16 (by decide)]
  have u_3_24 : (I_1 mo 24).toInt = (I mo 24).toInt := by rw [wf 24 (by decide)]
  refine lv_aload_n F.1 F.2.1 dX7_reckons_5 rfl (lv_at hl 0 rfl) ?_
  refine lv_iload_n F.1 F.2.1 dX7_reckons_6 rfl (lv_at hl 2 rfl) ?_
  have b_4 := mJ hv hm
  unfold mNum1 at b_4
  refine g_calli (g_runV (As := [.int (iI rr)]) (rest := []) (ci := 7) F hl.1 hH hS hz (c_X7_firstOf l g gh T I_1 R J AI AJ AR mo rr zrr hv hm hT (by omega)) (cwV 1 F.2.2.2.2.1 (good_up gT_X7_firstOf) rfl rfl rfl hdX7_firstOf ⟨Nat.le_of_ble_eq_true rfl, Nat.le_of_ble_eq_true rfl⟩) hm (by decide) rfl rfl rfl (Nat.le_of_ble_eq_true rfl) dX7_reckons_7 ⟨Nat.zero_le _, Nat.zero_le _⟩) hS (fun v_11 I_5 R_6 J_7 AI_8 AJ_9 AR_10 H locs zv_11 hp_12 hH hS => ?_)
  dsimp only at hp_12
  obtain ⟨rfl, rfl, rfl, rfl, rfl, rfl, qa⟩ := hp_12
  have hna9 : tI (AI (gh 57 0)) (16 * sd + v_11) = (na : Int) := by rw [qa]; exact hna
  have hXa9 : ∀ q : Nat, q < 720 → AI (gh 56 0) ((11520 * sd + 720 * v_11).toNat + q) = bxa q := by rw [qa]; exact hXa
  refine lv_istore_n (lv' := [(3, .int (iI v_11)), (0, .ref mo), (1, .int (iI sd)), (2, .int (iI rr))]) F.1 F.2.1 dX7_reckons_10 rfl hl (by decide) rfl (fun ls hl => ?_)
  refine lv_aload_n F.1 F.2.1 dX7_reckons_11 rfl (lv_at hl 1 rfl) ?_
  refine lv_iload_n F.1 F.2.1 dX7_reckons_12 rfl (lv_at hl 3 rfl) ?_
  refine g_calli (g_runV (As := [.int (iI rr)]) (rest := []) (ci := 7) F hl.1 hH hS hz (c_X7_kindOf l g gh T I_1 R J AI AJ AR mo rr zrr hv hm hT (by omega)) (cwV 1 F.2.2.2.2.1 (good_up gT_X7_kindOf) rfl rfl rfl hdX7_kindOf ⟨Nat.le_of_ble_eq_true rfl, Nat.le_of_ble_eq_true rfl⟩) hm (by decide) rfl rfl rfl (Nat.le_of_ble_eq_true rfl) dX7_reckons_13 ⟨Nat.zero_le _, Nat.zero_le _⟩) hS (fun v_19 I_13 R_14 J_15 AI_16 AJ_17 AR_18 H locs zv_19 hp_20 hH hS => ?_)
  dsimp only at hp_20
  obtain ⟨rfl, rfl, rfl, rfl, rfl, rfl, qk0⟩ := hp_20
  have hkd : v_19 = lc.1 0 := by rw [qk0]; exact hl0
  refine lv_istore (lv' := [(4, .int (iI v_19)), (3, .int (iI v_11)), (0, .ref mo), (1, .int (iI sd)), (2, .int (iI rr))]) F.1 F.2.1 dX7_reckons_16 hl (by decide) rfl (fun ls hl => ?_)
  refine lv_iload F.1 F.2.1 dX7_reckons_18 (lv_at hl 0 rfl) ?_
  refine z_iconst F dX7_reckons_20 ?_
  refine z_icmp_ne (tgt := 49) F dX7_reckons_21 (by decide) zv_19 ⟨by decide, by decide⟩ (fun c_21 => ?_) (fun c_21 => ?_)
  · refine lv_iload F.1 F.2.1 dX7_reckons_49 (lv_at hl 0 rfl) ?_
    refine z_bipush F dX7_reckons_51 (by decide) ?_
    refine z_icmp_ne (tgt := 81) F dX7_reckons_53 (by decide) zv_19 ⟨by decide, by decide⟩ (fun c_22 => ?_) (fun c_22 => ?_)
    · refine lv_iload F.1 F.2.1 dX7_reckons_81 (lv_at hl 0 rfl) ?_
      refine z_bipush F dX7_reckons_83 (by decide) ?_
      refine z_icmp_ne (tgt := 101) F dX7_reckons_85 (by decide) zv_19 ⟨by decide, by decide⟩ (fun c_23 => ?_) (fun c_23 => ?_)
      · refine z_iconst F dX7_reckons_101 ?_
        refine lv_istore (lv' := [(5, .int (iI 0)), (4, .int (iI v_19)), (3, .int (iI v_11)), (0, .ref mo), (1, .int (iI sd)), (2, .int (iI rr))]) F.1 F.2.1 dX7_reckons_102 hl (by decide) rfl (fun ls hl => ?_)
        have cut_104_25 : ∀ (NN : Nat) (i : Int) (I_24 : gI) (AI_25 : gI) (H : Heap) (locs : List Loc) (ls : Array Slot), zr i → (mInv g gh R I_24 AI_25) → (AI_25 (gh 50 0) = T) → (wF mo I I_24) → (0 ≤ i ∧ i ≤ 120 ∧ (I_24 mo 26).toInt ≤ i) → (∀ b, b ≠ gh 75 0 → b ≠ gh 77 0 → b ≠ gh 78 0 → AI_25 b = AI b) → (gaR (AI_25 (gh 75 0)) (I_24 mo 26).toInt.toNat (sR (vK lc) (vA lc) bxa i.toNat s0T)) → (i ≤ (na : Int)) → (120 - i) < ((NN : Nat) : Int) → gH g I_24 R J AI_25 AJ AR H → va_S (gA g) s.heap H locs → lv_has ls 10 [(5, .int (iI i)), (4, .int (iI v_19)), (3, .int (iI v_11)), (0, .ref mo), (1, .int (iI sd)), (2, .int (iI rr))] → W p l e rmX7_reckonsf s m ([.ref mo, .int (iI sd), .int (iI rr)] : List Value).toArray below meth c H locs 0 0 (MQ below (gQi g (fun (z : Int) (w : gS) => R = w.2.1 ∧ J = w.2.2.1 ∧ AJ = w.2.2.2.2.1 ∧ AR = w.2.2.2.2.2 ∧ (mInv g gh R (w.1) (w.2.2.2.1)) ∧ ((w.2.2.2.1) (gh 50 0) = T) ∧ (wF mo I (w.1)) ∧ (rkM gh sd rr AI (w.2.2.2.1)) ∧ (vwP lc (rfM gh AI sd) z (rfM gh (w.2.2.2.1) sd rr.toNat).2 (rfM gh (w.2.2.2.1) sd rr.toNat).1) ∧ (z = 0 ∨ z = -3 ∨ z = -4) ∧ (lc.1 0 = 8 → z = 0 → ∃ R9 : Nat, rgY lc (rfM gh AI sd (lc.1 2).toNat).2 (rfM gh AI sd (lc.1 2).toNat).1 (rfM gh AI sd (lc.1 3).toNat).2 (rfM gh AI sd (lc.1 3).toNat).1 R9 (rfM gh (w.2.2.2.1) sd rr.toNat).2 (rfM gh (w.2.2.2.1) sd rr.toNat).1 ∧ (w.2.2.2.1) (gh 79 0) (16 * sd + rr).toNat = iI (R9 : Int)))) ([.ref mo, .int (iI sd), .int (iI rr)] : List Value).toArray s 0 0 (gA g)) (F0 m 104 ls []) := by
          intro NN104
          induction NN104 with
          | zero =>
            intro i I_24 AI_25 H locs ls zi hv hT wf hi fW hga hin hm104 hH hS hl
            exact absurd hm104 (by omega)
          | succ NN104 ih104 =>
            intro i I_24 AI_25 H locs ls zi hv hT wf hi fW hga hin hm104 hH hS hl
            have uc_2 : (I_24 mo 2).toInt = (I mo 2).toInt := by rw [wf 2 (by decide)]
            have uc_5 : (I_24 mo 5).toInt = (I mo 5).toInt := by rw [wf 5 (by decide)]
            have uc_14 : (I_24 mo 14).toInt = (I mo 14).toInt := by rw [wf 14 (by decide)]
            have uc_16 : (I_24 mo 16).toInt = (I mo 16).toInt := by rw [wf 16 (by decide)]
            have uc_24 : (I_24 mo 24).toInt = (I mo 24).toInt := by rw [wf 24 (by decide)]
            have h56 : AI_25 (gh 56 0) = AI (gh 56 0) := fW _ (show gh 56 0 ≠ gh 75 0 from mNe hv hm (p := (6, 126720)) (q := (25, 9600)) (by decide) (by decide) (by decide)) (show gh 56 0 ≠ gh 77 0 from mNe hv hm (p := (6, 126720)) (q := (27, 4)) (by decide) (by decide) (by decide)) (show gh 56 0 ≠ gh 78 0 from mNe hv hm (p := (6, 126720)) (q := (28, 8)) (by decide) (by decide) (by decide))
            have h57 : AI_25 (gh 57 0) = AI (gh 57 0) := fW _ (show gh 57 0 ≠ gh 75 0 from mNe hv hm (p := (7, 176)) (q := (25, 9600)) (by decide) (by decide) (by decide)) (show gh 57 0 ≠ gh 77 0 from mNe hv hm (p := (7, 176)) (q := (27, 4)) (by decide) (by decide) (by decide)) (show gh 57 0 ≠ gh 78 0 from mNe hv hm (p := (7, 176)) (q := (28, 8)) (by decide) (by decide) (by decide))
            refine lv_iload F.1 F.2.1 dX7_reckons_104 (lv_at hl 0 rfl) ?_
            refine lv_aload_n F.1 F.2.1 dX7_reckons_106 rfl (lv_at hl 3 rfl) ?_
            refine lv_iload_n F.1 F.2.1 dX7_reckons_107 rfl (lv_at hl 4 rfl) ?_
            refine lv_iload_n F.1 F.2.1 dX7_reckons_108 rfl (lv_at hl 2 rfl) ?_
            have b_27 := mJ hv hm
            unfold mNum1 at b_27
            refine g_calli (g_runV (As := [.int (iI sd), .int (iI v_11)]) (rest := [.int (iI i)]) (ci := 7) F hl.1 hH hS hz (c_X7_sizeOf l g gh T I_24 R J AI_25 AJ AR mo sd v_11 zsd zv_11 hv hm hT (by omega) (by omega)) (cwV 2 F.2.2.2.2.1 (good_up gT_X7_sizeOf) rfl rfl rfl hdX7_sizeOf ⟨Nat.le_of_ble_eq_true rfl, Nat.le_of_ble_eq_true rfl⟩) hm (by decide) rfl rfl rfl (Nat.le_of_ble_eq_true rfl) dX7_reckons_109 ⟨Nat.zero_le _, Nat.zero_le _⟩) hS (fun v_34 I_28 R_29 J_30 AI_31 AJ_32 AR_33 H locs zv_34 hp_35 hH hS => ?_)
            dsimp only at hp_35
            obtain ⟨rfl, rfl, rfl, rfl, rfl, rfl, q_36, qz109⟩ := hp_35
            have hsqz109 : v_34 = (na : Int) := by rw [qz109, h57]; exact hna9
            refine z_icmp_ge (tgt := 277) F dX7_reckons_112 (by decide) zi zv_34 (fun c_37 => ?_) (fun c_37 => ?_)
            · have hgb : gaR (AI_25 (gh 75 0)) (I_24 mo 26).toInt.toNat (sR (vK lc) (vA lc) bxa na s0T) := by rw [show i.toNat = na by omega] at hga; exact hga
              have cut_289_37 : ∀ (H : Heap) (locs : List Loc) (ls : Array Slot), (v_19 = 4 ∨ v_19 = 5) → gH g I_24 R J AI_25 AJ AR H → va_S (gA g) s.heap H locs → lv_has ls 10 [(5, .int (iI i)), (4, .int (iI v_19)), (3, .int (iI v_11)), (0, .ref mo), (1, .int (iI sd)), (2, .int (iI rr))] → W p l e rmX7_reckonsf s m ([.ref mo, .int (iI sd), .int (iI rr)] : List Value).toArray below meth c H locs 0 0 (MQ below (gQi g (fun (z : Int) (w : gS) => R = w.2.1 ∧ J = w.2.2.1 ∧ AJ = w.2.2.2.2.1 ∧ AR = w.2.2.2.2.2 ∧ (mInv g gh R (w.1) (w.2.2.2.1)) ∧ ((w.2.2.2.1) (gh 50 0) = T) ∧ (wF mo I (w.1)) ∧ (rkM gh sd rr AI (w.2.2.2.1)) ∧ (vwP lc (rfM gh AI sd) z (rfM gh (w.2.2.2.1) sd rr.toNat).2 (rfM gh (w.2.2.2.1) sd rr.toNat).1) ∧ (z = 0 ∨ z = -3 ∨ z = -4) ∧ (lc.1 0 = 8 → z = 0 → ∃ R9 : Nat, rgY lc (rfM gh AI sd (lc.1 2).toNat).2 (rfM gh AI sd (lc.1 2).toNat).1 (rfM gh AI sd (lc.1 3).toNat).2 (rfM gh AI sd (lc.1 3).toNat).1 R9 (rfM gh (w.2.2.2.1) sd rr.toNat).2 (rfM gh (w.2.2.2.1) sd rr.toNat).1 ∧ (w.2.2.2.1) (gh 79 0) (16 * sd + rr).toNat = iI (R9 : Int)))) ([.ref mo, .int (iI sd), .int (iI rr)] : List Value).toArray s 0 0 (gA g)) (F0 m 289 ls []) := by
                intro H locs ls h45 hH hS hl
                have x4 := x.2.2.2.2.2.2.2.1 (by omega)
                have hbb := hbg (lc.1 3).toNat (by have h9 := cqb (by omega); omega)
                obtain ⟨my, bxb, hFb⟩ : ∃ n f, rfM gh AI sd (lc.1 3).toNat = (n, f) := ⟨_, _, rfl⟩
                unfold bgOK at hbb
                rw [hFb] at hbb
                obtain ⟨hB, hmy1, hzb⟩ := hbb
                have hmy1 : my ≤ 120 := hmy1
                have cqb9 := cqb (by omega)
                obtain ⟨hnb, hXb⟩ := rfM_s (a := tI T (40 * rr + 3)) (n := my) (f := bxb) (by rw [hl3]; exact hFb) (by omega) (mSz1 hv0 hm (z := 16 * sd + tI T (40 * rr + 3)) (by omega) (by omega)).1
                refine lv_aload_n F.1 F.2.1 dX7_reckons_289 rfl (lv_at hl 3 rfl) ?_
                refine lv_iload_n F.1 F.2.1 dX7_reckons_290 rfl (lv_at hl 5 rfl) ?_
                refine g_calli (g_runV (As := [.int (iI rr)]) (rest := []) (ci := 7) F hl.1 hH hS hz (c_X7_secondOf l g gh T I_24 R J AI_25 AJ AR mo rr zrr hv hm hT (by omega)) (cwV 1 F.2.2.2.2.1 (good_up gT_X7_secondOf) rfl rfl rfl hdX7_secondOf ⟨Nat.le_of_ble_eq_true rfl, Nat.le_of_ble_eq_true rfl⟩) hm (by decide) rfl rfl rfl (Nat.le_of_ble_eq_true rfl) dX7_reckons_291 ⟨Nat.zero_le _, Nat.zero_le _⟩) hS (fun v_45 I_39 R_40 J_41 AI_42 AJ_43 AR_44 H locs zv_45 hp_46 hH hS => ?_)
                dsimp only at hp_46
                obtain ⟨rfl, rfl, rfl, rfl, rfl, rfl, qb⟩ := hp_46
                have hnb9 : tI (AI (gh 57 0)) (16 * sd + v_45) = (my : Int) := by rw [qb]; exact hnb
                have hXb9 : ∀ q : Nat, q < 720 → AI (gh 56 0) ((11520 * sd + 720 * v_45).toNat + q) = bxb q := by rw [qb]; exact hXb
                refine lv_istore (lv' := [(5, .int (iI v_45)), (4, .int (iI v_19)), (3, .int (iI v_11)), (0, .ref mo), (1, .int (iI sd)), (2, .int (iI rr))]) F.1 F.2.1 dX7_reckons_294 hl (by decide) rfl (fun ls hl => ?_)
                refine z_iconst F dX7_reckons_296 ?_
                refine lv_istore (lv' := [(6, .int (iI 0)), (5, .int (iI v_45)), (4, .int (iI v_19)), (3, .int (iI v_11)), (0, .ref mo), (1, .int (iI sd)), (2, .int (iI rr))]) F.1 F.2.1 dX7_reckons_297 hl (by decide) rfl (fun ls hl => ?_)
                have cut_299_48 : ∀ (NN : Nat) (i : Int) (I_47 : gI) (AI_48 : gI) (H : Heap) (locs : List Loc) (ls : Array Slot), zr i → (mInv g gh R I_47 AI_48) → (AI_48 (gh 50 0) = T) → (wF mo I I_47) → (0 ≤ i ∧ i ≤ 120 ∧ (I_47 mo 26).toInt ≤ 120 + i) → (∀ b, b ≠ gh 75 0 → b ≠ gh 77 0 → b ≠ gh 78 0 → AI_48 b = AI b) → (gaR (AI_48 (gh 75 0)) (I_47 mo 26).toInt.toNat (sR id (fun _ a9 => iI (sgU lc) * a9) bxb i.toNat (sR (vK lc) (vA lc) bxa na s0T))) → (i ≤ (my : Int)) → (120 - i) < ((NN : Nat) : Int) → gH g I_47 R J AI_48 AJ AR H → va_S (gA g) s.heap H locs → lv_has ls 10 [(6, .int (iI i)), (5, .int (iI v_45)), (4, .int (iI v_19)), (3, .int (iI v_11)), (0, .ref mo), (1, .int (iI sd)), (2, .int (iI rr))] → W p l e rmX7_reckonsf s m ([.ref mo, .int (iI sd), .int (iI rr)] : List Value).toArray below meth c H locs 0 0 (MQ below (gQi g (fun (z : Int) (w : gS) => R = w.2.1 ∧ J = w.2.2.1 ∧ AJ = w.2.2.2.2.1 ∧ AR = w.2.2.2.2.2 ∧ (mInv g gh R (w.1) (w.2.2.2.1)) ∧ ((w.2.2.2.1) (gh 50 0) = T) ∧ (wF mo I (w.1)) ∧ (rkM gh sd rr AI (w.2.2.2.1)) ∧ (vwP lc (rfM gh AI sd) z (rfM gh (w.2.2.2.1) sd rr.toNat).2 (rfM gh (w.2.2.2.1) sd rr.toNat).1) ∧ (z = 0 ∨ z = -3 ∨ z = -4) ∧ (lc.1 0 = 8 → z = 0 → ∃ R9 : Nat, rgY lc (rfM gh AI sd (lc.1 2).toNat).2 (rfM gh AI sd (lc.1 2).toNat).1 (rfM gh AI sd (lc.1 3).toNat).2 (rfM gh AI sd (lc.1 3).toNat).1 R9 (rfM gh (w.2.2.2.1) sd rr.toNat).2 (rfM gh (w.2.2.2.1) sd rr.toNat).1 ∧ (w.2.2.2.1) (gh 79 0) (16 * sd + rr).toNat = iI (R9 : Int)))) ([.ref mo, .int (iI sd), .int (iI rr)] : List Value).toArray s 0 0 (gA g)) (F0 m 299 ls []) := by
                  intro NN299
                  induction NN299 with
                  | zero =>
                    intro i I_47 AI_48 H locs ls zi hv hT wf hi3 fW hga hin hm299 hH hS hl
                    exact absurd hm299 (by omega)
                  | succ NN299 ih299 =>
                    intro i I_47 AI_48 H locs ls zi hv hT wf hi3 fW hga hin hm299 hH hS hl
                    have uc_2 : (I_47 mo 2).toInt = (I mo 2).toInt := by rw [wf 2 (by decide)]
                    have uc_5 : (I_47 mo 5).toInt = (I mo 5).toInt := by rw [wf 5 (by decide)]
                    have uc_14 : (I_47 mo 14).toInt = (I mo 14).toInt := by rw [wf 14 (by decide)]
                    have uc_16 : (I_47 mo 16).toInt = (I mo 16).toInt := by rw [wf 16 (by decide)]
                    have uc_24 : (I_47 mo 24).toInt = (I mo 24).toInt := by rw [wf 24 (by decide)]
                    have h56 : AI_48 (gh 56 0) = AI (gh 56 0) := fW _ (show gh 56 0 ≠ gh 75 0 from mNe hv hm (p := (6, 126720)) (q := (25, 9600)) (by decide) (by decide) (by decide)) (show gh 56 0 ≠ gh 77 0 from mNe hv hm (p := (6, 126720)) (q := (27, 4)) (by decide) (by decide) (by decide)) (show gh 56 0 ≠ gh 78 0 from mNe hv hm (p := (6, 126720)) (q := (28, 8)) (by decide) (by decide) (by decide))
                    have h57 : AI_48 (gh 57 0) = AI (gh 57 0) := fW _ (show gh 57 0 ≠ gh 75 0 from mNe hv hm (p := (7, 176)) (q := (25, 9600)) (by decide) (by decide) (by decide)) (show gh 57 0 ≠ gh 77 0 from mNe hv hm (p := (7, 176)) (q := (27, 4)) (by decide) (by decide) (by decide)) (show gh 57 0 ≠ gh 78 0 from mNe hv hm (p := (7, 176)) (q := (28, 8)) (by decide) (by decide) (by decide))
                    refine lv_iload F.1 F.2.1 dX7_reckons_299 (lv_at hl 0 rfl) ?_
                    refine lv_aload_n F.1 F.2.1 dX7_reckons_301 rfl (lv_at hl 4 rfl) ?_
                    refine lv_iload_n F.1 F.2.1 dX7_reckons_302 rfl (lv_at hl 5 rfl) ?_
                    refine lv_iload F.1 F.2.1 dX7_reckons_303 (lv_at hl 1 rfl) ?_
                    have b_50 := mJ hv hm
                    unfold mNum1 at b_50
                    refine g_calli (g_runV (As := [.int (iI sd), .int (iI v_45)]) (rest := [.int (iI i)]) (ci := 7) F hl.1 hH hS hz (c_X7_sizeOf l g gh T I_47 R J AI_48 AJ AR mo sd v_45 zsd zv_45 hv hm hT (by omega) (by omega)) (cwV 2 F.2.2.2.2.1 (good_up gT_X7_sizeOf) rfl rfl rfl hdX7_sizeOf ⟨Nat.le_of_ble_eq_true rfl, Nat.le_of_ble_eq_true rfl⟩) hm (by decide) rfl rfl rfl (Nat.le_of_ble_eq_true rfl) dX7_reckons_305 ⟨Nat.zero_le _, Nat.zero_le _⟩) hS (fun v_57 I_51 R_52 J_53 AI_54 AJ_55 AR_56 H locs zv_57 hp_58 hH hS => ?_)
                    dsimp only at hp_58
                    obtain ⟨rfl, rfl, rfl, rfl, rfl, rfl, q_59, qz305⟩ := hp_58
                    have hsqz305 : v_57 = (my : Int) := by rw [qz305, h57]; exact hnb9
                    refine z_icmp_ge (tgt := 385) F dX7_reckons_308 (by decide) zi zv_57 (fun c_60 => ?_) (fun c_60 => ?_)
                    · have hgb : gaR (AI_48 (gh 75 0)) (I_47 mo 26).toInt.toNat (sR id (fun _ a9 => iI (sgU lc) * a9) bxb my (sR (vK lc) (vA lc) bxa na s0T)) := by rw [show i.toNat = my by omega] at hga; exact hga
                      have hrk := rk_1 (sd := sd) (rr := rr) hv0 hm (fun b h1 h2 h3 _ _ => fW b h1 h2 h3) (fun j _ => by rw [fW _ (show gh 79 0 ≠ gh 75 0 from mNe hv hm (p := (29, 176)) (q := (25, 9600)) (by decide) (by decide) (by decide)) (show gh 79 0 ≠ gh 77 0 from mNe hv hm (p := (29, 176)) (q := (27, 4)) (by decide) (by decide) (by decide)) (show gh 79 0 ≠ gh 78 0 from mNe hv hm (p := (29, 176)) (q := (28, 8)) (by decide) (by decide) (by decide))])
                      refine lv_aload_n F.1 F.2.1 dX7_reckons_385 rfl (lv_at hl 4 rfl) ?_
                      refine lv_iload_n F.1 F.2.1 dX7_reckons_386 rfl (lv_at hl 5 rfl) ?_
                      refine lv_iload_n F.1 F.2.1 dX7_reckons_387 rfl (lv_at hl 6 rfl) ?_
                      refine g_calli (g_runV (As := [.int (iI sd), .int (iI rr)]) (rest := []) (ci := 7) F hl.1 hH hS hz (c_X7_laysf l g gh T I_47 R J AI_48 AJ AR mo sd rr zsd zrr hv hm hT (by omega) (by omega)) (cwV 2 F.2.2.2.2.1 (good_up gT_X7_lays) rfl rfl rfl hdX7_lays ⟨Nat.le_of_ble_eq_true rfl, Nat.le_of_ble_eq_true rfl⟩) hm (by decide) rfl rfl rfl (Nat.le_of_ble_eq_true rfl) dX7_reckons_388 ⟨Nat.zero_le _, Nat.zero_le _⟩) hS (fun v_67 I_61 R_62 J_63 AI_64 AJ_65 AR_66 H locs zv_67 hp_68 hH hS => ?_)
                      dsimp only at hp_68
                      obtain ⟨rfl, rfl, rfl, rfl, rfl, hv, hT, haq25, qlf, qly⟩ := hp_68
                      have hrk9 := rk_2 hv0 hm hrk qlf qly
                      have hsz9 := mSz1 hv hm (z := 16 * sd + rr) (by omega) (by omega)
                      have hvw := lay_v (c := lc) (F := rfM gh AI sd) (by omega) hsz9.2 (by omega) (vM_n (by omega)) (by omega) (by rw [← vS_45 (by omega) hFa hFb hA hB]; exact hgb) qly
                      have hz9 := lyP_z qly
                      exact g_iret F hr hlk hH hS hz zv_67 ⟨rfl, rfl, rfl, rfl, hv, hT, wf, hrk9, hvw, hz9, (fun h9 => absurd h9 (by omega))⟩ dX7_reckons_391
                    · refine lv_aload_n F.1 F.2.1 dX7_reckons_311 rfl (lv_at hl 4 rfl) ?_
                      refine lv_iload_n F.1 F.2.1 dX7_reckons_312 rfl (lv_at hl 5 rfl) ?_
                      refine lv_iload F.1 F.2.1 dX7_reckons_313 (lv_at hl 1 rfl) ?_
                      refine lv_iload F.1 F.2.1 dX7_reckons_315 (lv_at hl 0 rfl) ?_
                      refine g_calli (g_runS (As := [.int (iI sd), .int (iI v_45), .int (iI i)]) (rest := [.ref mo]) F hl.1 hH hS hz (c_X7_spot l g  I_47 R J AI_48 AJ AR sd v_45 i zsd zv_45 zi (by omega) (by omega) (by omega)) (va_cwS 3 F.2.2.2.2.1 (good_up gT_X7_spot) rfl rfl rfl hdX7_spot.2 ⟨Nat.le_of_ble_eq_true rfl, Nat.le_of_ble_eq_true rfl⟩) rfl rfl (Nat.le_of_ble_eq_true rfl) dX7_reckons_317 ⟨Nat.zero_le _, Nat.zero_le _⟩) hS (fun v_75 I_69 R_70 J_71 AI_72 AJ_73 AR_74 H locs zv_75 hp_76 hH hS => ?_)
                      dsimp only at hp_76
                      obtain ⟨rfl, rfl, rfl, rfl, rfl, rfl, q_77⟩ := hp_76
                      refine g_callv (g_runV (As := [.int (iI v_75)]) (rest := []) (ci := 7) F hl.1 hH hS hz (c_X7_takesf l g gh T I_47 R J AI_48 AJ AR mo v_75 zv_75 hv hm hT (by omega)) (cwV 1 F.2.2.2.2.1 (good_up gT_X7_takes) rfl rfl rfl hdX7_takes ⟨Nat.le_of_ble_eq_true rfl, Nat.le_of_ble_eq_true rfl⟩) hm (by decide) rfl rfl rfl (Nat.le_of_ble_eq_true rfl) dX7_reckons_320 ⟨Nat.zero_le _, Nat.zero_le _⟩) hS (fun I_78 R_79 J_80 AI_81 AJ_82 AR_83 H locs hp_84 hH hS => ?_)
                      dsimp only at hp_84
                      obtain ⟨rfl, rfl, rfl, rfl, rfl, hv, hT, fWq, taq⟩ := hp_84
                      have htk : ∀ j, j < 4 → AI_81 (gh 77 0) j = tg (tup bxb i.toNat) j := fun j hj => by rw [taq j hj, h56, tg_up j hj, ← hXb9 _ (by omega)]; congr 1; omega
                      have hga : gaR (AI_81 (gh 75 0)) (I_47 mo 26).toInt.toNat (sR id (fun _ a9 => iI (sgU lc) * a9) bxb i.toNat (sR (vK lc) (vA lc) bxa na s0T)) := by rw [fWq _ (show gh 75 0 ≠ gh 77 0 from mNe hv hm (p := (25, 9600)) (q := (27, 4)) (by decide) (by decide) (by decide))]; exact hga
                      have fW : ∀ b, b ≠ gh 75 0 → b ≠ gh 77 0 → b ≠ gh 78 0 → AI_81 b = AI b := fun b h1 h2 h3 => (fWq b h2).trans (fW b h1 h2 h3)
                      have h56 : AI_81 (gh 56 0) = AI (gh 56 0) := fW _ (show gh 56 0 ≠ gh 75 0 from mNe hv hm (p := (6, 126720)) (q := (25, 9600)) (by decide) (by decide) (by decide)) (show gh 56 0 ≠ gh 77 0 from mNe hv hm (p := (6, 126720)) (q := (27, 4)) (by decide) (by decide) (by decide)) (show gh 56 0 ≠ gh 78 0 from mNe hv hm (p := (6, 126720)) (q := (28, 8)) (by decide) (by decide) (by decide))
                      have h57 : AI_81 (gh 57 0) = AI (gh 57 0) := fW _ (show gh 57 0 ≠ gh 75 0 from mNe hv hm (p := (7, 176)) (q := (25, 9600)) (by decide) (by decide) (by decide)) (show gh 57 0 ≠ gh 77 0 from mNe hv hm (p := (7, 176)) (q := (27, 4)) (by decide) (by decide) (by decide)) (show gh 57 0 ≠ gh 78 0 from mNe hv hm (p := (7, 176)) (q := (28, 8)) (by decide) (by decide) (by decide))
                      obtain ⟨Pg, hPw, hPs⟩ := hga
                      refine lv_aload_n F.1 F.2.1 dX7_reckons_323 rfl (lv_at hl 4 rfl) ?_
                      obtain ⟨r_85a, r_85b⟩ : R mo 6 = some (gh 56 0) ∧ gAr g (gh 56 0) 9 126720 := mR hv hm (q := (6, 126720)) (by decide)
                      refine g_getR (ci := 7) (k := 6) F hH rfl (by decide) iX7 hm (by decide) rfl (b := gh 56 0) r_85a k24 dX7_reckons_324 ?_
                      refine lv_iload_n F.1 F.2.1 dX7_reckons_327 rfl (lv_at hl 5 rfl) ?_
                      refine lv_iload F.1 F.2.1 dX7_reckons_328 (lv_at hl 1 rfl) ?_
                      refine lv_iload F.1 F.2.1 dX7_reckons_330 (lv_at hl 0 rfl) ?_
                      refine g_calli (g_runS (As := [.int (iI sd), .int (iI v_45), .int (iI i)]) (rest := [.ref (gh 56 0)]) F hl.1 hH hS hz (c_X7_spot l g  I_47 R J AI_81 AJ AR sd v_45 i zsd zv_45 zi (by omega) (by omega) (by omega)) (va_cwS 3 F.2.2.2.2.1 (good_up gT_X7_spot) rfl rfl rfl hdX7_spot.2 ⟨Nat.le_of_ble_eq_true rfl, Nat.le_of_ble_eq_true rfl⟩) rfl rfl (Nat.le_of_ble_eq_true rfl) dX7_reckons_332 ⟨Nat.zero_le _, Nat.zero_le _⟩) hS (fun v_92 I_86 R_87 J_88 AI_89 AJ_90 AR_91 H locs zv_92 hp_93 hH hS => ?_)
                      dsimp only at hp_93
                      obtain ⟨rfl, rfl, rfl, rfl, rfl, rfl, q_94⟩ := hp_93
                      refine z_iconst F dX7_reckons_335 ?_
                      refine z_iadd F dX7_reckons_336 ?_
                      have hx337 : 0 ≤ (v_92 + 4) ∧ (v_92 + 4) < ((126720 : Nat) : Int) ∧ (v_92 + 4) ≤ 2147483647 := ⟨by omega, by omega, by omega⟩
                      refine g_iald F hH r_85b hx337.1 hx337.2.1 hx337.2.2 dX7_reckons_337 ?_
                      refine z_name (fun v_95 ev_95 => ?_)
                      have zv_95 : zr v_95 := by rw [ev_95]; exact zr_t _
                      have c337 : iI v_95 = bxb (6 * i.toNat + 4) := by rw [ev_95, iI_self, h56, ← hXb9 _ (by omega)]; congr 1; omega
                      refine lv_istore (lv' := [(7, .int (iI v_95)), (6, .int (iI i)), (5, .int (iI v_45)), (4, .int (iI v_19)), (3, .int (iI v_11)), (0, .ref mo), (1, .int (iI sd)), (2, .int (iI rr))]) F.1 F.2.1 dX7_reckons_338 hl (by decide) rfl (fun ls hl => ?_)
                      refine lv_aload_n F.1 F.2.1 dX7_reckons_340 rfl (lv_at hl 5 rfl) ?_
                      refine lv_iload F.1 F.2.1 dX7_reckons_341 (lv_at hl 3 rfl) ?_
                      refine z_iconst F dX7_reckons_343 ?_
                      refine z_icmp_ne (tgt := 352) F dX7_reckons_344 (by decide) zv_19 ⟨by decide, by decide⟩ (fun c_96 => ?_) (fun c_96 => ?_)
                      · refine lv_iload F.1 F.2.1 dX7_reckons_352 (lv_at hl 0 rfl) ?_
                        refine z_ineg F dX7_reckons_354 ?_
                        refine z_norm (fun v_97 zv_97 ev_97 => ?_)
                        refine z_iconst F dX7_reckons_355 ?_
                        refine g_calli (g_runV (As := [.int (iI v_97), .int (iI 0)]) (rest := []) (ci := 7) F hl.1 hH hS hz (c_X7_gathersf l g gh T ((I_47 mo 26).toInt.toNat) Pg (sR id (fun _ a9 => iI (sgU lc) * a9) bxb i.toNat (sR (vK lc) (vA lc) bxa na s0T)) zM (tup bxb i.toNat) I_47 R J AI_81 AJ AR mo v_97 0 zv_97 ⟨by decide, by decide⟩ hv hm hT (by omega) hPw (by omega) htk) (cwV 2 F.2.2.2.2.1 (good_up gT_X7_gathers) rfl rfl rfl hdX7_gathers ⟨Nat.le_of_ble_eq_true rfl, Nat.le_of_ble_eq_true rfl⟩) hm (by decide) rfl rfl rfl (Nat.le_of_ble_eq_true rfl) dX7_reckons_356 ⟨Nat.zero_le _, Nat.zero_le _⟩) hS (fun v_104 I_98 R_99 J_100 AI_101 AJ_102 AR_103 H locs zv_104 hp_105 hH hS => ?_)
                        dsimp only at hp_105
                        obtain ⟨rfl, rfl, rfl, rfl, hv, hT, wfq, q_106, qga, fWq⟩ := hp_105
                        have wf := wF_t wf wfq
                        have u_107_2 : (I_98 mo 2).toInt = (I mo 2).toInt := by rw [wf 2 (by decide)]
                        have u_107_5 : (I_98 mo 5).toInt = (I mo 5).toInt := by rw [wf 5 (by decide)]
                        have u_107_14 : (I_98 mo 14).toInt = (I mo 14).toInt := by rw [wf 14 (by decide)]
                        have u_107_16 : (I_98 mo 16).toInt = (I mo 16).toInt := by rw [wf 16 (by decide)]
                        have u_107_24 : (I_98 mo 24).toInt = (I mo 24).toInt := by rw [wf 24 (by decide)]
                        have hga := gaR_s hPs qga
                        clear qga
                        have hcv : iI v_97 = iI (sgU lc) * bxb (6 * i.toNat + 4) := by rw [ev_97, ← c337, iI_mul, show sgU lc = -1 from if_neg (by omega)]; congr 1; omega
                        rw [hcv] at hga
                        have hga9 : gaR (AI_101 (gh 75 0)) (I_98 mo 26).toInt.toNat (sR id (fun _ a9 => iI (sgU lc) * a9) bxb (i + 1).toNat (sR (vK lc) (vA lc) bxa na s0T)) := by rw [show (i + 1).toNat = i.toNat + 1 by omega, sR]; exact hga
                        have fW : ∀ b, b ≠ gh 75 0 → b ≠ gh 77 0 → b ≠ gh 78 0 → AI_101 b = AI b := fun b h1 h2 h3 => (fWq b h1).trans (fW b h1 h2 h3)
                        refine lv_istore (lv' := [(8, .int (iI v_104)), (7, .int (iI v_95)), (6, .int (iI i)), (5, .int (iI v_45)), (4, .int (iI v_19)), (3, .int (iI v_11)), (0, .ref mo), (1, .int (iI sd)), (2, .int (iI rr))]) F.1 F.2.1 dX7_reckons_359 hl (by decide) rfl (fun ls hl => ?_)
                        refine lv_iload F.1 F.2.1 dX7_reckons_361 (lv_at hl 0 rfl) ?_
                        refine z_if_eq (tgt := 379) F dX7_reckons_363 (by decide) zv_104 (fun c_108 => ?_) (fun c_108 => ?_)
                        · refine z_iinc (lv' := [(6, .int (iI (i + 1))), (8, .int (iI v_104)), (7, .int (iI v_95)), (5, .int (iI v_45)), (4, .int (iI v_19)), (3, .int (iI v_11)), (0, .ref mo), (1, .int (iI sd)), (2, .int (iI rr))]) F dX7_reckons_379 hl (k := 2) rfl (by decide) rfl (fun ls hl => ?_)
                          refine z_goto (tgt := 299) F dX7_reckons_382 (by decide) ?_
                          exact ih299 (i + 1) I_98 AI_101 H locs ls ⟨by omega, by omega⟩ hv hT wf (by omega) fW hga9 (by omega) (by omega) hH hS (lv_sub hl [0, 3, 4, 5, 6, 7, 8] rfl)
                        · refine lv_aload_n F.1 F.2.1 dX7_reckons_366 rfl (lv_at hl 6 rfl) ?_
                          refine g_getI (ci := 7) (k := 26) F hH rfl (by decide) iX7 hm (by decide) rfl k269 dX7_reckons_367 ?_
                          have b_109 := mJ hv hm
                          unfold mNum1 at b_109
                          refine z_sipush F dX7_reckons_370 (by decide) ?_
                          refine z_icmp_le (tgt := 379) F dX7_reckons_373 (by decide) (zr_t _) ⟨by decide, by decide⟩ (fun c_110 => ?_) (fun c_110 => ?_)
                          · refine z_iinc (lv' := [(6, .int (iI (i + 1))), (8, .int (iI v_104)), (7, .int (iI v_95)), (5, .int (iI v_45)), (4, .int (iI v_19)), (3, .int (iI v_11)), (0, .ref mo), (1, .int (iI sd)), (2, .int (iI rr))]) F dX7_reckons_379 hl (k := 2) rfl (by decide) rfl (fun ls hl => ?_)
                            refine z_goto (tgt := 299) F dX7_reckons_382 (by decide) ?_
                            exact ih299 (i + 1) I_98 AI_101 H locs ls ⟨by omega, by omega⟩ hv hT wf (by omega) fW hga9 (by omega) (by omega) hH hS (lv_sub hl [0, 3, 4, 5, 6, 7, 8] rfl)
                          · refine z_bipush F dX7_reckons_376 (by decide) ?_
                            exact g_iret F hr hlk hH hS hz ⟨by decide, by decide⟩ ⟨rfl, rfl, rfl, rfl, hv, hT, wf, absurd trivial (by omega), absurd trivial (by omega), absurd trivial (by omega), (fun h9 => absurd h9 (by omega))⟩ dX7_reckons_378
                      · refine lv_iload F.1 F.2.1 dX7_reckons_347 (lv_at hl 0 rfl) ?_
                        refine z_goto (tgt := 355) F dX7_reckons_349 (by decide) ?_
                        refine z_iconst F dX7_reckons_355 ?_
                        refine g_calli (g_runV (As := [.int (iI v_95), .int (iI 0)]) (rest := []) (ci := 7) F hl.1 hH hS hz (c_X7_gathersf l g gh T ((I_47 mo 26).toInt.toNat) Pg (sR id (fun _ a9 => iI (sgU lc) * a9) bxb i.toNat (sR (vK lc) (vA lc) bxa na s0T)) zM (tup bxb i.toNat) I_47 R J AI_81 AJ AR mo v_95 0 zv_95 ⟨by decide, by decide⟩ hv hm hT (by omega) hPw (by omega) htk) (cwV 2 F.2.2.2.2.1 (good_up gT_X7_gathers) rfl rfl rfl hdX7_gathers ⟨Nat.le_of_ble_eq_true rfl, Nat.le_of_ble_eq_true rfl⟩) hm (by decide) rfl rfl rfl (Nat.le_of_ble_eq_true rfl) dX7_reckons_356 ⟨Nat.zero_le _, Nat.zero_le _⟩) hS (fun v_117 I_111 R_112 J_113 AI_114 AJ_115 AR_116 H locs zv_117 hp_118 hH hS => ?_)
                        dsimp only at hp_118
                        obtain ⟨rfl, rfl, rfl, rfl, hv, hT, wfq, q_119, qga, fWq⟩ := hp_118
                        have wf := wF_t wf wfq
                        have u_120_2 : (I_111 mo 2).toInt = (I mo 2).toInt := by rw [wf 2 (by decide)]
                        have u_120_5 : (I_111 mo 5).toInt = (I mo 5).toInt := by rw [wf 5 (by decide)]
                        have u_120_14 : (I_111 mo 14).toInt = (I mo 14).toInt := by rw [wf 14 (by decide)]
                        have u_120_16 : (I_111 mo 16).toInt = (I mo 16).toInt := by rw [wf 16 (by decide)]
                        have u_120_24 : (I_111 mo 24).toInt = (I mo 24).toInt := by rw [wf 24 (by decide)]
                        have hga := gaR_s hPs qga
                        clear qga
                        have hcv : iI v_95 = iI (sgU lc) * bxb (6 * i.toNat + 4) := by rw [← c337, iI_mul, show sgU lc = 1 from if_pos (by omega)]; congr 1; omega
                        rw [hcv] at hga
                        have hga9 : gaR (AI_114 (gh 75 0)) (I_111 mo 26).toInt.toNat (sR id (fun _ a9 => iI (sgU lc) * a9) bxb (i + 1).toNat (sR (vK lc) (vA lc) bxa na s0T)) := by rw [show (i + 1).toNat = i.toNat + 1 by omega, sR]; exact hga
                        have fW : ∀ b, b ≠ gh 75 0 → b ≠ gh 77 0 → b ≠ gh 78 0 → AI_114 b = AI b := fun b h1 h2 h3 => (fWq b h1).trans (fW b h1 h2 h3)
                        refine lv_istore (lv' := [(8, .int (iI v_117)), (7, .int (iI v_95)), (6, .int (iI i)), (5, .int (iI v_45)), (4, .int (iI v_19)), (3, .int (iI v_11)), (0, .ref mo), (1, .int (iI sd)), (2, .int (iI rr))]) F.1 F.2.1 dX7_reckons_359 hl (by decide) rfl (fun ls hl => ?_)
                        refine lv_iload F.1 F.2.1 dX7_reckons_361 (lv_at hl 0 rfl) ?_
                        refine z_if_eq (tgt := 379) F dX7_reckons_363 (by decide) zv_117 (fun c_121 => ?_) (fun c_121 => ?_)
                        · refine z_iinc (lv' := [(6, .int (iI (i + 1))), (8, .int (iI v_117)), (7, .int (iI v_95)), (5, .int (iI v_45)), (4, .int (iI v_19)), (3, .int (iI v_11)), (0, .ref mo), (1, .int (iI sd)), (2, .int (iI rr))]) F dX7_reckons_379 hl (k := 2) rfl (by decide) rfl (fun ls hl => ?_)
                          refine z_goto (tgt := 299) F dX7_reckons_382 (by decide) ?_
                          exact ih299 (i + 1) I_111 AI_114 H locs ls ⟨by omega, by omega⟩ hv hT wf (by omega) fW hga9 (by omega) (by omega) hH hS (lv_sub hl [0, 3, 4, 5, 6, 7, 8] rfl)
                        · refine lv_aload_n F.1 F.2.1 dX7_reckons_366 rfl (lv_at hl 6 rfl) ?_
                          refine g_getI (ci := 7) (k := 26) F hH rfl (by decide) iX7 hm (by decide) rfl k269 dX7_reckons_367 ?_
                          have b_122 := mJ hv hm
                          unfold mNum1 at b_122
                          refine z_sipush F dX7_reckons_370 (by decide) ?_
                          refine z_icmp_le (tgt := 379) F dX7_reckons_373 (by decide) (zr_t _) ⟨by decide, by decide⟩ (fun c_123 => ?_) (fun c_123 => ?_)
                          · refine z_iinc (lv' := [(6, .int (iI (i + 1))), (8, .int (iI v_117)), (7, .int (iI v_95)), (5, .int (iI v_45)), (4, .int (iI v_19)), (3, .int (iI v_11)), (0, .ref mo), (1, .int (iI sd)), (2, .int (iI rr))]) F dX7_reckons_379 hl (k := 2) rfl (by decide) rfl (fun ls hl => ?_)
                            refine z_goto (tgt := 299) F dX7_reckons_382 (by decide) ?_
                            exact ih299 (i + 1) I_111 AI_114 H locs ls ⟨by omega, by omega⟩ hv hT wf (by omega) fW hga9 (by omega) (by omega) hH hS (lv_sub hl [0, 3, 4, 5, 6, 7, 8] rfl)
                          · refine z_bipush F dX7_reckons_376 (by decide) ?_
                            exact g_iret F hr hlk hH hS hz ⟨by decide, by decide⟩ ⟨rfl, rfl, rfl, rfl, hv, hT, wf, absurd trivial (by omega), absurd trivial (by omega), absurd trivial (by omega), (fun h9 => absurd h9 (by omega))⟩ dX7_reckons_378
                exact cut_299_48 (((120 - 0) + 1 : Int).toNat) 0 I_24 AI_25 H locs ls ⟨by decide, by decide⟩ hv hT wf (by omega) fW hgb (by omega) (by omega) hH hS (lv_sub hl [0, 1, 2, 3, 4, 5, 6] rfl)
              refine lv_iload F.1 F.2.1 dX7_reckons_277 (lv_at hl 1 rfl) ?_
              refine z_iconst F dX7_reckons_279 ?_
              refine z_icmp_eq (tgt := 289) F dX7_reckons_280 (by decide) zv_19 ⟨by decide, by decide⟩ (fun c_124 => ?_) (fun c_124 => ?_)
              · exact cut_289_37 H locs ls (by omega) hH hS (lv_sub hl [0, 1, 2, 3, 4, 5] rfl)
              · refine lv_iload F.1 F.2.1 dX7_reckons_283 (lv_at hl 1 rfl) ?_
                refine z_iconst F dX7_reckons_285 ?_
                refine z_icmp_ne (tgt := 385) F dX7_reckons_286 (by decide) zv_19 ⟨by decide, by decide⟩ (fun c_125 => ?_) (fun c_125 => ?_)
                · have hrk := rk_1 (sd := sd) (rr := rr) hv0 hm (fun b h1 h2 h3 _ _ => fW b h1 h2 h3) (fun j _ => by rw [fW _ (show gh 79 0 ≠ gh 75 0 from mNe hv hm (p := (29, 176)) (q := (25, 9600)) (by decide) (by decide) (by decide)) (show gh 79 0 ≠ gh 77 0 from mNe hv hm (p := (29, 176)) (q := (27, 4)) (by decide) (by decide) (by decide)) (show gh 79 0 ≠ gh 78 0 from mNe hv hm (p := (29, 176)) (q := (28, 8)) (by decide) (by decide) (by decide))])
                  refine lv_aload_n F.1 F.2.1 dX7_reckons_385 rfl (lv_at hl 3 rfl) ?_
                  refine lv_iload_n F.1 F.2.1 dX7_reckons_386 rfl (lv_at hl 4 rfl) ?_
                  refine lv_iload_n F.1 F.2.1 dX7_reckons_387 rfl (lv_at hl 5 rfl) ?_
                  refine g_calli (g_runV (As := [.int (iI sd), .int (iI rr)]) (rest := []) (ci := 7) F hl.1 hH hS hz (c_X7_laysf l g gh T I_24 R J AI_25 AJ AR mo sd rr zsd zrr hv hm hT (by omega) (by omega)) (cwV 2 F.2.2.2.2.1 (good_up gT_X7_lays) rfl rfl rfl hdX7_lays ⟨Nat.le_of_ble_eq_true rfl, Nat.le_of_ble_eq_true rfl⟩) hm (by decide) rfl rfl rfl (Nat.le_of_ble_eq_true rfl) dX7_reckons_388 ⟨Nat.zero_le _, Nat.zero_le _⟩) hS (fun v_132 I_126 R_127 J_128 AI_129 AJ_130 AR_131 H locs zv_132 hp_133 hH hS => ?_)
                  dsimp only at hp_133
                  obtain ⟨rfl, rfl, rfl, rfl, rfl, hv, hT, haq25, qlf, qly⟩ := hp_133
                  have hrk9 := rk_2 hv0 hm hrk qlf qly
                  have hsz9 := mSz1 hv hm (z := 16 * sd + rr) (by omega) (by omega)
                  have hvw := lay_v (c := lc) (F := rfM gh AI sd) (by omega) hsz9.2 (by omega) (vM_n (by omega)) (by omega) (by rw [vS_1 (by omega) hFa]; exact hgb) qly
                  have hz9 := lyP_z qly
                  exact g_iret F hr hlk hH hS hz zv_132 ⟨rfl, rfl, rfl, rfl, hv, hT, wf, hrk9, hvw, hz9, (fun h9 => absurd h9 (by omega))⟩ dX7_reckons_391
                · exact cut_289_37 H locs ls (by omega) hH hS (lv_sub hl [0, 1, 2, 3, 4, 5] rfl)
            · refine lv_iload_n F.1 F.2.1 dX7_reckons_115 rfl (lv_at hl 4 rfl) ?_
              refine lv_iload_n F.1 F.2.1 dX7_reckons_116 rfl (lv_at hl 2 rfl) ?_
              refine lv_iload F.1 F.2.1 dX7_reckons_117 (lv_at hl 0 rfl) ?_
              refine g_calli (g_runS (As := [.int (iI sd), .int (iI v_11), .int (iI i)]) (rest := []) F hl.1 hH hS hz (c_X7_spot l g  I_24 R J AI_25 AJ AR sd v_11 i zsd zv_11 zi (by omega) (by omega) (by omega)) (va_cwS 3 F.2.2.2.2.1 (good_up gT_X7_spot) rfl rfl rfl hdX7_spot.2 ⟨Nat.le_of_ble_eq_true rfl, Nat.le_of_ble_eq_true rfl⟩) rfl rfl (Nat.le_of_ble_eq_true rfl) dX7_reckons_119 ⟨Nat.zero_le _, Nat.zero_le _⟩) hS (fun v_140 I_134 R_135 J_136 AI_137 AJ_138 AR_139 H locs zv_140 hp_141 hH hS => ?_)
              dsimp only at hp_141
              obtain ⟨rfl, rfl, rfl, rfl, rfl, rfl, q_142⟩ := hp_141
              refine lv_istore (lv' := [(6, .int (iI v_140)), (5, .int (iI i)), (4, .int (iI v_19)), (3, .int (iI v_11)), (0, .ref mo), (1, .int (iI sd)), (2, .int (iI rr))]) F.1 F.2.1 dX7_reckons_122 hl (by decide) rfl (fun ls hl => ?_)
              refine lv_aload_n F.1 F.2.1 dX7_reckons_124 rfl (lv_at hl 4 rfl) ?_
              obtain ⟨r_143a, r_143b⟩ : R mo 6 = some (gh 56 0) ∧ gAr g (gh 56 0) 9 126720 := mR hv hm (q := (6, 126720)) (by decide)
              refine g_getR (ci := 7) (k := 6) F hH rfl (by decide) iX7 hm (by decide) rfl (b := gh 56 0) r_143a k24 dX7_reckons_125 ?_
              refine lv_iload F.1 F.2.1 dX7_reckons_128 (lv_at hl 0 rfl) ?_
              refine z_iconst F dX7_reckons_130 ?_
              refine z_iadd F dX7_reckons_131 ?_
              have hx132 : 0 ≤ (v_140 + 4) ∧ (v_140 + 4) < ((126720 : Nat) : Int) ∧ (v_140 + 4) ≤ 2147483647 := ⟨by omega, by omega, by omega⟩
              refine g_iald F hH r_143b hx132.1 hx132.2.1 hx132.2.2 dX7_reckons_132 ?_
              refine z_name (fun v_144 ev_144 => ?_)
              have zv_144 : zr v_144 := by rw [ev_144]; exact zr_t _
              have c132 : iI v_144 = bxa (6 * i.toNat + 4) := by rw [ev_144, iI_self, h56, ← hXa9 _ (by omega)]; congr 1; omega
              refine lv_istore (lv' := [(7, .int (iI v_144)), (6, .int (iI v_140)), (5, .int (iI i)), (4, .int (iI v_19)), (3, .int (iI v_11)), (0, .ref mo), (1, .int (iI sd)), (2, .int (iI rr))]) F.1 F.2.1 dX7_reckons_133 hl (by decide) rfl (fun ls hl => ?_)
              have cut_168_144 : ∀ (is : Int) (H : Heap) (locs : List Loc) (ls : Array Slot), zr is → (tIz is (visP lc (tup bxa i.toNat) (bxa (6 * i.toNat + 4)))) → gH g I_24 R J AI_25 AJ AR H → va_S (gA g) s.heap H locs → lv_has ls 10 [(7, .int (iI v_144)), (6, .int (iI v_140)), (5, .int (iI i)), (4, .int (iI v_19)), (3, .int (iI v_11)), (0, .ref mo), (1, .int (iI sd)), (2, .int (iI rr))] → W p l e rmX7_reckonsf s m ([.ref mo, .int (iI sd), .int (iI rr)] : List Value).toArray below meth c H locs 0 0 (MQ below (gQi g (fun (z : Int) (w : gS) => R = w.2.1 ∧ J = w.2.2.1 ∧ AJ = w.2.2.2.2.1 ∧ AR = w.2.2.2.2.2 ∧ (mInv g gh R (w.1) (w.2.2.2.1)) ∧ ((w.2.2.2.1) (gh 50 0) = T) ∧ (wF mo I (w.1)) ∧ (rkM gh sd rr AI (w.2.2.2.1)) ∧ (vwP lc (rfM gh AI sd) z (rfM gh (w.2.2.2.1) sd rr.toNat).2 (rfM gh (w.2.2.2.1) sd rr.toNat).1) ∧ (z = 0 ∨ z = -3 ∨ z = -4) ∧ (lc.1 0 = 8 → z = 0 → ∃ R9 : Nat, rgY lc (rfM gh AI sd (lc.1 2).toNat).2 (rfM gh AI sd (lc.1 2).toNat).1 (rfM gh AI sd (lc.1 3).toNat).2 (rfM gh AI sd (lc.1 3).toNat).1 R9 (rfM gh (w.2.2.2.1) sd rr.toNat).2 (rfM gh (w.2.2.2.1) sd rr.toNat).1 ∧ (w.2.2.2.1) (gh 79 0) (16 * sd + rr).toNat = iI (R9 : Int)))) ([.ref mo, .int (iI sd), .int (iI rr)] : List Value).toArray s 0 0 (gA g)) (F0 m 168 ls [.int (iI is)]) := by
                intro is H locs ls zis his hH hS hl
                refine lv_istore (lv' := [(8, .int (iI is)), (7, .int (iI v_144)), (6, .int (iI v_140)), (5, .int (iI i)), (4, .int (iI v_19)), (3, .int (iI v_11)), (0, .ref mo), (1, .int (iI sd)), (2, .int (iI rr))]) F.1 F.2.1 dX7_reckons_168 hl (by decide) rfl (fun ls hl => ?_)
                refine lv_iload F.1 F.2.1 dX7_reckons_170 (lv_at hl 0 rfl) ?_
                refine z_if_ne (tgt := 178) F dX7_reckons_172 (by decide) zis (fun c_146 => ?_) (fun c_146 => ?_)
                · have hyv := tIz_1 his (by omega)
                  refine lv_aload_n F.1 F.2.1 dX7_reckons_178 rfl (lv_at hl 6 rfl) ?_
                  refine lv_iload F.1 F.2.1 dX7_reckons_179 (lv_at hl 2 rfl) ?_
                  refine g_callv (g_runV (As := [.int (iI v_140)]) (rest := []) (ci := 7) F hl.1 hH hS hz (c_X7_takesf l g gh T I_24 R J AI_25 AJ AR mo v_140 zv_140 hv hm hT (by omega)) (cwV 1 F.2.2.2.2.1 (good_up gT_X7_takes) rfl rfl rfl hdX7_takes ⟨Nat.le_of_ble_eq_true rfl, Nat.le_of_ble_eq_true rfl⟩) hm (by decide) rfl rfl rfl (Nat.le_of_ble_eq_true rfl) dX7_reckons_181 ⟨Nat.zero_le _, Nat.zero_le _⟩) hS (fun I_147 R_148 J_149 AI_150 AJ_151 AR_152 H locs hp_153 hH hS => ?_)
                  dsimp only at hp_153
                  obtain ⟨rfl, rfl, rfl, rfl, rfl, hv, hT, fWq, taq⟩ := hp_153
                  have htk : ∀ j, j < 4 → AI_150 (gh 77 0) j = tg (tup bxa i.toNat) j := fun j hj => by rw [taq j hj, h56, tg_up j hj, ← hXa9 _ (by omega)]; congr 1; omega
                  have hga : gaR (AI_150 (gh 75 0)) (I_24 mo 26).toInt.toNat (sR (vK lc) (vA lc) bxa i.toNat s0T) := by rw [fWq _ (show gh 75 0 ≠ gh 77 0 from mNe hv hm (p := (25, 9600)) (q := (27, 4)) (by decide) (by decide) (by decide))]; exact hga
                  have fW : ∀ b, b ≠ gh 75 0 → b ≠ gh 77 0 → b ≠ gh 78 0 → AI_150 b = AI b := fun b h1 h2 h3 => (fWq b h2).trans (fW b h1 h2 h3)
                  have h56 : AI_150 (gh 56 0) = AI (gh 56 0) := fW _ (show gh 56 0 ≠ gh 75 0 from mNe hv hm (p := (6, 126720)) (q := (25, 9600)) (by decide) (by decide) (by decide)) (show gh 56 0 ≠ gh 77 0 from mNe hv hm (p := (6, 126720)) (q := (27, 4)) (by decide) (by decide) (by decide)) (show gh 56 0 ≠ gh 78 0 from mNe hv hm (p := (6, 126720)) (q := (28, 8)) (by decide) (by decide) (by decide))
                  have h57 : AI_150 (gh 57 0) = AI (gh 57 0) := fW _ (show gh 57 0 ≠ gh 75 0 from mNe hv hm (p := (7, 176)) (q := (25, 9600)) (by decide) (by decide) (by decide)) (show gh 57 0 ≠ gh 77 0 from mNe hv hm (p := (7, 176)) (q := (27, 4)) (by decide) (by decide) (by decide)) (show gh 57 0 ≠ gh 78 0 from mNe hv hm (p := (7, 176)) (q := (28, 8)) (by decide) (by decide) (by decide))
                  have cut_233_154 : ∀ (AI_154 : gI) (H : Heap) (locs : List Loc) (ls : Array Slot), (mInv g gh R I_24 AI_154) → (AI_154 (gh 50 0) = T) → (∀ b, b ≠ gh 75 0 → b ≠ gh 77 0 → b ≠ gh 78 0 → AI_154 b = AI b) → (gaR (AI_154 (gh 75 0)) (I_24 mo 26).toInt.toNat (sR (vK lc) (vA lc) bxa i.toNat s0T)) → (∀ j, j < 4 → AI_154 (gh 77 0) j = tg (vK lc (tup bxa i.toNat)) j) → gH g I_24 R J AI_154 AJ AR H → va_S (gA g) s.heap H locs → lv_has ls 10 [(8, .int (iI is)), (7, .int (iI v_144)), (6, .int (iI v_140)), (5, .int (iI i)), (4, .int (iI v_19)), (3, .int (iI v_11)), (0, .ref mo), (1, .int (iI sd)), (2, .int (iI rr))] → W p l e rmX7_reckonsf s m ([.ref mo, .int (iI sd), .int (iI rr)] : List Value).toArray below meth c H locs 0 0 (MQ below (gQi g (fun (z : Int) (w : gS) => R = w.2.1 ∧ J = w.2.2.1 ∧ AJ = w.2.2.2.2.1 ∧ AR = w.2.2.2.2.2 ∧ (mInv g gh R (w.1) (w.2.2.2.1)) ∧ ((w.2.2.2.1) (gh 50 0) = T) ∧ (wF mo I (w.1)) ∧ (rkM gh sd rr AI (w.2.2.2.1)) ∧ (vwP lc (rfM gh AI sd) z (rfM gh (w.2.2.2.1) sd rr.toNat).2 (rfM gh (w.2.2.2.1) sd rr.toNat).1) ∧ (z = 0 ∨ z = -3 ∨ z = -4) ∧ (lc.1 0 = 8 → z = 0 → ∃ R9 : Nat, rgY lc (rfM gh AI sd (lc.1 2).toNat).2 (rfM gh AI sd (lc.1 2).toNat).1 (rfM gh AI sd (lc.1 3).toNat).2 (rfM gh AI sd (lc.1 3).toNat).1 R9 (rfM gh (w.2.2.2.1) sd rr.toNat).2 (rfM gh (w.2.2.2.1) sd rr.toNat).1 ∧ (w.2.2.2.1) (gh 79 0) (16 * sd + rr).toNat = iI (R9 : Int)))) ([.ref mo, .int (iI sd), .int (iI rr)] : List Value).toArray s 0 0 (gA g)) (F0 m 233 ls []) := by
                    intro AI_154 H locs ls hv hT fW hga htv hH hS hl
                    have h56 : AI_154 (gh 56 0) = AI (gh 56 0) := fW _ (show gh 56 0 ≠ gh 75 0 from mNe hv hm (p := (6, 126720)) (q := (25, 9600)) (by decide) (by decide) (by decide)) (show gh 56 0 ≠ gh 77 0 from mNe hv hm (p := (6, 126720)) (q := (27, 4)) (by decide) (by decide) (by decide)) (show gh 56 0 ≠ gh 78 0 from mNe hv hm (p := (6, 126720)) (q := (28, 8)) (by decide) (by decide) (by decide))
                    have h57 : AI_154 (gh 57 0) = AI (gh 57 0) := fW _ (show gh 57 0 ≠ gh 75 0 from mNe hv hm (p := (7, 176)) (q := (25, 9600)) (by decide) (by decide) (by decide)) (show gh 57 0 ≠ gh 77 0 from mNe hv hm (p := (7, 176)) (q := (27, 4)) (by decide) (by decide) (by decide)) (show gh 57 0 ≠ gh 78 0 from mNe hv hm (p := (7, 176)) (q := (28, 8)) (by decide) (by decide) (by decide))
                    obtain ⟨Pg, hPw, hPs⟩ := hga
                    refine lv_aload_n F.1 F.2.1 dX7_reckons_233 rfl (lv_at hl 6 rfl) ?_
                    refine lv_iload F.1 F.2.1 dX7_reckons_234 (lv_at hl 4 rfl) ?_
                    refine z_bipush F dX7_reckons_236 (by decide) ?_
                    refine z_icmp_ne (tgt := 245) F dX7_reckons_238 (by decide) zv_19 ⟨by decide, by decide⟩ (fun c_156 => ?_) (fun c_156 => ?_)
                    · refine lv_iload F.1 F.2.1 dX7_reckons_245 (lv_at hl 1 rfl) ?_
                      refine z_iconst F dX7_reckons_247 ?_
                      refine g_calli (g_runV (As := [.int (iI v_144), .int (iI 0)]) (rest := []) (ci := 7) F hl.1 hH hS hz (c_X7_gathersf l g gh T ((I_24 mo 26).toInt.toNat) Pg (sR (vK lc) (vA lc) bxa i.toNat s0T) zM (vK lc (tup bxa i.toNat)) I_24 R J AI_154 AJ AR mo v_144 0 zv_144 ⟨by decide, by decide⟩ hv hm hT (by omega) hPw (by omega) htv) (cwV 2 F.2.2.2.2.1 (good_up gT_X7_gathers) rfl rfl rfl hdX7_gathers ⟨Nat.le_of_ble_eq_true rfl, Nat.le_of_ble_eq_true rfl⟩) hm (by decide) rfl rfl rfl (Nat.le_of_ble_eq_true rfl) dX7_reckons_248 ⟨Nat.zero_le _, Nat.zero_le _⟩) hS (fun v_163 I_157 R_158 J_159 AI_160 AJ_161 AR_162 H locs zv_163 hp_164 hH hS => ?_)
                      dsimp only at hp_164
                      obtain ⟨rfl, rfl, rfl, rfl, hv, hT, wfq, q_165, qga, fWq⟩ := hp_164
                      have wf := wF_t wf wfq
                      have u_166_2 : (I_157 mo 2).toInt = (I mo 2).toInt := by rw [wf 2 (by decide)]
                      have u_166_5 : (I_157 mo 5).toInt = (I mo 5).toInt := by rw [wf 5 (by decide)]
                      have u_166_14 : (I_157 mo 14).toInt = (I mo 14).toInt := by rw [wf 14 (by decide)]
                      have u_166_16 : (I_157 mo 16).toInt = (I mo 16).toInt := by rw [wf 16 (by decide)]
                      have u_166_24 : (I_157 mo 24).toInt = (I mo 24).toInt := by rw [wf 24 (by decide)]
                      have hga := gaR_s hPs qga
                      clear qga
                      have hcv : iI v_144 = vA lc (tup bxa i.toNat) (bxa (6 * i.toNat + 4)) := by rw [vA_y hyv (by omega), c132]
                      rw [hcv] at hga
                      have hga9 : gaR (AI_160 (gh 75 0)) (I_157 mo 26).toInt.toNat (sR (vK lc) (vA lc) bxa (i + 1).toNat s0T) := by rw [show (i + 1).toNat = i.toNat + 1 by omega, sR]; exact hga
                      have fW : ∀ b, b ≠ gh 75 0 → b ≠ gh 77 0 → b ≠ gh 78 0 → AI_160 b = AI b := fun b h1 h2 h3 => (fWq b h1).trans (fW b h1 h2 h3)
                      refine lv_istore (lv' := [(9, .int (iI v_163)), (8, .int (iI is)), (7, .int (iI v_144)), (6, .int (iI v_140)), (5, .int (iI i)), (4, .int (iI v_19)), (3, .int (iI v_11)), (0, .ref mo), (1, .int (iI sd)), (2, .int (iI rr))]) F.1 F.2.1 dX7_reckons_251 hl (by decide) rfl (fun ls hl => ?_)
                      refine lv_iload F.1 F.2.1 dX7_reckons_253 (lv_at hl 0 rfl) ?_
                      refine z_if_eq (tgt := 271) F dX7_reckons_255 (by decide) zv_163 (fun c_167 => ?_) (fun c_167 => ?_)
                      · refine z_iinc (lv' := [(5, .int (iI (i + 1))), (9, .int (iI v_163)), (8, .int (iI is)), (7, .int (iI v_144)), (6, .int (iI v_140)), (4, .int (iI v_19)), (3, .int (iI v_11)), (0, .ref mo), (1, .int (iI sd)), (2, .int (iI rr))]) F dX7_reckons_271 hl (k := 4) rfl (by decide) rfl (fun ls hl => ?_)
                        refine z_goto (tgt := 104) F dX7_reckons_274 (by decide) ?_
                        exact ih104 (i + 1) I_157 AI_160 H locs ls ⟨by omega, by omega⟩ hv hT wf (by omega) fW hga9 (by omega) (by omega) hH hS (lv_sub hl [0, 5, 6, 7, 8, 9] rfl)
                      · refine lv_aload_n F.1 F.2.1 dX7_reckons_258 rfl (lv_at hl 7 rfl) ?_
                        refine g_getI (ci := 7) (k := 26) F hH rfl (by decide) iX7 hm (by decide) rfl k269 dX7_reckons_259 ?_
                        have b_168 := mJ hv hm
                        unfold mNum1 at b_168
                        refine z_sipush F dX7_reckons_262 (by decide) ?_
                        refine z_icmp_le (tgt := 271) F dX7_reckons_265 (by decide) (zr_t _) ⟨by decide, by decide⟩ (fun c_169 => ?_) (fun c_169 => ?_)
                        · refine z_iinc (lv' := [(5, .int (iI (i + 1))), (9, .int (iI v_163)), (8, .int (iI is)), (7, .int (iI v_144)), (6, .int (iI v_140)), (4, .int (iI v_19)), (3, .int (iI v_11)), (0, .ref mo), (1, .int (iI sd)), (2, .int (iI rr))]) F dX7_reckons_271 hl (k := 4) rfl (by decide) rfl (fun ls hl => ?_)
                          refine z_goto (tgt := 104) F dX7_reckons_274 (by decide) ?_
                          exact ih104 (i + 1) I_157 AI_160 H locs ls ⟨by omega, by omega⟩ hv hT wf (by omega) fW hga9 (by omega) (by omega) hH hS (lv_sub hl [0, 5, 6, 7, 8, 9] rfl)
                        · refine z_bipush F dX7_reckons_268 (by decide) ?_
                          exact g_iret F hr hlk hH hS hz ⟨by decide, by decide⟩ ⟨rfl, rfl, rfl, rfl, hv, hT, wf, absurd trivial (by omega), absurd trivial (by omega), absurd trivial (by omega), (fun h9 => absurd h9 (by omega))⟩ dX7_reckons_270
                    · refine z_iconst F dX7_reckons_241 ?_
                      refine z_goto (tgt := 247) F dX7_reckons_242 (by decide) ?_
                      refine z_iconst F dX7_reckons_247 ?_
                      refine g_calli (g_runV (As := [.int (iI 1), .int (iI 0)]) (rest := []) (ci := 7) F hl.1 hH hS hz (c_X7_gathersf l g gh T ((I_24 mo 26).toInt.toNat) Pg (sR (vK lc) (vA lc) bxa i.toNat s0T) zM (vK lc (tup bxa i.toNat)) I_24 R J AI_154 AJ AR mo 1 0 ⟨by decide, by decide⟩ ⟨by decide, by decide⟩ hv hm hT (by omega) hPw (by omega) htv) (cwV 2 F.2.2.2.2.1 (good_up gT_X7_gathers) rfl rfl rfl hdX7_gathers ⟨Nat.le_of_ble_eq_true rfl, Nat.le_of_ble_eq_true rfl⟩) hm (by decide) rfl rfl rfl (Nat.le_of_ble_eq_true rfl) dX7_reckons_248 ⟨Nat.zero_le _, Nat.zero_le _⟩) hS (fun v_176 I_170 R_171 J_172 AI_173 AJ_174 AR_175 H locs zv_176 hp_177 hH hS => ?_)
                      dsimp only at hp_177
                      obtain ⟨rfl, rfl, rfl, rfl, hv, hT, wfq, q_178, qga, fWq⟩ := hp_177
                      have wf := wF_t wf wfq
                      have u_179_2 : (I_170 mo 2).toInt = (I mo 2).toInt := by rw [wf 2 (by decide)]
                      have u_179_5 : (I_170 mo 5).toInt = (I mo 5).toInt := by rw [wf 5 (by decide)]
                      have u_179_14 : (I_170 mo 14).toInt = (I mo 14).toInt := by rw [wf 14 (by decide)]
                      have u_179_16 : (I_170 mo 16).toInt = (I mo 16).toInt := by rw [wf 16 (by decide)]
                      have u_179_24 : (I_170 mo 24).toInt = (I mo 24).toInt := by rw [wf 24 (by decide)]
                      have hga := gaR_s hPs qga
                      clear qga
                      have hcv : iI 1 = vA lc (tup bxa i.toNat) (bxa (6 * i.toNat + 4)) := by rw [vA_6 hyv (by omega)]; rfl
                      rw [hcv] at hga
                      have hga9 : gaR (AI_173 (gh 75 0)) (I_170 mo 26).toInt.toNat (sR (vK lc) (vA lc) bxa (i + 1).toNat s0T) := by rw [show (i + 1).toNat = i.toNat + 1 by omega, sR]; exact hga
                      have fW : ∀ b, b ≠ gh 75 0 → b ≠ gh 77 0 → b ≠ gh 78 0 → AI_173 b = AI b := fun b h1 h2 h3 => (fWq b h1).trans (fW b h1 h2 h3)
                      refine lv_istore (lv' := [(9, .int (iI v_176)), (8, .int (iI is)), (7, .int (iI v_144)), (6, .int (iI v_140)), (5, .int (iI i)), (4, .int (iI v_19)), (3, .int (iI v_11)), (0, .ref mo), (1, .int (iI sd)), (2, .int (iI rr))]) F.1 F.2.1 dX7_reckons_251 hl (by decide) rfl (fun ls hl => ?_)
                      refine lv_iload F.1 F.2.1 dX7_reckons_253 (lv_at hl 0 rfl) ?_
                      refine z_if_eq (tgt := 271) F dX7_reckons_255 (by decide) zv_176 (fun c_180 => ?_) (fun c_180 => ?_)
                      · refine z_iinc (lv' := [(5, .int (iI (i + 1))), (9, .int (iI v_176)), (8, .int (iI is)), (7, .int (iI v_144)), (6, .int (iI v_140)), (4, .int (iI v_19)), (3, .int (iI v_11)), (0, .ref mo), (1, .int (iI sd)), (2, .int (iI rr))]) F dX7_reckons_271 hl (k := 4) rfl (by decide) rfl (fun ls hl => ?_)
                        refine z_goto (tgt := 104) F dX7_reckons_274 (by decide) ?_
                        exact ih104 (i + 1) I_170 AI_173 H locs ls ⟨by omega, by omega⟩ hv hT wf (by omega) fW hga9 (by omega) (by omega) hH hS (lv_sub hl [0, 5, 6, 7, 8, 9] rfl)
                      · refine lv_aload_n F.1 F.2.1 dX7_reckons_258 rfl (lv_at hl 7 rfl) ?_
                        refine g_getI (ci := 7) (k := 26) F hH rfl (by decide) iX7 hm (by decide) rfl k269 dX7_reckons_259 ?_
                        have b_181 := mJ hv hm
                        unfold mNum1 at b_181
                        refine z_sipush F dX7_reckons_262 (by decide) ?_
                        refine z_icmp_le (tgt := 271) F dX7_reckons_265 (by decide) (zr_t _) ⟨by decide, by decide⟩ (fun c_182 => ?_) (fun c_182 => ?_)
                        · refine z_iinc (lv' := [(5, .int (iI (i + 1))), (9, .int (iI v_176)), (8, .int (iI is)), (7, .int (iI v_144)), (6, .int (iI v_140)), (4, .int (iI v_19)), (3, .int (iI v_11)), (0, .ref mo), (1, .int (iI sd)), (2, .int (iI rr))]) F dX7_reckons_271 hl (k := 4) rfl (by decide) rfl (fun ls hl => ?_)
                          refine z_goto (tgt := 104) F dX7_reckons_274 (by decide) ?_
                          exact ih104 (i + 1) I_170 AI_173 H locs ls ⟨by omega, by omega⟩ hv hT wf (by omega) fW hga9 (by omega) (by omega) hH hS (lv_sub hl [0, 5, 6, 7, 8, 9] rfl)
                        · refine z_bipush F dX7_reckons_268 (by decide) ?_
                          exact g_iret F hr hlk hH hS hz ⟨by decide, by decide⟩ ⟨rfl, rfl, rfl, rfl, hv, hT, wf, absurd trivial (by omega), absurd trivial (by omega), absurd trivial (by omega), (fun h9 => absurd h9 (by omega))⟩ dX7_reckons_270
                  refine lv_iload F.1 F.2.1 dX7_reckons_184 (lv_at hl 4 rfl) ?_
                  refine z_iconst F dX7_reckons_186 ?_
                  refine z_icmp_ne (tgt := 233) F dX7_reckons_187 (by decide) zv_19 ⟨by decide, by decide⟩ (fun c_183 => ?_) (fun c_183 => ?_)
                  · exact cut_233_154 AI_150 H locs ls hv hT fW hga (by rw [vK_id (by omega)]; exact htk) hH hS (lv_sub hl [0, 1, 2, 3, 4, 5, 6, 7, 8] rfl)
                  · refine z_iconst F dX7_reckons_190 ?_
                    refine lv_istore (lv' := [(9, .int (iI 0)), (8, .int (iI is)), (7, .int (iI v_144)), (6, .int (iI v_140)), (5, .int (iI i)), (4, .int (iI v_19)), (3, .int (iI v_11)), (0, .ref mo), (1, .int (iI sd)), (2, .int (iI rr))]) F.1 F.2.1 dX7_reckons_191 hl (by decide) rfl (fun ls hl => ?_)
                    have cut_193_184 : ∀ (NN : Nat) (k : Int) (AI_184 : gI) (H : Heap) (locs : List Loc) (ls : Array Slot), zr k → (mInv g gh R I_24 AI_184) → (AI_184 (gh 50 0) = T) → (0 ≤ k ∧ k ≤ 4) → (∀ b, b ≠ gh 75 0 → b ≠ gh 77 0 → b ≠ gh 78 0 → AI_184 b = AI b) → (gaR (AI_184 (gh 75 0)) (I_24 mo 26).toInt.toNat (sR (vK lc) (vA lc) bxa i.toNat s0T)) → (∀ j : Nat, (j : Int) < k → AI_184 (gh 78 0) j = tg (tup bxa i.toNat) j) → (4 - k) < ((NN : Nat) : Int) → gH g I_24 R J AI_184 AJ AR H → va_S (gA g) s.heap H locs → lv_has ls 10 [(9, .int (iI k)), (8, .int (iI is)), (7, .int (iI v_144)), (6, .int (iI v_140)), (5, .int (iI i)), (4, .int (iI v_19)), (3, .int (iI v_11)), (0, .ref mo), (1, .int (iI sd)), (2, .int (iI rr))] → W p l e rmX7_reckonsf s m ([.ref mo, .int (iI sd), .int (iI rr)] : List Value).toArray below meth c H locs 0 0 (MQ below (gQi g (fun (z : Int) (w : gS) => R = w.2.1 ∧ J = w.2.2.1 ∧ AJ = w.2.2.2.2.1 ∧ AR = w.2.2.2.2.2 ∧ (mInv g gh R (w.1) (w.2.2.2.1)) ∧ ((w.2.2.2.1) (gh 50 0) = T) ∧ (wF mo I (w.1)) ∧ (rkM gh sd rr AI (w.2.2.2.1)) ∧ (vwP lc (rfM gh AI sd) z (rfM gh (w.2.2.2.1) sd rr.toNat).2 (rfM gh (w.2.2.2.1) sd rr.toNat).1) ∧ (z = 0 ∨ z = -3 ∨ z = -4) ∧ (lc.1 0 = 8 → z = 0 → ∃ R9 : Nat, rgY lc (rfM gh AI sd (lc.1 2).toNat).2 (rfM gh AI sd (lc.1 2).toNat).1 (rfM gh AI sd (lc.1 3).toNat).2 (rfM gh AI sd (lc.1 3).toNat).1 R9 (rfM gh (w.2.2.2.1) sd rr.toNat).2 (rfM gh (w.2.2.2.1) sd rr.toNat).1 ∧ (w.2.2.2.1) (gh 79 0) (16 * sd + rr).toNat = iI (R9 : Int)))) ([.ref mo, .int (iI sd), .int (iI rr)] : List Value).toArray s 0 0 (gA g)) (F0 m 193 ls []) := by
                      intro NN193
                      induction NN193 with
                      | zero =>
                        intro k AI_184 H locs ls zk hv hT hk1 fW hga hov hm193 hH hS hl
                        exact absurd hm193 (by omega)
                      | succ NN193 ih193 =>
                        intro k AI_184 H locs ls zk hv hT hk1 fW hga hov hm193 hH hS hl
                        have h56 : AI_184 (gh 56 0) = AI (gh 56 0) := fW _ (show gh 56 0 ≠ gh 75 0 from mNe hv hm (p := (6, 126720)) (q := (25, 9600)) (by decide) (by decide) (by decide)) (show gh 56 0 ≠ gh 77 0 from mNe hv hm (p := (6, 126720)) (q := (27, 4)) (by decide) (by decide) (by decide)) (show gh 56 0 ≠ gh 78 0 from mNe hv hm (p := (6, 126720)) (q := (28, 8)) (by decide) (by decide) (by decide))
                        have h57 : AI_184 (gh 57 0) = AI (gh 57 0) := fW _ (show gh 57 0 ≠ gh 75 0 from mNe hv hm (p := (7, 176)) (q := (25, 9600)) (by decide) (by decide) (by decide)) (show gh 57 0 ≠ gh 77 0 from mNe hv hm (p := (7, 176)) (q := (27, 4)) (by decide) (by decide) (by decide)) (show gh 57 0 ≠ gh 78 0 from mNe hv hm (p := (7, 176)) (q := (28, 8)) (by decide) (by decide) (by decide))
                        refine lv_iload F.1 F.2.1 dX7_reckons_193 (lv_at hl 0 rfl) ?_
                        refine z_iconst F dX7_reckons_195 ?_
                        refine z_icmp_ge (tgt := 222) F dX7_reckons_196 (by decide) zk ⟨by decide, by decide⟩ (fun c_186 => ?_) (fun c_186 => ?_)
                        · have hS9 : trT lc (AI_184 (gh 78 0)) = vK lc (tup bxa i.toNat) := by
                            rw [vK_2 (by omega)]
                            exact trT_cg (fun q hq hn => hov _ (by have h9 := (cqp (by omega)).2 q hq; omega))
                          refine lv_aload_n F.1 F.2.1 dX7_reckons_222 rfl (lv_at hl 7 rfl) ?_
                          refine lv_iload_n F.1 F.2.1 dX7_reckons_223 rfl (lv_at hl 9 rfl) ?_
                          refine z_iconst F dX7_reckons_224 ?_
                          refine lv_aload_n F.1 F.2.1 dX7_reckons_225 rfl (lv_at hl 7 rfl) ?_
                          refine lv_iload_n F.1 F.2.1 dX7_reckons_226 rfl (lv_at hl 9 rfl) ?_
                          refine g_calli (g_runV (As := [.int (iI rr)]) (rest := [.int (iI 0), .int (iI rr), .ref mo]) (ci := 7) F hl.1 hH hS hz (c_X7_partsOf l g gh T I_24 R J AI_184 AJ AR mo rr zrr hv hm hT (by omega)) (cwV 1 F.2.2.2.2.1 (good_up gT_X7_partsOf) rfl rfl rfl hdX7_partsOf ⟨Nat.le_of_ble_eq_true rfl, Nat.le_of_ble_eq_true rfl⟩) hm (by decide) rfl rfl rfl (Nat.le_of_ble_eq_true rfl) dX7_reckons_227 ⟨Nat.zero_le _, Nat.zero_le _⟩) hS (fun v_193 I_187 R_188 J_189 AI_190 AJ_191 AR_192 H locs zv_193 hp_194 hH hS => ?_)
                          dsimp only at hp_194
                          obtain ⟨rfl, rfl, rfl, rfl, rfl, rfl, q227⟩ := hp_194
                          refine g_callv (g_runV (As := [.int (iI rr), .int (iI 0), .int (iI v_193)]) (rest := []) (ci := 7) F hl.1 hH hS hz (c_X7_termsf l g gh T lc (AI_184 (gh 78 0)) I_24 R J AI_184 AJ AR mo rr 0 v_193 zrr ⟨by decide, by decide⟩ zv_193 hv hm hT (by omega) (by omega) (fun k h0 h1 h2 => by have e9 := (x.2.2.2.2.2.1 (by omega)).2 k h0 (by omega); rw [Int.zero_add]; exact e9) (hlt (by omega)).1 (by rw [q227]; exact (hlt (by omega)).2) (fun _ _ => rfl)) (cwV 3 F.2.2.2.2.1 (good_up gT_X7_terms) rfl rfl rfl hdX7_terms ⟨Nat.le_of_ble_eq_true rfl, Nat.le_of_ble_eq_true rfl⟩) hm (by decide) rfl rfl rfl (Nat.le_of_ble_eq_true rfl) dX7_reckons_230 ⟨Nat.zero_le _, Nat.zero_le _⟩) hS (fun I_195 R_196 J_197 AI_198 AJ_199 AR_200 H locs hp_201 hH hS => ?_)
                          dsimp only at hp_201
                          obtain ⟨rfl, rfl, rfl, rfl, rfl, hv, hT, fWq, trq⟩ := hp_201
                          have htv : ∀ q, q < 4 → AI_198 (gh 77 0) q = tg (vK lc (tup bxa i.toNat)) q := fun q hq => by rw [trq q hq, hS9]
                          have hga : gaR (AI_198 (gh 75 0)) (I_24 mo 26).toInt.toNat (sR (vK lc) (vA lc) bxa i.toNat s0T) := by rw [fWq _ (show gh 75 0 ≠ gh 77 0 from mNe hv hm (p := (25, 9600)) (q := (27, 4)) (by decide) (by decide) (by decide))]; exact hga
                          have fW : ∀ b, b ≠ gh 75 0 → b ≠ gh 77 0 → b ≠ gh 78 0 → AI_198 b = AI b := fun b h1 h2 h3 => (fWq b h2).trans (fW b h1 h2 h3)
                          exact cut_233_154 AI_198 H locs ls hv hT fW hga htv hH hS (lv_sub hl [1, 2, 3, 4, 5, 6, 7, 8, 9] rfl)
                        · refine lv_aload_n F.1 F.2.1 dX7_reckons_199 rfl (lv_at hl 7 rfl) ?_
                          obtain ⟨r_202a, r_202b⟩ : R mo 28 = some (gh 78 0) ∧ gAr g (gh 78 0) 9 8 := mR hv hm (q := (28, 8)) (by decide)
                          refine g_getR (ci := 7) (k := 28) F hH rfl (by decide) iX7 hm (by decide) rfl (b := gh 78 0) r_202a k48 dX7_reckons_200 ?_
                          refine lv_iload F.1 F.2.1 dX7_reckons_203 (lv_at hl 0 rfl) ?_
                          refine lv_aload_n F.1 F.2.1 dX7_reckons_205 rfl (lv_at hl 7 rfl) ?_
                          refine g_getR (ci := 7) (k := 6) F hH rfl (by decide) iX7 hm (by decide) rfl (b := gh 56 0) r_143a k24 dX7_reckons_206 ?_
                          refine lv_iload F.1 F.2.1 dX7_reckons_209 (lv_at hl 3 rfl) ?_
                          refine lv_iload F.1 F.2.1 dX7_reckons_211 (lv_at hl 0 rfl) ?_
                          refine z_iadd F dX7_reckons_213 ?_
                          have hx214 : 0 ≤ (v_140 + k) ∧ (v_140 + k) < ((126720 : Nat) : Int) ∧ (v_140 + k) ≤ 2147483647 := ⟨by omega, by omega, by omega⟩
                          refine g_iald F hH r_143b hx214.1 hx214.2.1 hx214.2.2 dX7_reckons_214 ?_
                          refine z_name (fun v_203 ev_203 => ?_)
                          have zv_203 : zr v_203 := by rw [ev_203]; exact zr_t _
                          have c214 : iI v_203 = tg (tup bxa i.toNat) k.toNat := by rw [ev_203, iI_self, h56, tg_up _ (by omega), ← hXa9 _ (by omega)]; congr 1; omega
                          have hx215 : 0 ≤ k ∧ k < ((8 : Nat) : Int) ∧ k ≤ 2147483647 := ⟨by omega, by omega, by omega⟩
                          refine g_iast F hH hS r_202b hx215.1 hx215.2.1 hx215.2.2 dX7_reckons_215 (fun H locs hH hS => ?_)
                          obtain ⟨AI_204, eAI_204⟩ : ∃ qQ, qQ = gup2 AI_184 (gh 78 0) (k).toNat (iI (v_203)) := ⟨_, rfl⟩
                          rw [← eAI_204] at hH
                          have kAI_204 : ∀ b, b ≠ (gh 78 0) → AI_204 b = AI_184 b := fun b hb => by rw [eAI_204]; exact funext fun j => gup2_a _ _ hb
                          have hvO := hv
                          have t_205 : AI_204 (gh 50 0) = AI_184 (gh 50 0) := mK hv hm (p := (0, 640)) (q := (28, 8)) (by decide) (by decide) (by decide) kAI_204
                          have hv : mInv g gh R I_24 AI_204 := mInv_a hv hm (q := (28, 8)) (by decide) (by decide) kAI_204
                          have hT : AI_204 (gh 50 0) = T := t_205.trans hT
                          have hov : ∀ j : Nat, (j : Int) < k + 1 → AI_204 (gh 78 0) j = tg (tup bxa i.toNat) j := fun j hj => by
                            by_cases e9 : (j : Int) = k
                            · rw [eAI_204, gup2_e _ _ (by omega), c214, show j = k.toNat by omega]
                            · rw [eAI_204, gup2_k _ _ (by omega)]; exact hov j (by omega)
                          have hga : gaR (AI_204 (gh 75 0)) (I_24 mo 26).toInt.toNat (sR (vK lc) (vA lc) bxa i.toNat s0T) := by rw [kAI_204 _ (show gh 75 0 ≠ gh 78 0 from mNe hv hm (p := (25, 9600)) (q := (28, 8)) (by decide) (by decide) (by decide))]; exact hga
                          have fW : ∀ b, b ≠ gh 75 0 → b ≠ gh 77 0 → b ≠ gh 78 0 → AI_204 b = AI b := fun b h1 h2 h3 => (kAI_204 b h3).trans (fW b h1 h2 h3)
                          refine z_iinc (lv' := [(9, .int (iI (k + 1))), (8, .int (iI is)), (7, .int (iI v_144)), (6, .int (iI v_140)), (5, .int (iI i)), (4, .int (iI v_19)), (3, .int (iI v_11)), (0, .ref mo), (1, .int (iI sd)), (2, .int (iI rr))]) F dX7_reckons_216 hl (k := 0) rfl (by decide) rfl (fun ls hl => ?_)
                          refine z_goto (tgt := 193) F dX7_reckons_219 (by decide) ?_
                          exact ih193 (k + 1) AI_204 H locs ls ⟨by omega, by omega⟩ hv hT (by omega) fW hga hov (by omega) hH hS (lv_sub hl [0, 1, 2, 3, 4, 5, 6, 7, 8, 9] rfl)
                    exact cut_193_184 (((4 - 0) + 1 : Int).toNat) 0 AI_150 H locs ls ⟨by decide, by decide⟩ hv hT (by omega) fW hga (fun j hj => absurd hj (by omega)) (by omega) hH hS (lv_sub hl [0, 1, 2, 3, 4, 5, 6, 7, 8, 9] rfl)
                · have hga9 : gaR (AI_25 (gh 75 0)) (I_24 mo 26).toInt.toNat (sR (vK lc) (vA lc) bxa (i + 1).toNat s0T) := by rw [show (i + 1).toNat = i.toNat + 1 by omega, sR, vA_0 (tIz_0 his (by omega)), sAdd_0]; exact hga
                  refine z_goto (tgt := 271) F dX7_reckons_175 (by decide) ?_
                  refine z_iinc (lv' := [(5, .int (iI (i + 1))), (8, .int (iI is)), (7, .int (iI v_144)), (6, .int (iI v_140)), (4, .int (iI v_19)), (3, .int (iI v_11)), (0, .ref mo), (1, .int (iI sd)), (2, .int (iI rr))]) F dX7_reckons_271 hl (k := 3) rfl (by decide) rfl (fun ls hl => ?_)
                  refine z_goto (tgt := 104) F dX7_reckons_274 (by decide) ?_
                  exact ih104 (i + 1) I_24 AI_25 H locs ls ⟨by omega, by omega⟩ hv hT wf (by omega) fW hga9 (by omega) (by omega) hH hS (lv_sub hl [0, 4, 5, 6, 7, 8] rfl)
              refine lv_iload F.1 F.2.1 dX7_reckons_135 (lv_at hl 3 rfl) ?_
              refine z_iconst F dX7_reckons_137 ?_
              refine z_icmp_ne (tgt := 151) F dX7_reckons_138 (by decide) zv_19 ⟨by decide, by decide⟩ (fun c_206 => ?_) (fun c_206 => ?_)
              · refine lv_iload F.1 F.2.1 dX7_reckons_151 (lv_at hl 3 rfl) ?_
                refine z_bipush F dX7_reckons_153 (by decide) ?_
                refine z_icmp_ne (tgt := 163) F dX7_reckons_155 (by decide) zv_19 ⟨by decide, by decide⟩ (fun c_207 => ?_) (fun c_207 => ?_)
                · refine z_iconst F dX7_reckons_163 ?_
                  refine z_goto (tgt := 168) F dX7_reckons_164 (by decide) ?_
                  exact cut_168_144 1 H locs ls ⟨by decide, by decide⟩ (tIz_t ⟨fun h9 => absurd h9 (by omega), fun h9 => absurd h9 (by omega)⟩) hH hS (lv_sub hl [0, 1, 2, 3, 4, 5, 6, 7] rfl)
                · refine lv_iload F.1 F.2.1 dX7_reckons_158 (lv_at hl 0 rfl) ?_
                  refine z_if_le (tgt := 167) F dX7_reckons_160 (by decide) zv_144 (fun c_208 => ?_) (fun c_208 => ?_)
                  · refine z_iconst F dX7_reckons_167 ?_
                    exact cut_168_144 0 H locs ls ⟨by decide, by decide⟩ (tIz_f (fun h9 => by have h8 := h9.2 (by omega); rw [← c132, iI_val zv_144] at h8; omega)) hH hS (lv_sub hl [0, 1, 2, 3, 4, 5, 6, 7] rfl)
                  · refine z_iconst F dX7_reckons_163 ?_
                    refine z_goto (tgt := 168) F dX7_reckons_164 (by decide) ?_
                    exact cut_168_144 1 H locs ls ⟨by decide, by decide⟩ (tIz_t ⟨fun h9 => absurd h9 (by omega), fun _ => by rw [← c132, iI_val zv_144]; omega⟩) hH hS (lv_sub hl [0, 1, 2, 3, 4, 5, 6, 7] rfl)
              · refine lv_aload_n F.1 F.2.1 dX7_reckons_141 rfl (lv_at hl 5 rfl) ?_
                refine lv_iload_n F.1 F.2.1 dX7_reckons_142 rfl (lv_at hl 7 rfl) ?_
                refine lv_iload F.1 F.2.1 dX7_reckons_143 (lv_at hl 1 rfl) ?_
                refine g_calli (g_runV (As := [.int (iI rr), .int (iI v_140)]) (rest := []) (ci := 7) F hl.1 hH hS hz (c_X7_holdsf l g gh T lc (tup bxa i.toNat) I_24 R J AI_25 AJ AR mo rr v_140 zrr zv_140 hv hm hT (by omega) (by omega) (by omega) (hls (by omega)) (fun j hj => by rw [h56, tg_up j hj, ← hXa9 _ (by omega)]; congr 1; omega)) (cwV 2 F.2.2.2.2.1 (good_up gT_X7_holds) rfl rfl rfl hdX7_holds ⟨Nat.le_of_ble_eq_true rfl, Nat.le_of_ble_eq_true rfl⟩) hm (by decide) rfl rfl rfl (Nat.le_of_ble_eq_true rfl) dX7_reckons_145 ⟨Nat.zero_le _, Nat.zero_le _⟩) hS (fun v_215 I_209 R_210 J_211 AI_212 AJ_213 AR_214 H locs zv_215 hp_216 hH hS => ?_)
                dsimp only at hp_216
                obtain ⟨rfl, rfl, rfl, rfl, rfl, rfl, q_217, qho⟩ := hp_216
                refine z_goto (tgt := 168) F dX7_reckons_148 (by decide) ?_
                exact cut_168_144 v_215 H locs ls zv_215 (by rw [vis_1 (by omega)]; exact qho) hH hS (lv_sub hl [0, 1, 2, 3, 4, 5, 6, 7] rfl)
        exact cut_104_25 (((120 - 0) + 1 : Int).toNat) 0 I_1 AI H locs ls ⟨by decide, by decide⟩ hv hT wf (by omega) (fun _ _ _ _ => rfl) (by rw [show (I_1 mo 26).toInt = 0 by omega]; exact gaR_0) (by omega) (by omega) hH hS (lv_sub hl [0, 1, 2, 3, 4, 5] rfl)
      · refine lv_aload_n F.1 F.2.1 dX7_reckons_88 rfl (lv_at hl 2 rfl) ?_
        refine lv_iload_n F.1 F.2.1 dX7_reckons_89 rfl (lv_at hl 3 rfl) ?_
        refine lv_iload_n F.1 F.2.1 dX7_reckons_90 rfl (lv_at hl 4 rfl) ?_
        refine g_callv (g_runV (As := [.int (iI sd), .int (iI rr)]) (rest := []) (ci := 7) F hl.1 hH hS hz (c_X7_groupsf l g gh T lc na bxa I_1 R J AI AJ AR mo sd rr zsd zrr hv hm hT (by omega) (by omega) (by omega) (by omega) (hlg (by omega)) hna hXa (by omega)) (cwV 2 F.2.2.2.2.1 (good_up gT_X7_groups) rfl rfl rfl hdX7_groups ⟨Nat.le_of_ble_eq_true rfl, Nat.le_of_ble_eq_true rfl⟩) hm (by decide) rfl rfl rfl (Nat.le_of_ble_eq_true rfl) dX7_reckons_91 ⟨Nat.zero_le _, Nat.zero_le _⟩) hS (fun I_218 R_219 J_220 AI_221 AJ_222 AR_223 H locs hp_224 hH hS => ?_)
        dsimp only at hp_224
        obtain ⟨rfl, rfl, rfl, rfl, hv, hT, wfq, fWq, qgr⟩ := hp_224
        have wf := wF_t wf wfq
        have u_225_2 : (I_218 mo 2).toInt = (I mo 2).toInt := by rw [wf 2 (by decide)]
        have u_225_5 : (I_218 mo 5).toInt = (I mo 5).toInt := by rw [wf 5 (by decide)]
        have u_225_14 : (I_218 mo 14).toInt = (I mo 14).toInt := by rw [wf 14 (by decide)]
        have u_225_16 : (I_218 mo 16).toInt = (I mo 16).toInt := by rw [wf 16 (by decide)]
        have u_225_24 : (I_218 mo 24).toInt = (I mo 24).toInt := by rw [wf 24 (by decide)]
        have fW5 : ∀ b, b ≠ gh 75 0 → b ≠ gh 77 0 → b ≠ gh 78 0 → b ≠ gh 79 0 → b ≠ gh 80 0 → AI_221 b = AI b := fun b h1 h2 _ _ _ => fWq b h1 h2
        have hrk := rk_1 (sd := sd) (rr := rr) hv0 hm fW5 (fun j _ => by rw [fWq _ (show gh 79 0 ≠ gh 75 0 from mNe hv hm (p := (29, 176)) (q := (25, 9600)) (by decide) (by decide) (by decide)) (show gh 79 0 ≠ gh 77 0 from mNe hv hm (p := (29, 176)) (q := (27, 4)) (by decide) (by decide) (by decide))])
        refine lv_aload_n F.1 F.2.1 dX7_reckons_94 rfl (lv_at hl 2 rfl) ?_
        refine lv_iload_n F.1 F.2.1 dX7_reckons_95 rfl (lv_at hl 3 rfl) ?_
        refine lv_iload_n F.1 F.2.1 dX7_reckons_96 rfl (lv_at hl 4 rfl) ?_
        have b_226 := mJ hv hm
        unfold mNum1 at b_226
        refine g_calli (g_runV (As := [.int (iI sd), .int (iI rr)]) (rest := []) (ci := 7) F hl.1 hH hS hz (c_X7_laysf l g gh T I_218 R J AI_221 AJ AR mo sd rr zsd zrr hv hm hT (by omega) (by omega)) (cwV 2 F.2.2.2.2.1 (good_up gT_X7_lays) rfl rfl rfl hdX7_lays ⟨Nat.le_of_ble_eq_true rfl, Nat.le_of_ble_eq_true rfl⟩) hm (by decide) rfl rfl rfl (Nat.le_of_ble_eq_true rfl) dX7_reckons_97 ⟨Nat.zero_le _, Nat.zero_le _⟩) hS (fun v_233 I_227 R_228 J_229 AI_230 AJ_231 AR_232 H locs zv_233 hp_234 hH hS => ?_)
        dsimp only at hp_234
        obtain ⟨rfl, rfl, rfl, rfl, rfl, hv, hT, haq25, qlf, qly⟩ := hp_234
        have hrk9 := rk_2 hv0 hm hrk qlf qly
        have hsz9 := mSz1 hv hm (z := 16 * sd + rr) (by omega) (by omega)
        have hvw := lay_v (c := lc) (F := rfM gh AI sd) (by omega) hsz9.2 (by omega) (vM_n (by omega)) (by omega) (by rw [vS_7 (by omega) hFa]; exact qgr) qly
        have hz9 := lyP_z qly
        exact g_iret F hr hlk hH hS hz zv_233 ⟨rfl, rfl, rfl, rfl, hv, hT, wf, hrk9, hvw, hz9, (fun h9 => absurd h9 (by omega))⟩ dX7_reckons_100
    · have hbb := hbg (lc.1 3).toNat (by have h9 := cqb (by omega); omega)
      obtain ⟨my, bxb, hFb⟩ : ∃ n f, rfM gh AI sd (lc.1 3).toNat = (n, f) := ⟨_, _, rfl⟩
      unfold bgOK at hbb
      rw [hFb] at hbb
      obtain ⟨hB, hmy1, hzb⟩ := hbb
      have hmy1 : my ≤ 120 := hmy1
      have cqb9 := cqb (by omega)
      obtain ⟨hnb, hXb⟩ := rfM_s (a := tI T (40 * rr + 3)) (n := my) (f := bxb) (by rw [hl3]; exact hFb) (by omega) (mSz1 hv0 hm (z := 16 * sd + tI T (40 * rr + 3)) (by omega) (by omega)).1
      refine lv_aload_n F.1 F.2.1 dX7_reckons_56 rfl (lv_at hl 2 rfl) ?_
      refine lv_iload_n F.1 F.2.1 dX7_reckons_57 rfl (lv_at hl 3 rfl) ?_
      refine lv_iload_n F.1 F.2.1 dX7_reckons_58 rfl (lv_at hl 4 rfl) ?_
      refine g_calli (g_runV (As := [.int (iI sd), .int (iI rr)]) (rest := []) (ci := 7) F hl.1 hH hS hz (c_X7_ringsf l g gh T lc na my bxa bxb I_1 R J AI AJ AR mo sd rr zsd zrr hv hm hT (by omega) (by omega) (by omega) (by omega) (hlr (by omega)) (cqr (by omega)).1 hna hXa hnb hXb (by omega) hA) (cwV 2 F.2.2.2.2.1 (good_up gT_X7_rings) rfl rfl rfl hdX7_rings ⟨Nat.le_of_ble_eq_true rfl, Nat.le_of_ble_eq_true rfl⟩) hm (by decide) rfl rfl rfl (Nat.le_of_ble_eq_true rfl) dX7_reckons_59 ⟨Nat.zero_le _, Nat.zero_le _⟩) hS (fun v_241 I_235 R_236 J_237 AI_238 AJ_239 AR_240 H locs zv_241 hp_242 hH hS => ?_)
      dsimp only at hp_242
      obtain ⟨rfl, rfl, rfl, rfl, hv, hT, wfq, fWq, qrg⟩ := hp_242
      have wf := wF_t wf wfq
      have u_243_2 : (I_235 mo 2).toInt = (I mo 2).toInt := by rw [wf 2 (by decide)]
      have u_243_5 : (I_235 mo 5).toInt = (I mo 5).toInt := by rw [wf 5 (by decide)]
      have u_243_14 : (I_235 mo 14).toInt = (I mo 14).toInt := by rw [wf 14 (by decide)]
      have u_243_16 : (I_235 mo 16).toInt = (I mo 16).toInt := by rw [wf 16 (by decide)]
      have u_243_24 : (I_235 mo 24).toInt = (I mo 24).toInt := by rw [wf 24 (by decide)]
      have hrk := rk_1 (sd := sd) (rr := rr) hv0 hm fWq qrg.2.2.2
      refine lv_istore (lv' := [(5, .int (iI v_241)), (4, .int (iI v_19)), (3, .int (iI v_11)), (0, .ref mo), (1, .int (iI sd)), (2, .int (iI rr))]) F.1 F.2.1 dX7_reckons_62 hl (by decide) rfl (fun ls hl => ?_)
      refine lv_iload F.1 F.2.1 dX7_reckons_64 (lv_at hl 0 rfl) ?_
      refine z_if_ge (tgt := 74) F dX7_reckons_66 (by decide) zv_241 (fun c_244 => ?_) (fun c_244 => ?_)
      · refine lv_aload_n F.1 F.2.1 dX7_reckons_74 rfl (lv_at hl 3 rfl) ?_
        refine lv_iload_n F.1 F.2.1 dX7_reckons_75 rfl (lv_at hl 4 rfl) ?_
        refine lv_iload_n F.1 F.2.1 dX7_reckons_76 rfl (lv_at hl 5 rfl) ?_
        have b_245 := mJ hv hm
        unfold mNum1 at b_245
        refine g_calli (g_runV (As := [.int (iI sd), .int (iI rr)]) (rest := []) (ci := 7) F hl.1 hH hS hz (c_X7_laysf l g gh T I_235 R J AI_238 AJ AR mo sd rr zsd zrr hv hm hT (by omega) (by omega)) (cwV 2 F.2.2.2.2.1 (good_up gT_X7_lays) rfl rfl rfl hdX7_lays ⟨Nat.le_of_ble_eq_true rfl, Nat.le_of_ble_eq_true rfl⟩) hm (by decide) rfl rfl rfl (Nat.le_of_ble_eq_true rfl) dX7_reckons_77 ⟨Nat.zero_le _, Nat.zero_le _⟩) hS (fun v_252 I_246 R_247 J_248 AI_249 AJ_250 AR_251 H locs zv_252 hp_253 hH hS => ?_)
        dsimp only at hp_253
        obtain ⟨rfl, rfl, rfl, rfl, rfl, hv, hT, haq25, qlf, qly⟩ := hp_253
        have hrk9 := rk_2 hv0 hm hrk qlf qly
        have hsz9 := mSz1 hv hm (z := 16 * sd + rr) (by omega) (by omega)
        obtain ⟨R9, qr1, qr2⟩ := qrg.2.1 (by omega)
        have hry := lay_8 (by omega) hsz9.2 (by omega) qr1 qly
        exact g_iret F hr hlk hH hS hz zv_252 ⟨rfl, rfl, rfl, rfl, hv, hT, wf, hrk9, vw_8 (F := rfM gh AI sd) (by omega) hFa hFb (Or.inl ⟨hry.1, R9, hry.2⟩), (by have h9 := hry.1; omega), (by rw [hFa, hFb]; exact fun _ _ => ⟨R9, hry.2, (by (try dsimp only); rw [qlf _ (show gh 79 0 ≠ gh 56 0 from mNe hv hm (p := (29, 176)) (q := (6, 126720)) (by decide) (by decide) (by decide)) (show gh 79 0 ≠ gh 57 0 from mNe hv hm (p := (29, 176)) (q := (7, 176)) (by decide) (by decide) (by decide))]; exact qr2)⟩)⟩ dX7_reckons_80
      · refine lv_iload F.1 F.2.1 dX7_reckons_69 (lv_at hl 0 rfl) ?_
        refine z_goto (tgt := 80) F dX7_reckons_71 (by decide) ?_
        exact g_iret F hr hlk hH hS hz zv_241 ⟨rfl, rfl, rfl, rfl, hv, hT, wf, hrk, vw_8 (F := rfM gh AI sd) (by omega) hFa hFb (rgP_z qrg.1 (by omega)), qrg.2.2.1, (fun _ h9 => absurd h9 (by omega))⟩ dX7_reckons_80
  · have hbb := hbg (lc.1 3).toNat (by have h9 := cqb (by omega); omega)
    obtain ⟨my, bxb, hFb⟩ : ∃ n f, rfM gh AI sd (lc.1 3).toNat = (n, f) := ⟨_, _, rfl⟩
    unfold bgOK at hbb
    rw [hFb] at hbb
    obtain ⟨hB, hmy1, hzb⟩ := hbb
    have hmy1 : my ≤ 120 := hmy1
    have cqb9 := cqb (by omega)
    obtain ⟨hnb, hXb⟩ := rfM_s (a := tI T (40 * rr + 3)) (n := my) (f := bxb) (by rw [hl3]; exact hFb) (by omega) (mSz1 hv0 hm (z := 16 * sd + tI T (40 * rr + 3)) (by omega) (by omega)).1
    refine lv_aload_n F.1 F.2.1 dX7_reckons_24 rfl (lv_at hl 2 rfl) ?_
    refine lv_iload_n F.1 F.2.1 dX7_reckons_25 rfl (lv_at hl 3 rfl) ?_
    refine lv_iload_n F.1 F.2.1 dX7_reckons_26 rfl (lv_at hl 4 rfl) ?_
    refine g_calli (g_runV (As := [.int (iI sd), .int (iI rr)]) (rest := []) (ci := 7) F hl.1 hH hS hz (c_X7_joinsf l g gh T lc na my bxa bxb I_1 R J AI AJ AR mo sd rr zsd zrr hv hm hT (by omega) (by omega) (by omega) (by omega) (hlj (by omega)) (cqj (by omega)).1 hna hXa hnb hXb (by rw [(cqj (by omega)).2.1]; exact hza) (by omega)) (cwV 2 F.2.2.2.2.1 (good_up gT_X7_joins) rfl rfl rfl hdX7_joins ⟨Nat.le_of_ble_eq_true rfl, Nat.le_of_ble_eq_true rfl⟩) hm (by decide) rfl rfl rfl (Nat.le_of_ble_eq_true rfl) dX7_reckons_27 ⟨Nat.zero_le _, Nat.zero_le _⟩) hS (fun v_260 I_254 R_255 J_256 AI_257 AJ_258 AR_259 H locs zv_260 hp_261 hH hS => ?_)
    dsimp only at hp_261
    obtain ⟨rfl, rfl, rfl, rfl, hv, hT, wfq, fWq, qjn⟩ := hp_261
    have wf := wF_t wf wfq
    have u_262_2 : (I_254 mo 2).toInt = (I mo 2).toInt := by rw [wf 2 (by decide)]
    have u_262_5 : (I_254 mo 5).toInt = (I mo 5).toInt := by rw [wf 5 (by decide)]
    have u_262_14 : (I_254 mo 14).toInt = (I mo 14).toInt := by rw [wf 14 (by decide)]
    have u_262_16 : (I_254 mo 16).toInt = (I mo 16).toInt := by rw [wf 16 (by decide)]
    have u_262_24 : (I_254 mo 24).toInt = (I mo 24).toInt := by rw [wf 24 (by decide)]
    have fW5 : ∀ b, b ≠ gh 75 0 → b ≠ gh 77 0 → b ≠ gh 78 0 → b ≠ gh 79 0 → b ≠ gh 80 0 → AI_257 b = AI b := fun b h1 h2 _ _ _ => fWq b h1 h2
    have hrk := rk_1 (sd := sd) (rr := rr) hv0 hm fW5 (fun j _ => by rw [fWq _ (show gh 79 0 ≠ gh 75 0 from mNe hv hm (p := (29, 176)) (q := (25, 9600)) (by decide) (by decide) (by decide)) (show gh 79 0 ≠ gh 77 0 from mNe hv hm (p := (29, 176)) (q := (27, 4)) (by decide) (by decide) (by decide))])
    refine lv_istore (lv' := [(5, .int (iI v_260)), (4, .int (iI v_19)), (3, .int (iI v_11)), (0, .ref mo), (1, .int (iI sd)), (2, .int (iI rr))]) F.1 F.2.1 dX7_reckons_30 hl (by decide) rfl (fun ls hl => ?_)
    refine lv_iload F.1 F.2.1 dX7_reckons_32 (lv_at hl 0 rfl) ?_
    refine z_if_ge (tgt := 42) F dX7_reckons_34 (by decide) zv_260 (fun c_263 => ?_) (fun c_263 => ?_)
    · refine lv_aload_n F.1 F.2.1 dX7_reckons_42 rfl (lv_at hl 3 rfl) ?_
      refine lv_iload_n F.1 F.2.1 dX7_reckons_43 rfl (lv_at hl 4 rfl) ?_
      refine lv_iload_n F.1 F.2.1 dX7_reckons_44 rfl (lv_at hl 5 rfl) ?_
      have b_264 := mJ hv hm
      unfold mNum1 at b_264
      refine g_calli (g_runV (As := [.int (iI sd), .int (iI rr)]) (rest := []) (ci := 7) F hl.1 hH hS hz (c_X7_laysf l g gh T I_254 R J AI_257 AJ AR mo sd rr zsd zrr hv hm hT (by omega) (by omega)) (cwV 2 F.2.2.2.2.1 (good_up gT_X7_lays) rfl rfl rfl hdX7_lays ⟨Nat.le_of_ble_eq_true rfl, Nat.le_of_ble_eq_true rfl⟩) hm (by decide) rfl rfl rfl (Nat.le_of_ble_eq_true rfl) dX7_reckons_45 ⟨Nat.zero_le _, Nat.zero_le _⟩) hS (fun v_271 I_265 R_266 J_267 AI_268 AJ_269 AR_270 H locs zv_271 hp_272 hH hS => ?_)
      dsimp only at hp_272
      obtain ⟨rfl, rfl, rfl, rfl, rfl, hv, hT, haq25, qlf, qly⟩ := hp_272
      have hrk9 := rk_2 hv0 hm hrk qlf qly
      have hsz9 := mSz1 hv hm (z := 16 * sd + rr) (by omega) (by omega)
      obtain ⟨-, qj1, qj2⟩ := qjn.resolve_right (fun h => by omega)
      have hvw := lay_v (c := lc) (F := rfM gh AI sd) (by omega) hsz9.2 (by omega) (fun h9 => qj1 ((vM_3 (by omega) hFa hFb).mp h9)) (by omega) (by rw [vS_3 (by omega) hFa hFb]; exact qj2) qly
      have hz9 := lyP_z qly
      exact g_iret F hr hlk hH hS hz zv_271 ⟨rfl, rfl, rfl, rfl, hv, hT, wf, hrk9, hvw, hz9, (fun h9 => absurd h9 (by omega))⟩ dX7_reckons_48
    · refine lv_iload F.1 F.2.1 dX7_reckons_37 (lv_at hl 0 rfl) ?_
      refine z_goto (tgt := 48) F dX7_reckons_39 (by decide) ?_
      exact g_iret F hr hlk hH hS hz zv_260 ⟨rfl, rfl, rfl, rfl, hv, hT, wf, hrk, vw_3 (F := rfM gh AI sd) (by omega) hFa hFb (Or.inr ⟨(qjn.resolve_left (fun h9 => by omega)).1, Or.inl (qjn.resolve_left (fun h9 => by omega)).2⟩), (by have h9 := (qjn.resolve_left (fun h9 => by omega)).1; omega), (fun h9 => absurd h9 (by omega))⟩ dX7_reckons_48
