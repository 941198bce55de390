def rmX7_changesOff : Room := { frames := 3, cells := 0, slots := 0, locals := 71 }
set_option maxHeartbeats 4000000 in
set_option maxRecDepth 100000 in
/-- a table with its changes -/
theorem c_X7_changesOff (l : Launch) (g : gG) (gh : gGh) (T : Nat → Int32) (na nb : Nat) (bxa bf : Nat → Int32) (I : gI) (R : gR) (J : gJ) (AI : gI) (AJ : gJ) (AR : gR) (mo : Nat) (sd : Int) (rr : Int) (zsd : zr sd) (zrr : zr rr) (hv : mInv g gh R I AI) (hm : gO g mo 7) (hT : AI (gh 50 0) = T) (hs : 0 ≤ sd ∧ sd ≤ 10) (hr0 : 0 ≤ rr ∧ rr ≤ 15) (hna : tI (AI (gh 57 0)) (16 * sd + rr) = (na : Int)) (hXa : ∀ q : Nat, q < 720 → AI (gh 56 0) ((11520 * sd + 720 * rr).toNat + q) = bxa q) (h120 : na ≤ 120) (hA : okB bxa na) (hnb : (I mo 14).toInt = (nb : Int)) (hbf : rbE (AI (gh 61 0)) (AI (gh 62 0)) (AI (gh 63 0)) bf nb) (hbt : btO bf nb) : gMet l g yX7_changesOf tsX7_changesOf rmX7_changesOff [.ref mo, .int (iI sd), .int (iI rr)] (I, R, J, AI, AJ, AR) (gQi g (fun (z : Int) (w : gS) => R = w.2.1 ∧ J = w.2.2.1 ∧ AJ = w.2.2.2.2.1 ∧ AR = w.2.2.2.2.2 ∧ (mInv g gh R (w.1) (w.2.2.2.1)) ∧ ((w.2.2.2.1) (gh 50 0) = T) ∧ (wF mo I (w.1)) ∧ (z = 0 ∨ z = 1) ∧ (∀ b, b ≠ gh 75 0 → b ≠ gh 77 0 → (w.2.2.2.1) b = AI b) ∧ (gaX ((w.2.2.2.1) (gh 75 0)) ((w.1) mo 26).toInt.toNat (pbX bxa na bf rr nb) (sbX bxa na bf rr nb)) ∧ (tIz z (lowX bxa na bf rr nb)))) := by
  refine gStart (cc := cX7_changesOf) (maxL := 6) (ret := (some (.boolean))) (by decide) rfl (Nat.le_of_ble_eq_true rfl) ?_
  intro p e s m below meth c ls F hr hlk hH hz hS hl
  have hl : lv_has ls 6 [(0, .ref mo), (1, .int (iI sd)), (2, .int (iI rr))] := hl
  have hS : va_S (gA g) s.heap s.heap [] := hS
  obtain ⟨H, hHe⟩ : ∃ H : Heap, H = s.heap := ⟨_, rfl⟩
  obtain ⟨locs, hlo⟩ : ∃ k : List Loc, k = [] := ⟨_, rfl⟩
  have hH : gH g I R J AI AJ AR H := by rw [hHe]; exact hH
  have hS : va_S (gA g) s.heap H locs := by rw [hHe, hlo]; exact hS
  suffices hw : W p l e rmX7_changesOff s m ([.ref mo, .int (iI sd), .int (iI rr)] : List Value).toArray below meth c H locs 0 0 (MQ below (gQi g (fun (z : Int) (w : gS) => R = w.2.1 ∧ J = w.2.2.1 ∧ AJ = w.2.2.2.2.1 ∧ AR = w.2.2.2.2.2 ∧ (mInv g gh R (w.1) (w.2.2.2.1)) ∧ ((w.2.2.2.1) (gh 50 0) = T) ∧ (wF mo I (w.1)) ∧ (z = 0 ∨ z = 1) ∧ (∀ b, b ≠ gh 75 0 → b ≠ gh 77 0 → (w.2.2.2.1) b = AI b) ∧ (gaX ((w.2.2.2.1) (gh 75 0)) ((w.1) mo 26).toInt.toNat (pbX bxa na bf rr nb) (sbX bxa na bf rr nb)) ∧ (tIz z (lowX bxa na bf rr nb)))) ([.ref mo, .int (iI sd), .int (iI rr)] : List Value).toArray s 0 0 (gA g)) (F0 m 0 ls []) by
    rw [hHe, hlo] at hw; exact hw
  clear hHe hlo
  have wf : wF mo I I := wF_r
  have iX7 : ∀ w ∈ u_ws RX7 TX7 32, w ∈ tsX7_changesOf := fun w h => List.mem_cons_of_mem _ (inTB7 w h)
  have k269 : Cond.fieldLink RX7 269 (TX7 26).1 (TX7 26).2.1 (TX7 26).2.2.1 ∈ tsX7_changesOf := List.mem_cons_of_mem _ fl_269
  have k24 : Cond.fieldLink RX7 24 (TX7 6).1 (TX7 6).2.1 (TX7 6).2.2.1 ∈ tsX7_changesOf := List.mem_cons_of_mem _ fl_24
  have k266 : Cond.fieldLink RX7 266 (TX7 14).1 (TX7 14).2.1 (TX7 14).2.2.1 ∈ tsX7_changesOf := List.mem_cons_of_mem _ fl_266
  have k30 : Cond.fieldLink RX7 30 (TX7 11).1 (TX7 11).2.1 (TX7 11).2.2.1 ∈ tsX7_changesOf := List.mem_cons_of_mem _ fl_30
  have k45 : Cond.fieldLink RX7 45 (TX7 27).1 (TX7 27).2.1 (TX7 27).2.2.1 ∈ tsX7_changesOf := List.mem_cons_of_mem _ fl_45
  have k33 : Cond.fieldLink RX7 33 (TX7 12).1 (TX7 12).2.1 (TX7 12).2.2.1 ∈ tsX7_changesOf := List.mem_cons_of_mem _ fl_33
  have k36 : Cond.fieldLink RX7 36 (TX7 13).1 (TX7 13).2.1 (TX7 13).2.2.1 ∈ tsX7_changesOf := List.mem_cons_of_mem _ fl_36
  have k42 : Cond.fieldLink RX7 42 (TX7 25).1 (TX7 25).2.1 (TX7 25).2.2.1 ∈ tsX7_changesOf := List.mem_cons_of_mem _ fl_42
  refine lv_aload_n F.1 F.2.1 dX7_changesOf_0 rfl (lv_at hl 0 rfl) ?_
  refine z_iconst F dX7_changesOf_1 ?_
  refine g_putI (ci := 7) (k := 26) F hH hS rfl (by decide) iX7 hm (by decide) tyX7 tyX7_ok nmX7 rfl rfl rfl k269 dX7_changesOf_2 (fun H locs hH hS => ?_)
  obtain ⟨I_1, eI_1⟩ : ∃ qQ, qQ = gup2 I mo 26 (iI (0)) := ⟨_, rfl⟩
  rw [← eI_1] at hH
  have kI_1 : ∀ b, b ≠ mo → I_1 b = I b := fun b hb => by rw [eI_1]; exact funext fun j => gup2_a _ _ hb
  have w_2 : (I_1 mo 26).toInt = 0 := by rw [eI_1, gup2_s]; exact iI_val ⟨by decide, by decide⟩
  have hv : mInv g gh R I_1 AI := by rw [eI_1]; exact mP26 hv hm (by omega) (by omega)
  have wf : wF mo I I_1 := wF_t wf (by rw [eI_1]; exact wF_p)
  have u_3_2 : (I_1 mo 2).toInt = (I mo 2).toInt := by rw [wf 2 (by decide)]
  have u_3_5 : (I_1 mo 5).toInt = (I mo 5).toInt := by rw [wf 5 (by decide)]
  have u_3_14 : (I_1 mo 14).toInt = (I mo 14).toInt := by rw [wf 14 (by decide)]
  have u_3_16 : (I_1 mo 16).toInt = (I mo 16).toInt := by rw [wf 16 (by decide)]
  have u_3_24 : (I_1 mo 24).toInt = (I mo 24).toInt := by rw [wf 24 (by decide)]
  refine z_iconst F dX7_changesOf_5 ?_
  refine lv_istore_n (lv' := [(3, .int (iI 1)), (0, .ref mo), (1, .int (iI sd)), (2, .int (iI rr))]) F.1 F.2.1 dX7_changesOf_6 rfl hl (by decide) rfl (fun ls hl => ?_)
  refine z_iconst F dX7_changesOf_7 ?_
  refine lv_istore (lv' := [(4, .int (iI 0)), (3, .int (iI 1)), (0, .ref mo), (1, .int (iI sd)), (2, .int (iI rr))]) F.1 F.2.1 dX7_changesOf_8 hl (by decide) rfl (fun ls hl => ?_)
  have cut_10_5 : ∀ (NN : Nat) (an i : Int) (I_4 : gI) (AI_5 : gI) (H : Heap) (locs : List Loc) (ls : Array Slot), zr an → zr i → (mInv g gh R I_4 AI_5) → (AI_5 (gh 50 0) = T) → (wF mo I I_4) → (0 ≤ i ∧ i ≤ 120 ∧ (I_4 mo 26).toInt ≤ i) → (∀ b, b ≠ gh 75 0 → b ≠ gh 77 0 → AI_5 b = AI b) → (gaX (AI_5 (gh 75 0)) (I_4 mo 26).toInt.toNat (paX bxa i.toNat) (s1X bxa i.toNat)) → (i ≤ (na : Int)) → (120 - i) < ((NN : Nat) : Int) → gH g I_4 R J AI_5 AJ AR H → va_S (gA g) s.heap H locs → lv_has ls 6 [(4, .int (iI i)), (3, .int (iI an)), (0, .ref mo), (1, .int (iI sd)), (2, .int (iI rr))] → W p l e rmX7_changesOff s m ([.ref mo, .int (iI sd), .int (iI rr)] : List Value).toArray below meth c H locs 0 0 (MQ below (gQi g (fun (z : Int) (w : gS) => R = w.2.1 ∧ J = w.2.2.1 ∧ AJ = w.2.2.2.2.1 ∧ AR = w.2.2.2.2.2 ∧ (mInv g gh R (w.1) (w.2.2.2.1)) ∧ ((w.2.2.2.1) (gh 50 0) = T) ∧ (wF mo I (w.1)) ∧ (z = 0 ∨ z = 1) ∧ (∀ b, b ≠ gh 75 0 → b ≠ gh 77 0 → (w.2.2.2.1) b = AI b) ∧ (gaX ((w.2.2.2.1) (gh 75 0)) ((w.1) mo 26).toInt.toNat (pbX bxa na bf rr nb) (sbX bxa na bf rr nb)) ∧ (tIz z (lowX bxa na bf rr nb)))) ([.ref mo, .int (iI sd), .int (iI rr)] : List Value).toArray s 0 0 (gA g)) (F0 m 10 ls []) := by
    intro NN10
    induction NN10 with
    | zero =>
      intro an i I_4 AI_5 H locs ls zan zi hv hT wf hi fW hgx hin hm10 hH hS hl
      exact absurd hm10 (by omega)
    | succ NN10 ih10 =>
      intro an i I_4 AI_5 H locs ls zan zi hv hT wf hi fW hgx hin hm10 hH hS hl
      have uc_2 : (I_4 mo 2).toInt = (I mo 2).toInt := by rw [wf 2 (by decide)]
      have uc_5 : (I_4 mo 5).toInt = (I mo 5).toInt := by rw [wf 5 (by decide)]
      have uc_14 : (I_4 mo 14).toInt = (I mo 14).toInt := by rw [wf 14 (by decide)]
      have uc_16 : (I_4 mo 16).toInt = (I mo 16).toInt := by rw [wf 16 (by decide)]
      have uc_24 : (I_4 mo 24).toInt = (I mo 24).toInt := by rw [wf 24 (by decide)]
      have h56 : AI_5 (gh 56 0) = AI (gh 56 0) := fW _ (show gh 56 0 ≠ gh 75 0 from mNe hv hm (p := (6, 126720)) (q := (25, 9600)) (by decide) (by decide) (by decide)) (show gh 56 0 ≠ gh 77 0 from mNe hv hm (p := (6, 126720)) (q := (27, 4)) (by decide) (by decide) (by decide))
      have h57 : AI_5 (gh 57 0) = AI (gh 57 0) := fW _ (show gh 57 0 ≠ gh 75 0 from mNe hv hm (p := (7, 176)) (q := (25, 9600)) (by decide) (by decide) (by decide)) (show gh 57 0 ≠ gh 77 0 from mNe hv hm (p := (7, 176)) (q := (27, 4)) (by decide) (by decide) (by decide))
      refine lv_iload F.1 F.2.1 dX7_changesOf_10 (lv_at hl 0 rfl) ?_
      refine lv_aload_n F.1 F.2.1 dX7_changesOf_12 rfl (lv_at hl 2 rfl) ?_
      refine lv_iload_n F.1 F.2.1 dX7_changesOf_13 rfl (lv_at hl 3 rfl) ?_
      refine lv_iload_n F.1 F.2.1 dX7_changesOf_14 rfl (lv_at hl 4 rfl) ?_
      have b_7 := mJ hv hm
      unfold mNum1 at b_7
      refine g_calli (g_runV (As := [.int (iI sd), .int (iI rr)]) (rest := [.int (iI i)]) (ci := 7) F hl.1 hH hS hz (c_X7_sizeOf l g gh T I_4 R J AI_5 AJ AR mo sd rr zsd zrr hv hm hT (by omega) (by omega)) (cwV 2 F.2.2.2.2.1 (good_up gT_X7_sizeOf) rfl rfl rfl hdX7_sizeOf ⟨Nat.le_of_ble_eq_true rfl, Nat.le_of_ble_eq_true rfl⟩) hm (by decide) rfl rfl rfl (Nat.le_of_ble_eq_true rfl) dX7_changesOf_15 ⟨Nat.zero_le _, Nat.zero_le _⟩) hS (fun v_14 I_8 R_9 J_10 AI_11 AJ_12 AR_13 H locs zv_14 hp_15 hH hS => ?_)
      dsimp only at hp_15
      obtain ⟨rfl, rfl, rfl, rfl, rfl, rfl, q_16, qz15⟩ := hp_15
      have hs15 : v_14 = (na : Int) := by rw [qz15, h57]; exact hna
      refine z_icmp_ge (tgt := 58) F dX7_changesOf_18 (by decide) zi zv_14 (fun c_17 => ?_) (fun c_17 => ?_)
      · have hgx9 := gx_2 (b := bf) (rr := rr) hA (by rw [show i.toNat = na by omega] at hgx; exact hgx)
        refine z_iconst F dX7_changesOf_58 ?_
        refine lv_istore (lv' := [(4, .int (iI 0)), (3, .int (iI an)), (0, .ref mo), (1, .int (iI sd)), (2, .int (iI rr))]) F.1 F.2.1 dX7_changesOf_59 hl (by decide) rfl (fun ls hl => ?_)
        have cut_61_19 : ∀ (NN : Nat) (an k : Int) (I_18 : gI) (AI_19 : gI) (H : Heap) (locs : List Loc) (ls : Array Slot), zr an → zr k → (mInv g gh R I_18 AI_19) → (AI_19 (gh 50 0) = T) → (wF mo I I_18) → (0 ≤ k ∧ k ≤ 40 ∧ (I_18 mo 26).toInt ≤ 120 + k) → (∀ b, b ≠ gh 75 0 → b ≠ gh 77 0 → AI_19 b = AI b) → (gaX (AI_19 (gh 75 0)) (I_18 mo 26).toInt.toNat (pbX bxa na bf rr k.toNat) (sbX bxa na bf rr k.toNat)) → (k ≤ (nb : Int)) → (40 - k) < ((NN : Nat) : Int) → gH g I_18 R J AI_19 AJ AR H → va_S (gA g) s.heap H locs → lv_has ls 6 [(4, .int (iI k)), (3, .int (iI an)), (0, .ref mo), (1, .int (iI sd)), (2, .int (iI rr))] → W p l e rmX7_changesOff s m ([.ref mo, .int (iI sd), .int (iI rr)] : List Value).toArray below meth c H locs 0 0 (MQ below (gQi g (fun (z : Int) (w : gS) => R = w.2.1 ∧ J = w.2.2.1 ∧ AJ = w.2.2.2.2.1 ∧ AR = w.2.2.2.2.2 ∧ (mInv g gh R (w.1) (w.2.2.2.1)) ∧ ((w.2.2.2.1) (gh 50 0) = T) ∧ (wF mo I (w.1)) ∧ (z = 0 ∨ z = 1) ∧ (∀ b, b ≠ gh 75 0 → b ≠ gh 77 0 → (w.2.2.2.1) b = AI b) ∧ (gaX ((w.2.2.2.1) (gh 75 0)) ((w.1) mo 26).toInt.toNat (pbX bxa na bf rr nb) (sbX bxa na bf rr nb)) ∧ (tIz z (lowX bxa na bf rr nb)))) ([.ref mo, .int (iI sd), .int (iI rr)] : List Value).toArray s 0 0 (gA g)) (F0 m 61 ls []) := by
          intro NN61
          induction NN61 with
          | zero =>
            intro an k I_18 AI_19 H locs ls zan zk hv hT wf hk1 fW hgx hkn hm61 hH hS hl
            exact absurd hm61 (by omega)
          | succ NN61 ih61 =>
            intro an k I_18 AI_19 H locs ls zan zk hv hT wf hk1 fW hgx hkn hm61 hH hS hl
            have uc_2 : (I_18 mo 2).toInt = (I mo 2).toInt := by rw [wf 2 (by decide)]
            have uc_5 : (I_18 mo 5).toInt = (I mo 5).toInt := by rw [wf 5 (by decide)]
            have uc_14 : (I_18 mo 14).toInt = (I mo 14).toInt := by rw [wf 14 (by decide)]
            have uc_16 : (I_18 mo 16).toInt = (I mo 16).toInt := by rw [wf 16 (by decide)]
            have uc_24 : (I_18 mo 24).toInt = (I mo 24).toInt := by rw [wf 24 (by decide)]
            have h56 : AI_19 (gh 56 0) = AI (gh 56 0) := fW _ (show gh 56 0 ≠ gh 75 0 from mNe hv hm (p := (6, 126720)) (q := (25, 9600)) (by decide) (by decide) (by decide)) (show gh 56 0 ≠ gh 77 0 from mNe hv hm (p := (6, 126720)) (q := (27, 4)) (by decide) (by decide) (by decide))
            have h57 : AI_19 (gh 57 0) = AI (gh 57 0) := fW _ (show gh 57 0 ≠ gh 75 0 from mNe hv hm (p := (7, 176)) (q := (25, 9600)) (by decide) (by decide) (by decide)) (show gh 57 0 ≠ gh 77 0 from mNe hv hm (p := (7, 176)) (q := (27, 4)) (by decide) (by decide) (by decide))
            have e61 : AI_19 (gh 61 0) = AI (gh 61 0) := fW _ (show gh 61 0 ≠ gh 75 0 from mNe hv hm (p := (11, 41)) (q := (25, 9600)) (by decide) (by decide) (by decide)) (show gh 61 0 ≠ gh 77 0 from mNe hv hm (p := (11, 41)) (q := (27, 4)) (by decide) (by decide) (by decide))
            have e62 : AI_19 (gh 62 0) = AI (gh 62 0) := fW _ (show gh 62 0 ≠ gh 75 0 from mNe hv hm (p := (12, 164)) (q := (25, 9600)) (by decide) (by decide) (by decide)) (show gh 62 0 ≠ gh 77 0 from mNe hv hm (p := (12, 164)) (q := (27, 4)) (by decide) (by decide) (by decide))
            have e63 : AI_19 (gh 63 0) = AI (gh 63 0) := fW _ (show gh 63 0 ≠ gh 75 0 from mNe hv hm (p := (13, 41)) (q := (25, 9600)) (by decide) (by decide) (by decide)) (show gh 63 0 ≠ gh 77 0 from mNe hv hm (p := (13, 41)) (q := (27, 4)) (by decide) (by decide) (by decide))
            refine lv_iload F.1 F.2.1 dX7_changesOf_61 (lv_at hl 0 rfl) ?_
            refine lv_aload_n F.1 F.2.1 dX7_changesOf_63 rfl (lv_at hl 2 rfl) ?_
            refine g_getI (ci := 7) (k := 14) F hH rfl (by decide) iX7 hm (by decide) rfl k266 dX7_changesOf_64 ?_
            have b_21 := mJ hv hm
            unfold mNum1 at b_21
            refine z_icmp_ge (tgt := 149) F dX7_changesOf_67 (by decide) zk (zr_t _) (fun c_22 => ?_) (fun c_22 => ?_)
            · rw [show k.toNat = nb by omega] at hgx
              refine z_iconst F dX7_changesOf_149 ?_
              refine lv_istore (lv' := [(4, .int (iI 0)), (3, .int (iI an)), (0, .ref mo), (1, .int (iI sd)), (2, .int (iI rr))]) F.1 F.2.1 dX7_changesOf_150 hl (by decide) rfl (fun ls hl => ?_)
              have cut_152_22 : ∀ (NN : Nat) (k : Int) (H : Heap) (locs : List Loc) (ls : Array Slot), zr k → (0 ≤ k ∧ k ≤ (I_18 mo 26).toInt) → (∀ i : Nat, (i : Int) < k → 0 ≤ (AI_19 (gh 75 0) (6 * i + 4)).toInt) → ((I_18 mo 26).toInt - k) < ((NN : Nat) : Int) → gH g I_18 R J AI_19 AJ AR H → va_S (gA g) s.heap H locs → lv_has ls 6 [(4, .int (iI k)), (3, .int (iI an)), (0, .ref mo), (1, .int (iI sd)), (2, .int (iI rr))] → W p l e rmX7_changesOff s m ([.ref mo, .int (iI sd), .int (iI rr)] : List Value).toArray below meth c H locs 0 0 (MQ below (gQi g (fun (z : Int) (w : gS) => R = w.2.1 ∧ J = w.2.2.1 ∧ AJ = w.2.2.2.2.1 ∧ AR = w.2.2.2.2.2 ∧ (mInv g gh R (w.1) (w.2.2.2.1)) ∧ ((w.2.2.2.1) (gh 50 0) = T) ∧ (wF mo I (w.1)) ∧ (z = 0 ∨ z = 1) ∧ (∀ b, b ≠ gh 75 0 → b ≠ gh 77 0 → (w.2.2.2.1) b = AI b) ∧ (gaX ((w.2.2.2.1) (gh 75 0)) ((w.1) mo 26).toInt.toNat (pbX bxa na bf rr nb) (sbX bxa na bf rr nb)) ∧ (tIz z (lowX bxa na bf rr nb)))) ([.ref mo, .int (iI sd), .int (iI rr)] : List Value).toArray s 0 0 (gA g)) (F0 m 152 ls []) := by
                intro NN152
                induction NN152 with
                | zero =>
                  intro k H locs ls zk hk3 hnn hm152 hH hS hl
                  exact absurd hm152 (by omega)
                | succ NN152 ih152 =>
                  intro k H locs ls zk hk3 hnn hm152 hH hS hl
                  refine lv_iload F.1 F.2.1 dX7_changesOf_152 (lv_at hl 0 rfl) ?_
                  refine lv_aload_n F.1 F.2.1 dX7_changesOf_154 rfl (lv_at hl 2 rfl) ?_
                  refine g_getI (ci := 7) (k := 26) F hH rfl (by decide) iX7 hm (by decide) rfl k269 dX7_changesOf_155 ?_
                  refine z_icmp_ge (tgt := 184) F dX7_changesOf_158 (by decide) zk (zr_t _) (fun c_24 => ?_) (fun c_24 => ?_)
                  · refine z_iconst F dX7_changesOf_184 ?_
                    exact g_zret F hr hlk hH hS hz (by omega) ⟨rfl, rfl, rfl, rfl, hv, hT, wf, by first | omega | rfl | (dsimp only; omega), fW, hgx, tIz_f (low_n hgx (fun i hi => hnn i (by omega)))⟩ dX7_changesOf_185
                  · refine lv_aload_n F.1 F.2.1 dX7_changesOf_161 rfl (lv_at hl 2 rfl) ?_
                    obtain ⟨r_25a, r_25b⟩ : R mo 25 = some (gh 75 0) ∧ gAr g (gh 75 0) 9 9600 := mR hv hm (q := (25, 9600)) (by decide)
                    refine g_getR (ci := 7) (k := 25) F hH rfl (by decide) iX7 hm (by decide) rfl (b := gh 75 0) r_25a k42 dX7_changesOf_162 ?_
                    refine z_bipush F dX7_changesOf_165 (by decide) ?_
                    refine lv_iload F.1 F.2.1 dX7_changesOf_167 (lv_at hl 0 rfl) ?_
                    refine z_imul F dX7_changesOf_169 ?_
                    refine z_iconst F dX7_changesOf_170 ?_
                    refine z_iadd F dX7_changesOf_171 ?_
                    have hx172 : 0 ≤ ((6 * k) + 4) ∧ ((6 * k) + 4) < ((9600 : Nat) : Int) ∧ ((6 * k) + 4) ≤ 2147483647 := ⟨by omega, by omega, by omega⟩
                    refine g_iald F hH r_25b hx172.1 hx172.2.1 hx172.2.2 dX7_changesOf_172 ?_
                    refine z_name (fun v_26 ev_26 => ?_)
                    have zv_26 : zr v_26 := by rw [ev_26]; exact zr_t _
                    have c172 : v_26 = (AI_19 (gh 75 0) (6 * k.toNat + 4)).toInt := by rw [ev_26, show (6 * k + 4).toNat = 6 * k.toNat + 4 by omega]
                    refine z_if_ge (tgt := 178) F dX7_changesOf_173 (by decide) zv_26 (fun c_27 => ?_) (fun c_27 => ?_)
                    · refine z_iinc (lv' := [(4, .int (iI (k + 1))), (3, .int (iI an)), (0, .ref mo), (1, .int (iI sd)), (2, .int (iI rr))]) F dX7_changesOf_178 hl (k := 0) rfl (by decide) rfl (fun ls hl => ?_)
                      refine z_goto (tgt := 152) F dX7_changesOf_181 (by decide) ?_
                      exact ih152 (k + 1) H locs ls ⟨by omega, by omega⟩ (by omega) (fun i hi => by by_cases e9 : (i : Int) = k; (· rw [show i = k.toNat by omega, ← c172]; omega); (· exact hnn i (by omega))) (by omega) hH hS (lv_sub hl [0, 1, 2, 3, 4] rfl)
                    · refine z_iconst F dX7_changesOf_176 ?_
                      exact g_zret F hr hlk hH hS hz (by omega) ⟨rfl, rfl, rfl, rfl, hv, hT, wf, by first | omega | rfl | (dsimp only; omega), fW, hgx, tIz_t (low_y hgx (i := k.toNat) (by omega) (by rw [← c172]; omega))⟩ dX7_changesOf_177
              exact cut_152_22 ((((I_18 mo 26).toInt - 0) + 1 : Int).toNat) 0 H locs ls ⟨by decide, by decide⟩ (by omega) (fun j hj => absurd hj (by omega)) (by omega) hH hS (lv_sub hl [0, 1, 2, 3, 4] rfl)
            · refine lv_aload_n F.1 F.2.1 dX7_changesOf_70 rfl (lv_at hl 2 rfl) ?_
              obtain ⟨r_28a, r_28b⟩ : R mo 11 = some (gh 61 0) ∧ gAr g (gh 61 0) 9 41 := mR hv hm (q := (11, 41)) (by decide)
              refine g_getR (ci := 7) (k := 11) F hH rfl (by decide) iX7 hm (by decide) rfl (b := gh 61 0) r_28a k30 dX7_changesOf_71 ?_
              refine lv_iload F.1 F.2.1 dX7_changesOf_74 (lv_at hl 0 rfl) ?_
              have hx76 : 0 ≤ k ∧ k < ((41 : Nat) : Int) ∧ k ≤ 2147483647 := ⟨by omega, by omega, by omega⟩
              refine g_iald F hH r_28b hx76.1 hx76.2.1 hx76.2.2 dX7_changesOf_76 ?_
              refine z_name (fun v_29 ev_29 => ?_)
              have zv_29 : zr v_29 := by rw [ev_29]; exact zr_t _
              have c76 : v_29 = (bf (6 * k.toNat)).toInt := by rw [ev_29, e61, (hbf k.toNat (by omega)).1]
              refine lv_iload_n F.1 F.2.1 dX7_changesOf_77 rfl (lv_at hl 4 rfl) ?_
              refine z_icmp_eq (tgt := 84) F dX7_changesOf_78 (by decide) zv_29 zrr (fun c_30 => ?_) (fun c_30 => ?_)
              · refine z_iconst F dX7_changesOf_84 ?_
                refine lv_istore (lv' := [(5, .int (iI 0)), (4, .int (iI k)), (3, .int (iI an)), (0, .ref mo), (1, .int (iI sd)), (2, .int (iI rr))]) F.1 F.2.1 dX7_changesOf_85 hl (by decide) rfl (fun ls hl => ?_)
                have cut_87_31 : ∀ (NN : Nat) (i : Int) (AI_31 : gI) (H : Heap) (locs : List Loc) (ls : Array Slot), zr i → (mInv g gh R I_18 AI_31) → (AI_31 (gh 50 0) = T) → (0 ≤ i ∧ i ≤ 4) → (∀ b, b ≠ gh 75 0 → b ≠ gh 77 0 → AI_31 b = AI b) → (gaX (AI_31 (gh 75 0)) (I_18 mo 26).toInt.toNat (pbX bxa na bf rr k.toNat) (sbX bxa na bf rr k.toNat)) → (∀ j : Nat, (j : Int) < i → AI_31 (gh 77 0) j = tg (btu bf k.toNat) j) → (4 - i) < ((NN : Nat) : Int) → gH g I_18 R J AI_31 AJ AR H → va_S (gA g) s.heap H locs → lv_has ls 6 [(5, .int (iI i)), (4, .int (iI k)), (3, .int (iI an)), (0, .ref mo), (1, .int (iI sd)), (2, .int (iI rr))] → W p l e rmX7_changesOff s m ([.ref mo, .int (iI sd), .int (iI rr)] : List Value).toArray below meth c H locs 0 0 (MQ below (gQi g (fun (z : Int) (w : gS) => R = w.2.1 ∧ J = w.2.2.1 ∧ AJ = w.2.2.2.2.1 ∧ AR = w.2.2.2.2.2 ∧ (mInv g gh R (w.1) (w.2.2.2.1)) ∧ ((w.2.2.2.1) (gh 50 0) = T) ∧ (wF mo I (w.1)) ∧ (z = 0 ∨ z = 1) ∧ (∀ b, b ≠ gh 75 0 → b ≠ gh 77 0 → (w.2.2.2.1) b = AI b) ∧ (gaX ((w.2.2.2.1) (gh 75 0)) ((w.1) mo 26).toInt.toNat (pbX bxa na bf rr nb) (sbX bxa na bf rr nb)) ∧ (tIz z (lowX bxa na bf rr nb)))) ([.ref mo, .int (iI sd), .int (iI rr)] : List Value).toArray s 0 0 (gA g)) (F0 m 87 ls []) := by
                  intro NN87
                  induction NN87 with
                  | zero =>
                    intro i AI_31 H locs ls zi hv hT hi2 fW hgx htk hm87 hH hS hl
                    exact absurd hm87 (by omega)
                  | succ NN87 ih87 =>
                    intro i AI_31 H locs ls zi hv hT hi2 fW hgx htk hm87 hH hS hl
                    have e61 : AI_31 (gh 61 0) = AI (gh 61 0) := fW _ (show gh 61 0 ≠ gh 75 0 from mNe hv hm (p := (11, 41)) (q := (25, 9600)) (by decide) (by decide) (by decide)) (show gh 61 0 ≠ gh 77 0 from mNe hv hm (p := (11, 41)) (q := (27, 4)) (by decide) (by decide) (by decide))
                    have e62 : AI_31 (gh 62 0) = AI (gh 62 0) := fW _ (show gh 62 0 ≠ gh 75 0 from mNe hv hm (p := (12, 164)) (q := (25, 9600)) (by decide) (by decide) (by decide)) (show gh 62 0 ≠ gh 77 0 from mNe hv hm (p := (12, 164)) (q := (27, 4)) (by decide) (by decide) (by decide))
                    have e63 : AI_31 (gh 63 0) = AI (gh 63 0) := fW _ (show gh 63 0 ≠ gh 75 0 from mNe hv hm (p := (13, 41)) (q := (25, 9600)) (by decide) (by decide) (by decide)) (show gh 63 0 ≠ gh 77 0 from mNe hv hm (p := (13, 41)) (q := (27, 4)) (by decide) (by decide) (by decide))
                    refine lv_iload F.1 F.2.1 dX7_changesOf_87 (lv_at hl 0 rfl) ?_
                    refine z_iconst F dX7_changesOf_89 ?_
                    refine z_icmp_ge (tgt := 118) F dX7_changesOf_90 (by decide) zi ⟨by decide, by decide⟩ (fun c_33 => ?_) (fun c_33 => ?_)
                    · refine lv_aload_n F.1 F.2.1 dX7_changesOf_118 rfl (lv_at hl 3 rfl) ?_
                      refine lv_aload_n F.1 F.2.1 dX7_changesOf_119 rfl (lv_at hl 3 rfl) ?_
                      obtain ⟨r_34a, r_34b⟩ : R mo 13 = some (gh 63 0) ∧ gAr g (gh 63 0) 9 41 := mR hv hm (q := (13, 41)) (by decide)
                      refine g_getR (ci := 7) (k := 13) F hH rfl (by decide) iX7 hm (by decide) rfl (b := gh 63 0) r_34a k36 dX7_changesOf_120 ?_
                      refine lv_iload F.1 F.2.1 dX7_changesOf_123 (lv_at hl 1 rfl) ?_
                      have hx125 : 0 ≤ k ∧ k < ((41 : Nat) : Int) ∧ k ≤ 2147483647 := ⟨by omega, by omega, by omega⟩
                      refine g_iald F hH r_34b hx125.1 hx125.2.1 hx125.2.2 dX7_changesOf_125 ?_
                      refine z_name (fun v_35 ev_35 => ?_)
                      have zv_35 : zr v_35 := by rw [ev_35]; exact zr_t _
                      have c125 : iI v_35 = bf (6 * k.toNat + 5) := by rw [ev_35, iI_self, e63, (hbf k.toNat (by omega)).2.2]
                      refine z_iconst F dX7_changesOf_126 ?_
                      refine g_calli (g_runV (As := [.int (iI v_35), .int (iI 0)]) (rest := []) (ci := 7) F hl.1 hH hS hz (c_X7_gathersf l g gh T ((I_18 mo 26).toInt.toNat) (pbX bxa na bf rr k.toNat) (sbX bxa na bf rr k.toNat) zM (btu bf k.toNat) I_18 R J AI_31 AJ AR mo v_35 0 zv_35 ⟨by decide, by decide⟩ hv hm hT (by omega) hgx.1 (by omega) (fun j hj => htk j (by omega))) (cwV 2 F.2.2.2.2.1 (good_up gT_X7_gathers) rfl rfl rfl hdX7_gathers ⟨Nat.le_of_ble_eq_true rfl, Nat.le_of_ble_eq_true rfl⟩) hm (by decide) rfl rfl rfl (Nat.le_of_ble_eq_true rfl) dX7_changesOf_127 ⟨Nat.zero_le _, Nat.zero_le _⟩) hS (fun v_42 I_36 R_37 J_38 AI_39 AJ_40 AR_41 H locs zv_42 hp_43 hH hS => ?_)
                      dsimp only at hp_43
                      obtain ⟨rfl, rfl, rfl, rfl, hv, hT, wfq, q_44, qga, fWq⟩ := hp_43
                      have wf := wF_t wf wfq
                      have u_45_2 : (I_36 mo 2).toInt = (I mo 2).toInt := by rw [wf 2 (by decide)]
                      have u_45_5 : (I_36 mo 5).toInt = (I mo 5).toInt := by rw [wf 5 (by decide)]
                      have u_45_14 : (I_36 mo 14).toInt = (I mo 14).toInt := by rw [wf 14 (by decide)]
                      have u_45_16 : (I_36 mo 16).toInt = (I mo 16).toInt := by rw [wf 16 (by decide)]
                      have u_45_24 : (I_36 mo 24).toInt = (I mo 24).toInt := by rw [wf 24 (by decide)]
                      have hgx9 := gaX_s hgx.2 qga
                      rw [c125] at hgx9
                      have hgx9 := gx_y hbt (by omega) (by omega) hgx9
                      rw [show k.toNat + 1 = (k + 1).toNat by omega] at hgx9
                      clear qga
                      have fW : ∀ b, b ≠ gh 75 0 → b ≠ gh 77 0 → AI_39 b = AI b := fun b h1 h2 => (fWq b h1).trans (fW b h1 h2)
                      refine z_if_ne (tgt := 137) F dX7_changesOf_130 (by decide) zv_42 (fun c_46 => ?_) (fun c_46 => ?_)
                      · refine z_iconst F dX7_changesOf_137 ?_
                        refine z_goto (tgt := 142) F dX7_changesOf_138 (by decide) ?_
                        refine lv_istore_n (lv' := [(3, .int (iI 1)), (5, .int (iI i)), (4, .int (iI k)), (0, .ref mo), (1, .int (iI sd)), (2, .int (iI rr))]) F.1 F.2.1 dX7_changesOf_142 rfl hl (by decide) rfl (fun ls hl => ?_)
                        refine z_iinc (lv' := [(4, .int (iI (k + 1))), (3, .int (iI 1)), (5, .int (iI i)), (0, .ref mo), (1, .int (iI sd)), (2, .int (iI rr))]) F dX7_changesOf_143 hl (k := 2) rfl (by decide) rfl (fun ls hl => ?_)
                        refine z_goto (tgt := 61) F dX7_changesOf_146 (by decide) ?_
                        exact ih61 1 (k + 1) I_36 AI_39 H locs ls ⟨by decide, by decide⟩ ⟨by omega, by omega⟩ hv hT wf (by omega) fW hgx9 (by omega) (by omega) hH hS (lv_sub hl [0, 1, 3, 4, 5] rfl)
                      · refine lv_iload_n F.1 F.2.1 dX7_changesOf_133 rfl (lv_at hl 2 rfl) ?_
                        refine z_if_eq (tgt := 141) F dX7_changesOf_134 (by decide) zan (fun c_47 => ?_) (fun c_47 => ?_)
                        · refine z_iconst F dX7_changesOf_141 ?_
                          refine lv_istore_n (lv' := [(3, .int (iI 0)), (5, .int (iI i)), (4, .int (iI k)), (0, .ref mo), (1, .int (iI sd)), (2, .int (iI rr))]) F.1 F.2.1 dX7_changesOf_142 rfl hl (by decide) rfl (fun ls hl => ?_)
                          refine z_iinc (lv' := [(4, .int (iI (k + 1))), (3, .int (iI 0)), (5, .int (iI i)), (0, .ref mo), (1, .int (iI sd)), (2, .int (iI rr))]) F dX7_changesOf_143 hl (k := 2) rfl (by decide) rfl (fun ls hl => ?_)
                          refine z_goto (tgt := 61) F dX7_changesOf_146 (by decide) ?_
                          exact ih61 0 (k + 1) I_36 AI_39 H locs ls ⟨by decide, by decide⟩ ⟨by omega, by omega⟩ hv hT wf (by omega) fW hgx9 (by omega) (by omega) hH hS (lv_sub hl [0, 1, 3, 4, 5] rfl)
                        · refine z_iconst F dX7_changesOf_137 ?_
                          refine z_goto (tgt := 142) F dX7_changesOf_138 (by decide) ?_
                          refine lv_istore_n (lv' := [(3, .int (iI 1)), (5, .int (iI i)), (4, .int (iI k)), (0, .ref mo), (1, .int (iI sd)), (2, .int (iI rr))]) F.1 F.2.1 dX7_changesOf_142 rfl hl (by decide) rfl (fun ls hl => ?_)
                          refine z_iinc (lv' := [(4, .int (iI (k + 1))), (3, .int (iI 1)), (5, .int (iI i)), (0, .ref mo), (1, .int (iI sd)), (2, .int (iI rr))]) F dX7_changesOf_143 hl (k := 2) rfl (by decide) rfl (fun ls hl => ?_)
                          refine z_goto (tgt := 61) F dX7_changesOf_146 (by decide) ?_
                          exact ih61 1 (k + 1) I_36 AI_39 H locs ls ⟨by decide, by decide⟩ ⟨by omega, by omega⟩ hv hT wf (by omega) fW hgx9 (by omega) (by omega) hH hS (lv_sub hl [0, 1, 3, 4, 5] rfl)
                    · refine lv_aload_n F.1 F.2.1 dX7_changesOf_93 rfl (lv_at hl 3 rfl) ?_
                      obtain ⟨r_48a, r_48b⟩ : R mo 27 = some (gh 77 0) ∧ gAr g (gh 77 0) 9 4 := mR hv hm (q := (27, 4)) (by decide)
                      refine g_getR (ci := 7) (k := 27) F hH rfl (by decide) iX7 hm (by decide) rfl (b := gh 77 0) r_48a k45 dX7_changesOf_94 ?_
                      refine lv_iload F.1 F.2.1 dX7_changesOf_97 (lv_at hl 0 rfl) ?_
                      refine lv_aload_n F.1 F.2.1 dX7_changesOf_99 rfl (lv_at hl 3 rfl) ?_
                      obtain ⟨r_49a, r_49b⟩ : R mo 12 = some (gh 62 0) ∧ gAr g (gh 62 0) 9 164 := mR hv hm (q := (12, 164)) (by decide)
                      refine g_getR (ci := 7) (k := 12) F hH rfl (by decide) iX7 hm (by decide) rfl (b := gh 62 0) r_49a k33 dX7_changesOf_100 ?_
                      refine z_iconst F dX7_changesOf_103 ?_
                      refine lv_iload F.1 F.2.1 dX7_changesOf_104 (lv_at hl 1 rfl) ?_
                      refine z_imul F dX7_changesOf_106 ?_
                      refine lv_iload F.1 F.2.1 dX7_changesOf_107 (lv_at hl 0 rfl) ?_
                      refine z_iadd F dX7_changesOf_109 ?_
                      have hx110 : 0 ≤ ((4 * k) + i) ∧ ((4 * k) + i) < ((164 : Nat) : Int) ∧ ((4 * k) + i) ≤ 2147483647 := ⟨by omega, by omega, by omega⟩
                      refine g_iald F hH r_49b hx110.1 hx110.2.1 hx110.2.2 dX7_changesOf_110 ?_
                      refine z_name (fun v_50 ev_50 => ?_)
                      have zv_50 : zr v_50 := by rw [ev_50]; exact zr_t _
                      have c110 : iI v_50 = tg (btu bf k.toNat) i.toNat := by rw [ev_50, iI_self, e62, btu_at (by omega), ← (hbf k.toNat (by omega)).2.1 _ (by omega)]; congr 1; omega
                      have hx111 : 0 ≤ i ∧ i < ((4 : Nat) : Int) ∧ i ≤ 2147483647 := ⟨by omega, by omega, by omega⟩
                      refine g_iast F hH hS r_48b hx111.1 hx111.2.1 hx111.2.2 dX7_changesOf_111 (fun H locs hH hS => ?_)
                      obtain ⟨AI_51, eAI_51⟩ : ∃ qQ, qQ = gup2 AI_31 (gh 77 0) (i).toNat (iI (v_50)) := ⟨_, rfl⟩
                      rw [← eAI_51] at hH
                      have kAI_51 : ∀ b, b ≠ (gh 77 0) → AI_51 b = AI_31 b := fun b hb => by rw [eAI_51]; exact funext fun j => gup2_a _ _ hb
                      have hvO := hv
                      have t_52 : AI_51 (gh 50 0) = AI_31 (gh 50 0) := mK hv hm (p := (0, 640)) (q := (27, 4)) (by decide) (by decide) (by decide) kAI_51
                      have hv : mInv g gh R I_18 AI_51 := mInv_a hv hm (q := (27, 4)) (by decide) (by decide) kAI_51
                      have hT : AI_51 (gh 50 0) = T := t_52.trans hT
                      have htk : ∀ j : Nat, (j : Int) < i + 1 → AI_51 (gh 77 0) j = tg (btu bf k.toNat) j := fun j hj => by
                        by_cases e9 : (j : Int) = i
                        · rw [eAI_51, gup2_e _ _ (by omega), c110, show j = i.toNat by omega]
                        · rw [eAI_51, gup2_k _ _ (by omega)]; exact htk j (by omega)
                      have hgx : gaX (AI_51 (gh 75 0)) (I_18 mo 26).toInt.toNat (pbX bxa na bf rr k.toNat) (sbX bxa na bf rr k.toNat) := by rw [kAI_51 _ (show gh 75 0 ≠ gh 77 0 from mNe hv hm (p := (25, 9600)) (q := (27, 4)) (by decide) (by decide) (by decide))]; exact hgx
                      have fW : ∀ b, b ≠ gh 75 0 → b ≠ gh 77 0 → AI_51 b = AI b := fun b h1 h2 => (kAI_51 b h2).trans (fW b h1 h2)
                      refine z_iinc (lv' := [(5, .int (iI (i + 1))), (4, .int (iI k)), (3, .int (iI an)), (0, .ref mo), (1, .int (iI sd)), (2, .int (iI rr))]) F dX7_changesOf_112 hl (k := 0) rfl (by decide) rfl (fun ls hl => ?_)
                      refine z_goto (tgt := 87) F dX7_changesOf_115 (by decide) ?_
                      exact ih87 (i + 1) AI_51 H locs ls ⟨by omega, by omega⟩ hv hT (by omega) fW hgx htk (by omega) hH hS (lv_sub hl [0, 1, 2, 3, 4, 5] rfl)
                exact cut_87_31 (((4 - 0) + 1 : Int).toNat) 0 AI_19 H locs ls ⟨by decide, by decide⟩ hv hT (by omega) fW hgx (fun j hj => absurd hj (by omega)) (by omega) hH hS (lv_sub hl [0, 1, 2, 3, 4, 5] rfl)
              · have hgx9 := gx_n (by omega) hgx
                rw [show k.toNat + 1 = (k + 1).toNat by omega] at hgx9
                refine z_goto (tgt := 143) F dX7_changesOf_81 (by decide) ?_
                refine z_iinc (lv' := [(4, .int (iI (k + 1))), (3, .int (iI an)), (0, .ref mo), (1, .int (iI sd)), (2, .int (iI rr))]) F dX7_changesOf_143 hl (k := 0) rfl (by decide) rfl (fun ls hl => ?_)
                refine z_goto (tgt := 61) F dX7_changesOf_146 (by decide) ?_
                exact ih61 an (k + 1) I_18 AI_19 H locs ls zan ⟨by omega, by omega⟩ hv hT wf (by omega) fW hgx9 (by omega) (by omega) hH hS (lv_sub hl [0, 1, 2, 3, 4] rfl)
        exact cut_61_19 (((40 - 0) + 1 : Int).toNat) an 0 I_4 AI_5 H locs ls zan ⟨by decide, by decide⟩ hv hT wf (by omega) fW hgx9 (by omega) (by omega) hH hS (lv_sub hl [0, 1, 2, 3, 4] rfl)
      · refine lv_aload_n F.1 F.2.1 dX7_changesOf_21 rfl (lv_at hl 2 rfl) ?_
        refine lv_iload_n F.1 F.2.1 dX7_changesOf_22 rfl (lv_at hl 3 rfl) ?_
        refine lv_iload_n F.1 F.2.1 dX7_changesOf_23 rfl (lv_at hl 4 rfl) ?_
        refine lv_iload F.1 F.2.1 dX7_changesOf_24 (lv_at hl 0 rfl) ?_
        refine g_calli (g_runS (As := [.int (iI sd), .int (iI rr), .int (iI i)]) (rest := [.ref mo]) F hl.1 hH hS hz (c_X7_spot l g  I_4 R J AI_5 AJ AR sd rr i zsd zrr zi (by omega) (by omega) (by omega)) (va_cwS 3 F.2.2.2.2.1 (good_up gT_X7_spot) rfl rfl rfl hdX7_spot.2 ⟨Nat.le_of_ble_eq_true rfl, Nat.le_of_ble_eq_true rfl⟩) rfl rfl (Nat.le_of_ble_eq_true rfl) dX7_changesOf_26 ⟨Nat.zero_le _, Nat.zero_le _⟩) hS (fun v_59 I_53 R_54 J_55 AI_56 AJ_57 AR_58 H locs zv_59 hp_60 hH hS => ?_)
        dsimp only at hp_60
        obtain ⟨rfl, rfl, rfl, rfl, rfl, rfl, q_61⟩ := hp_60
        refine g_callv (g_runV (As := [.int (iI v_59)]) (rest := []) (ci := 7) F hl.1 hH hS hz (c_X7_takesf l g gh T I_4 R J AI_5 AJ AR mo v_59 zv_59 hv hm hT (by omega)) (cwV 1 F.2.2.2.2.1 (good_up gT_X7_takes) rfl rfl rfl hdX7_takes ⟨Nat.le_of_ble_eq_true rfl, Nat.le_of_ble_eq_true rfl⟩) hm (by decide) rfl rfl rfl (Nat.le_of_ble_eq_true rfl) dX7_changesOf_29 ⟨Nat.zero_le _, Nat.zero_le _⟩) hS (fun I_62 R_63 J_64 AI_65 AJ_66 AR_67 H locs hp_68 hH hS => ?_)
        dsimp only at hp_68
        obtain ⟨rfl, rfl, rfl, rfl, rfl, hv, hT, fWq, taq⟩ := hp_68
        have htk : ∀ j, j < 4 → AI_65 (gh 77 0) j = tg (tup bxa i.toNat) j := fun j hj => by rw [taq j hj, h56, tg_up j hj, ← hXa _ (by omega)]; congr 1; omega
        have hgx : gaX (AI_65 (gh 75 0)) (I_4 mo 26).toInt.toNat (paX bxa i.toNat) (s1X bxa i.toNat) := by rw [fWq _ (show gh 75 0 ≠ gh 77 0 from mNe hv hm (p := (25, 9600)) (q := (27, 4)) (by decide) (by decide) (by decide))]; exact hgx
        have fW : ∀ b, b ≠ gh 75 0 → b ≠ gh 77 0 → AI_65 b = AI b := fun b h1 h2 => (fWq b h2).trans (fW b h1 h2)
        have h56 : AI_65 (gh 56 0) = AI (gh 56 0) := fW _ (show gh 56 0 ≠ gh 75 0 from mNe hv hm (p := (6, 126720)) (q := (25, 9600)) (by decide) (by decide) (by decide)) (show gh 56 0 ≠ gh 77 0 from mNe hv hm (p := (6, 126720)) (q := (27, 4)) (by decide) (by decide) (by decide))
        have h57 : AI_65 (gh 57 0) = AI (gh 57 0) := fW _ (show gh 57 0 ≠ gh 75 0 from mNe hv hm (p := (7, 176)) (q := (25, 9600)) (by decide) (by decide) (by decide)) (show gh 57 0 ≠ gh 77 0 from mNe hv hm (p := (7, 176)) (q := (27, 4)) (by decide) (by decide) (by decide))
        refine lv_aload_n F.1 F.2.1 dX7_changesOf_32 rfl (lv_at hl 2 rfl) ?_
        refine lv_aload_n F.1 F.2.1 dX7_changesOf_33 rfl (lv_at hl 2 rfl) ?_
        obtain ⟨r_69a, r_69b⟩ : R mo 6 = some (gh 56 0) ∧ gAr g (gh 56 0) 9 126720 := mR hv hm (q := (6, 126720)) (by decide)
        refine g_getR (ci := 7) (k := 6) F hH rfl (by decide) iX7 hm (by decide) rfl (b := gh 56 0) r_69a k24 dX7_changesOf_34 ?_
        refine lv_iload_n F.1 F.2.1 dX7_changesOf_37 rfl (lv_at hl 3 rfl) ?_
        refine lv_iload_n F.1 F.2.1 dX7_changesOf_38 rfl (lv_at hl 4 rfl) ?_
        refine lv_iload F.1 F.2.1 dX7_changesOf_39 (lv_at hl 0 rfl) ?_
        refine g_calli (g_runS (As := [.int (iI sd), .int (iI rr), .int (iI i)]) (rest := [.ref (gh 56 0), .ref mo]) F hl.1 hH hS hz (c_X7_spot l g  I_4 R J AI_65 AJ AR sd rr i zsd zrr zi (by omega) (by omega) (by omega)) (va_cwS 3 F.2.2.2.2.1 (good_up gT_X7_spot) rfl rfl rfl hdX7_spot.2 ⟨Nat.le_of_ble_eq_true rfl, Nat.le_of_ble_eq_true rfl⟩) rfl rfl (Nat.le_of_ble_eq_true rfl) dX7_changesOf_41 ⟨Nat.zero_le _, Nat.zero_le _⟩) hS (fun v_76 I_70 R_71 J_72 AI_73 AJ_74 AR_75 H locs zv_76 hp_77 hH hS => ?_)
        dsimp only at hp_77
        obtain ⟨rfl, rfl, rfl, rfl, rfl, rfl, q_78⟩ := hp_77
        refine z_iconst F dX7_changesOf_44 ?_
        refine z_iadd F dX7_changesOf_45 ?_
        have hx46 : 0 ≤ (v_76 + 4) ∧ (v_76 + 4) < ((126720 : Nat) : Int) ∧ (v_76 + 4) ≤ 2147483647 := ⟨by omega, by omega, by omega⟩
        refine g_iald F hH r_69b hx46.1 hx46.2.1 hx46.2.2 dX7_changesOf_46 ?_
        refine z_name (fun v_79 ev_79 => ?_)
        have zv_79 : zr v_79 := by rw [ev_79]; exact zr_t _
        have c46 : iI v_79 = bxa (6 * i.toNat + 4) := by rw [ev_79, iI_self, h56, ← hXa _ (by omega)]; congr 1; omega
        refine z_iconst F dX7_changesOf_47 ?_
        refine g_calli (g_runV (As := [.int (iI v_79), .int (iI 0)]) (rest := []) (ci := 7) F hl.1 hH hS hz (c_X7_gathersf l g gh T ((I_4 mo 26).toInt.toNat) (paX bxa i.toNat) (s1X bxa i.toNat) zM (tup bxa i.toNat) I_4 R J AI_65 AJ AR mo v_79 0 zv_79 ⟨by decide, by decide⟩ hv hm hT (by omega) hgx.1 (by omega) htk) (cwV 2 F.2.2.2.2.1 (good_up gT_X7_gathers) rfl rfl rfl hdX7_gathers ⟨Nat.le_of_ble_eq_true rfl, Nat.le_of_ble_eq_true rfl⟩) hm (by decide) rfl rfl rfl (Nat.le_of_ble_eq_true rfl) dX7_changesOf_48 ⟨Nat.zero_le _, Nat.zero_le _⟩) hS (fun v_86 I_80 R_81 J_82 AI_83 AJ_84 AR_85 H locs zv_86 hp_87 hH hS => ?_)
        dsimp only at hp_87
        obtain ⟨rfl, rfl, rfl, rfl, hv, hT, wfq, q_88, qga, fWq⟩ := hp_87
        have wf := wF_t wf wfq
        have u_89_2 : (I_80 mo 2).toInt = (I mo 2).toInt := by rw [wf 2 (by decide)]
        have u_89_5 : (I_80 mo 5).toInt = (I mo 5).toInt := by rw [wf 5 (by decide)]
        have u_89_14 : (I_80 mo 14).toInt = (I mo 14).toInt := by rw [wf 14 (by decide)]
        have u_89_16 : (I_80 mo 16).toInt = (I mo 16).toInt := by rw [wf 16 (by decide)]
        have u_89_24 : (I_80 mo 24).toInt = (I mo 24).toInt := by rw [wf 24 (by decide)]
        have hgx9 := gaX_s hgx.2 qga
        rw [c46] at hgx9
        have hgx9 := gx_1 hgx9
        rw [show i.toNat + 1 = (i + 1).toNat by omega] at hgx9
        clear qga
        have fW : ∀ b, b ≠ gh 75 0 → b ≠ gh 77 0 → AI_83 b = AI b := fun b h1 h2 => (fWq b h1).trans (fW b h1 h2)
        refine lv_istore_n (lv' := [(3, .int (iI v_86)), (4, .int (iI i)), (0, .ref mo), (1, .int (iI sd)), (2, .int (iI rr))]) F.1 F.2.1 dX7_changesOf_51 rfl hl (by decide) rfl (fun ls hl => ?_)
        refine z_iinc (lv' := [(4, .int (iI (i + 1))), (3, .int (iI v_86)), (0, .ref mo), (1, .int (iI sd)), (2, .int (iI rr))]) F dX7_changesOf_52 hl (k := 1) rfl (by decide) rfl (fun ls hl => ?_)
        refine z_goto (tgt := 10) F dX7_changesOf_55 (by decide) ?_
        exact ih10 v_86 (i + 1) I_80 AI_83 H locs ls zv_86 ⟨by omega, by omega⟩ hv hT wf (by omega) fW hgx9 (by omega) (by omega) hH hS (lv_sub hl [0, 1, 2, 3, 4] rfl)
  exact cut_10_5 (((120 - 0) + 1 : Int).toNat) 1 0 I_1 AI H locs ls ⟨by decide, by decide⟩ ⟨by decide, by decide⟩ hv hT wf (by omega) (fun _ _ _ => rfl) (by rw [show (I_1 mo 26).toInt = 0 by omega]; exact gx_0) (by omega) (by omega) hH hS (lv_sub hl [0, 1, 2, 3, 4] rfl)
