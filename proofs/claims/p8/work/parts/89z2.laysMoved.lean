def rmX7_laysMovedf : Room := { frames := 1, cells := 0, slots := 0, locals := 24 }
set_option maxHeartbeats 4000000 in
set_option maxRecDepth 100000 in
/-- what moved -/
theorem c_X7_laysMovedf (l : Launch) (g : gG) (gh : gGh) (T : Nat → Int32) (na my : Nat) (bxa bxb : Nat → Int32) (I : gI) (R : gR) (J : gJ) (AI : gI) (AJ : gJ) (AR : gR) (mo : Nat) (rr : Int) (zrr : zr rr) (hv : mInv g gh R I AI) (hm : gO g mo 7) (hT : AI (gh 50 0) = T) (hr0 : 0 ≤ rr ∧ rr ≤ 15) (hna : tI (AI (gh 57 0)) (16 * 0 + rr) = (na : Int)) (hXa : ∀ q : Nat, q < 720 → AI (gh 56 0) ((11520 * 0 + 720 * rr).toNat + q) = bxa q) (hnb : tI (AI (gh 57 0)) (16 * 9 + rr) = (my : Int)) (hXb : ∀ q : Nat, q < 720 → AI (gh 56 0) ((11520 * 9 + 720 * rr).toNat + q) = bxb q) (hA : okB bxa na) (hB : okB bxb my) (h120 : na ≤ 120 ∧ my ≤ 120) : gMet l g yX7_laysMoved tsX7_laysMoved rmX7_laysMovedf [.ref mo, .int (iI rr)] (I, R, J, AI, AJ, AR) (gQi g (fun (z : Int) (w : gS) => I = w.1 ∧ R = w.2.1 ∧ J = w.2.2.1 ∧ AJ = w.2.2.2.2.1 ∧ AR = w.2.2.2.2.2 ∧ (mInv g gh R I (w.2.2.2.1)) ∧ ((w.2.2.2.1) (gh 50 0) = T) ∧ ((w.2.2.2.1) (gh 57 0) = AI (gh 57 0)) ∧ (0 ≤ z ∧ z ≤ 240) ∧ (∀ b, b ≠ gh 81 0 → (w.2.2.2.1) b = AI b) ∧ (isB (w65 ((w.2.2.2.1) (gh 81 0))) z.toNat (mvS bxa na bxb my) zM))) := by
  refine gStart (cc := cX7_laysMoved) (maxL := 11) (ret := (some (.int))) (by decide) rfl (Nat.le_of_ble_eq_true rfl) ?_
  intro p e s m below meth c ls F hr hlk hH hz hS hl
  have hl : lv_has ls 11 [(0, .ref mo), (1, .int (iI rr))] := hl
  have hS : va_S (gA g) s.heap s.heap [] := hS
  obtain ⟨H, hHe⟩ : ∃ H : Heap, H = s.heap := ⟨_, rfl⟩
  obtain ⟨locs, hlo⟩ : ∃ k : List Loc, k = [] := ⟨_, rfl⟩
  have hH : gH g I R J AI AJ AR H := by rw [hHe]; exact hH
  have hS : va_S (gA g) s.heap H locs := by rw [hHe, hlo]; exact hS
  suffices hw : W p l e rmX7_laysMovedf s m ([.ref mo, .int (iI rr)] : List Value).toArray below meth c H locs 0 0 (MQ below (gQi g (fun (z : Int) (w : gS) => I = w.1 ∧ R = w.2.1 ∧ J = w.2.2.1 ∧ AJ = w.2.2.2.2.1 ∧ AR = w.2.2.2.2.2 ∧ (mInv g gh R I (w.2.2.2.1)) ∧ ((w.2.2.2.1) (gh 50 0) = T) ∧ ((w.2.2.2.1) (gh 57 0) = AI (gh 57 0)) ∧ (0 ≤ z ∧ z ≤ 240) ∧ (∀ b, b ≠ gh 81 0 → (w.2.2.2.1) b = AI b) ∧ (isB (w65 ((w.2.2.2.1) (gh 81 0))) z.toNat (mvS bxa na bxb my) zM))) ([.ref mo, .int (iI rr)] : List Value).toArray s 0 0 (gA g)) (F0 m 0 ls []) by
    rw [hHe, hlo] at hw; exact hw
  clear hHe hlo
  have ha7 : AI (gh 57 0) = AI (gh 57 0) := rfl
  have s9 := mSz1 hv hm (z := 16 * 9 + rr) (by omega) (by omega)
  have s0 := mSz1 hv hm (z := 16 * 0 + rr) (by omega) (by omega)
  have iX7 : ∀ w ∈ u_ws RX7 TX7 32, w ∈ tsX7_laysMoved := fun w h => List.mem_cons_of_mem _ (inTB7 w h)
  have k24 : Cond.fieldLink RX7 24 (TX7 6).1 (TX7 6).2.1 (TX7 6).2.2.1 ∈ tsX7_laysMoved := List.mem_cons_of_mem _ fl_24
  have k57 : Cond.fieldLink RX7 57 (TX7 31).1 (TX7 31).2.1 (TX7 31).2.2.1 ∈ tsX7_laysMoved := List.mem_cons_of_mem _ fl_57
  refine z_iconst F dX7_laysMoved_0 ?_
  refine lv_istore_n (lv' := [(2, .int (iI 0)), (0, .ref mo), (1, .int (iI rr))]) F.1 F.2.1 dX7_laysMoved_1 rfl hl (by decide) rfl (fun ls hl => ?_)
  refine z_iconst F dX7_laysMoved_2 ?_
  refine lv_istore_n (lv' := [(3, .int (iI 0)), (2, .int (iI 0)), (0, .ref mo), (1, .int (iI rr))]) F.1 F.2.1 dX7_laysMoved_3 rfl hl (by decide) rfl (fun ls hl => ?_)
  refine z_iconst F dX7_laysMoved_4 ?_
  refine lv_istore (lv' := [(4, .int (iI 0)), (3, .int (iI 0)), (2, .int (iI 0)), (0, .ref mo), (1, .int (iI rr))]) F.1 F.2.1 dX7_laysMoved_5 hl (by decide) rfl (fun ls hl => ?_)
  have cut_7_1 : ∀ (NN : Nat) (n i jj : Int) (AI_1 : gI) (H : Heap) (locs : List Loc) (ls : Array Slot), zr n → zr i → zr jj → (mInv g gh R I AI_1) → (AI_1 (gh 50 0) = T) → (AI_1 (gh 57 0) = AI (gh 57 0)) → (0 ≤ i ∧ i ≤ tI (AI (gh 57 0)) (16 * 9 + rr) ∧ 0 ≤ jj ∧ jj ≤ tI (AI (gh 57 0)) (16 * 0 + rr) ∧ 0 ≤ n ∧ n ≤ i + jj) → (∀ b, b ≠ gh 81 0 → AI_1 b = AI b) → (gaI bxa bxb (w65 (AI_1 (gh 81 0))) na my jj.toNat i.toNat n.toNat (mvS bxa na bxb my)) → (i ≤ (my : Int) ∧ jj ≤ (na : Int)) → (240 - i - jj) < ((NN : Nat) : Int) → gH g I R J AI_1 AJ AR H → va_S (gA g) s.heap H locs → lv_has ls 11 [(4, .int (iI jj)), (3, .int (iI i)), (2, .int (iI n)), (0, .ref mo), (1, .int (iI rr))] → W p l e rmX7_laysMovedf s m ([.ref mo, .int (iI rr)] : List Value).toArray below meth c H locs 0 0 (MQ below (gQi g (fun (z : Int) (w : gS) => I = w.1 ∧ R = w.2.1 ∧ J = w.2.2.1 ∧ AJ = w.2.2.2.2.1 ∧ AR = w.2.2.2.2.2 ∧ (mInv g gh R I (w.2.2.2.1)) ∧ ((w.2.2.2.1) (gh 50 0) = T) ∧ ((w.2.2.2.1) (gh 57 0) = AI (gh 57 0)) ∧ (0 ≤ z ∧ z ≤ 240) ∧ (∀ b, b ≠ gh 81 0 → (w.2.2.2.1) b = AI b) ∧ (isB (w65 ((w.2.2.2.1) (gh 81 0))) z.toNat (mvS bxa na bxb my) zM))) ([.ref mo, .int (iI rr)] : List Value).toArray s 0 0 (gA g)) (F0 m 7 ls []) := by
    intro NN7
    induction NN7 with
    | zero =>
      intro n i jj AI_1 H locs ls zn zi zjj hv hT ha7 hi fM hga hij hm7 hH hS hl
      exact absurd hm7 (by omega)
    | succ NN7 ih7 =>
      intro n i jj AI_1 H locs ls zn zi zjj hv hT ha7 hi fM hga hij hm7 hH hS hl
      have h56 : AI_1 (gh 56 0) = AI (gh 56 0) := fM _ (show gh 56 0 ≠ gh 81 0 from mNe hv hm (p := (6, 126720)) (q := (31, 1200)) (by decide) (by decide) (by decide))
      have cut_29_2 : ∀ (H : Heap) (locs : List Loc) (ls : Array Slot), (i < tI (AI (gh 57 0)) (16 * 9 + rr) ∨ jj < tI (AI (gh 57 0)) (16 * 0 + rr)) → gH g I R J AI_1 AJ AR H → va_S (gA g) s.heap H locs → lv_has ls 11 [(4, .int (iI jj)), (3, .int (iI i)), (2, .int (iI n)), (0, .ref mo), (1, .int (iI rr))] → W p l e rmX7_laysMovedf s m ([.ref mo, .int (iI rr)] : List Value).toArray below meth c H locs 0 0 (MQ below (gQi g (fun (z : Int) (w : gS) => I = w.1 ∧ R = w.2.1 ∧ J = w.2.2.1 ∧ AJ = w.2.2.2.2.1 ∧ AR = w.2.2.2.2.2 ∧ (mInv g gh R I (w.2.2.2.1)) ∧ ((w.2.2.2.1) (gh 50 0) = T) ∧ ((w.2.2.2.1) (gh 57 0) = AI (gh 57 0)) ∧ (0 ≤ z ∧ z ≤ 240) ∧ (∀ b, b ≠ gh 81 0 → (w.2.2.2.1) b = AI b) ∧ (isB (w65 ((w.2.2.2.1) (gh 81 0))) z.toNat (mvS bxa na bxb my) zM))) ([.ref mo, .int (iI rr)] : List Value).toArray s 0 0 (gA g)) (F0 m 29 ls []) := by
        intro H locs ls hor hH hS hl
        refine z_bipush F dX7_laysMoved_29 (by decide) ?_
        refine lv_iload_n F.1 F.2.1 dX7_laysMoved_31 rfl (lv_at hl 4 rfl) ?_
        refine lv_iload_n F.1 F.2.1 dX7_laysMoved_32 rfl (lv_at hl 1 rfl) ?_
        refine g_calli (g_runS (As := [.int (iI 9), .int (iI rr), .int (iI i)]) (rest := []) F hl.1 hH hS hz (c_X7_spot l g  I R J AI_1 AJ AR 9 rr i ⟨by decide, by decide⟩ zrr zi (by omega) (by omega) (by omega)) (va_cwS 3 F.2.2.2.2.1 (good_up gT_X7_spot) rfl rfl rfl hdX7_spot.2 ⟨Nat.le_of_ble_eq_true rfl, Nat.le_of_ble_eq_true rfl⟩) rfl rfl (Nat.le_of_ble_eq_true rfl) dX7_laysMoved_33 ⟨Nat.zero_le _, Nat.zero_le _⟩) hS (fun v_10 I_4 R_5 J_6 AI_7 AJ_8 AR_9 H locs zv_10 hp_11 hH hS => ?_)
        dsimp only at hp_11
        obtain ⟨rfl, rfl, rfl, rfl, rfl, rfl, q_12⟩ := hp_11
        refine lv_istore (lv' := [(5, .int (iI v_10)), (4, .int (iI jj)), (3, .int (iI i)), (2, .int (iI n)), (0, .ref mo), (1, .int (iI rr))]) F.1 F.2.1 dX7_laysMoved_36 hl (by decide) rfl (fun ls hl => ?_)
        refine z_iconst F dX7_laysMoved_38 ?_
        refine lv_iload_n F.1 F.2.1 dX7_laysMoved_39 rfl (lv_at hl 5 rfl) ?_
        refine lv_iload F.1 F.2.1 dX7_laysMoved_40 (lv_at hl 1 rfl) ?_
        refine g_calli (g_runS (As := [.int (iI 0), .int (iI rr), .int (iI jj)]) (rest := []) F hl.1 hH hS hz (c_X7_spot l g  I R J AI_1 AJ AR 0 rr jj ⟨by decide, by decide⟩ zrr zjj (by omega) (by omega) (by omega)) (va_cwS 3 F.2.2.2.2.1 (good_up gT_X7_spot) rfl rfl rfl hdX7_spot.2 ⟨Nat.le_of_ble_eq_true rfl, Nat.le_of_ble_eq_true rfl⟩) rfl rfl (Nat.le_of_ble_eq_true rfl) dX7_laysMoved_42 ⟨Nat.zero_le _, Nat.zero_le _⟩) hS (fun v_19 I_13 R_14 J_15 AI_16 AJ_17 AR_18 H locs zv_19 hp_20 hH hS => ?_)
        dsimp only at hp_20
        obtain ⟨rfl, rfl, rfl, rfl, rfl, rfl, q_21⟩ := hp_20
        refine lv_istore (lv' := [(6, .int (iI v_19)), (5, .int (iI v_10)), (4, .int (iI jj)), (3, .int (iI i)), (2, .int (iI n)), (0, .ref mo), (1, .int (iI rr))]) F.1 F.2.1 dX7_laysMoved_45 hl (by decide) rfl (fun ls hl => ?_)
        have cut_92_21 : ∀ (is : Int) (H : Heap) (locs : List Loc) (ls : Array Slot), zr is → (-1 ≤ is ∧ is ≤ 1 ∧ (is ≤ 0 → i < tI (AI (gh 57 0)) (16 * 9 + rr)) ∧ (0 ≤ is → jj < tI (AI (gh 57 0)) (16 * 0 + rr))) → (mvC bxa na bxb my i jj is) → gH g I R J AI_1 AJ AR H → va_S (gA g) s.heap H locs → lv_has ls 11 [(6, .int (iI v_19)), (5, .int (iI v_10)), (4, .int (iI jj)), (3, .int (iI i)), (2, .int (iI n)), (0, .ref mo), (1, .int (iI rr))] → W p l e rmX7_laysMovedf s m ([.ref mo, .int (iI rr)] : List Value).toArray below meth c H locs 0 0 (MQ below (gQi g (fun (z : Int) (w : gS) => I = w.1 ∧ R = w.2.1 ∧ J = w.2.2.1 ∧ AJ = w.2.2.2.2.1 ∧ AR = w.2.2.2.2.2 ∧ (mInv g gh R I (w.2.2.2.1)) ∧ ((w.2.2.2.1) (gh 50 0) = T) ∧ ((w.2.2.2.1) (gh 57 0) = AI (gh 57 0)) ∧ (0 ≤ z ∧ z ≤ 240) ∧ (∀ b, b ≠ gh 81 0 → (w.2.2.2.1) b = AI b) ∧ (isB (w65 ((w.2.2.2.1) (gh 81 0))) z.toNat (mvS bxa na bxb my) zM))) ([.ref mo, .int (iI rr)] : List Value).toArray s 0 0 (gA g)) (F0 m 92 ls [.int (iI is)]) := by
          intro is H locs ls zis his hcm hH hS hl
          refine lv_istore (lv' := [(7, .int (iI is)), (6, .int (iI v_19)), (5, .int (iI v_10)), (4, .int (iI jj)), (3, .int (iI i)), (2, .int (iI n)), (0, .ref mo), (1, .int (iI rr))]) F.1 F.2.1 dX7_laysMoved_92 hl (by decide) rfl (fun ls hl => ?_)
          have cut_112_22 : ∀ (t1 : Int) (H : Heap) (locs : List Loc) (ls : Array Slot), zr t1 → (tyP (0 ≤ is) t1 (bxa (6 * jj.toNat + 4))) → gH g I R J AI_1 AJ AR H → va_S (gA g) s.heap H locs → lv_has ls 11 [(7, .int (iI is)), (6, .int (iI v_19)), (5, .int (iI v_10)), (4, .int (iI jj)), (3, .int (iI i)), (2, .int (iI n)), (0, .ref mo), (1, .int (iI rr))] → W p l e rmX7_laysMovedf s m ([.ref mo, .int (iI rr)] : List Value).toArray below meth c H locs 0 0 (MQ below (gQi g (fun (z : Int) (w : gS) => I = w.1 ∧ R = w.2.1 ∧ J = w.2.2.1 ∧ AJ = w.2.2.2.2.1 ∧ AR = w.2.2.2.2.2 ∧ (mInv g gh R I (w.2.2.2.1)) ∧ ((w.2.2.2.1) (gh 50 0) = T) ∧ ((w.2.2.2.1) (gh 57 0) = AI (gh 57 0)) ∧ (0 ≤ z ∧ z ≤ 240) ∧ (∀ b, b ≠ gh 81 0 → (w.2.2.2.1) b = AI b) ∧ (isB (w65 ((w.2.2.2.1) (gh 81 0))) z.toNat (mvS bxa na bxb my) zM))) ([.ref mo, .int (iI rr)] : List Value).toArray s 0 0 (gA g)) (F0 m 112 ls [.int (iI t1)]) := by
            intro t1 H locs ls zt1 ht1 hH hS hl
            have cut_130_23 : ∀ (t2 : Int) (H : Heap) (locs : List Loc) (ls : Array Slot), zr t2 → (tyP (is ≤ 0) t2 (bxb (6 * i.toNat + 4))) → gH g I R J AI_1 AJ AR H → va_S (gA g) s.heap H locs → lv_has ls 11 [(7, .int (iI is)), (6, .int (iI v_19)), (5, .int (iI v_10)), (4, .int (iI jj)), (3, .int (iI i)), (2, .int (iI n)), (0, .ref mo), (1, .int (iI rr))] → W p l e rmX7_laysMovedf s m ([.ref mo, .int (iI rr)] : List Value).toArray below meth c H locs 0 0 (MQ below (gQi g (fun (z : Int) (w : gS) => I = w.1 ∧ R = w.2.1 ∧ J = w.2.2.1 ∧ AJ = w.2.2.2.2.1 ∧ AR = w.2.2.2.2.2 ∧ (mInv g gh R I (w.2.2.2.1)) ∧ ((w.2.2.2.1) (gh 50 0) = T) ∧ ((w.2.2.2.1) (gh 57 0) = AI (gh 57 0)) ∧ (0 ≤ z ∧ z ≤ 240) ∧ (∀ b, b ≠ gh 81 0 → (w.2.2.2.1) b = AI b) ∧ (isB (w65 ((w.2.2.2.1) (gh 81 0))) z.toNat (mvS bxa na bxb my) zM))) ([.ref mo, .int (iI rr)] : List Value).toArray s 0 0 (gA g)) (F0 m 130 ls [.int (iI t2), .int (iI t1)]) := by
              intro t2 H locs ls zt2 ht2 hH hS hl
              refine z_isub F dX7_laysMoved_130 ?_
              refine z_norm (fun v_25 zv_25 ev_25 => ?_)
              obtain ⟨t9, hT9, hS9, ht9a, ht9b⟩ := mv_hd hA hB (by omega) (by omega) (by omega) hcm ht1 ht2 ev_25 hga
              refine lv_istore (lv' := [(8, .int (iI v_25)), (7, .int (iI is)), (6, .int (iI v_19)), (5, .int (iI v_10)), (4, .int (iI jj)), (3, .int (iI i)), (2, .int (iI n)), (0, .ref mo), (1, .int (iI rr))]) F.1 F.2.1 dX7_laysMoved_131 hl (by decide) rfl (fun ls hl => ?_)
              have cut_145_25 : ∀ (fr1 : Int) (H : Heap) (locs : List Loc) (ls : Array Slot), zr fr1 → (0 ≤ fr1 ∧ fr1 + 6 ≤ 126720) → (∀ k : Nat, k < 4 → AI (gh 56 0) (fr1.toNat + k) = tg t9 k) → gH g I R J AI_1 AJ AR H → va_S (gA g) s.heap H locs → lv_has ls 11 [(8, .int (iI v_25)), (7, .int (iI is)), (6, .int (iI v_19)), (5, .int (iI v_10)), (4, .int (iI jj)), (3, .int (iI i)), (2, .int (iI n)), (0, .ref mo), (1, .int (iI rr))] → W p l e rmX7_laysMovedf s m ([.ref mo, .int (iI rr)] : List Value).toArray below meth c H locs 0 0 (MQ below (gQi g (fun (z : Int) (w : gS) => I = w.1 ∧ R = w.2.1 ∧ J = w.2.2.1 ∧ AJ = w.2.2.2.2.1 ∧ AR = w.2.2.2.2.2 ∧ (mInv g gh R I (w.2.2.2.1)) ∧ ((w.2.2.2.1) (gh 50 0) = T) ∧ ((w.2.2.2.1) (gh 57 0) = AI (gh 57 0)) ∧ (0 ≤ z ∧ z ≤ 240) ∧ (∀ b, b ≠ gh 81 0 → (w.2.2.2.1) b = AI b) ∧ (isB (w65 ((w.2.2.2.1) (gh 81 0))) z.toNat (mvS bxa na bxb my) zM))) ([.ref mo, .int (iI rr)] : List Value).toArray s 0 0 (gA g)) (F0 m 145 ls [.int (iI fr1)]) := by
                intro fr1 H locs ls zfr1 hfr hft hH hS hl
                refine lv_istore (lv' := [(9, .int (iI fr1)), (8, .int (iI v_25)), (7, .int (iI is)), (6, .int (iI v_19)), (5, .int (iI v_10)), (4, .int (iI jj)), (3, .int (iI i)), (2, .int (iI n)), (0, .ref mo), (1, .int (iI rr))]) F.1 F.2.1 dX7_laysMoved_145 hl (by decide) rfl (fun ls hl => ?_)
                have cut_203_27 : ∀ (n3 : Int) (AI_27 : gI) (H : Heap) (locs : List Loc) (ls : Array Slot), zr n3 → (mInv g gh R I AI_27) → (AI_27 (gh 50 0) = T) → (AI_27 (gh 57 0) = AI (gh 57 0)) → (0 ≤ n3 ∧ n3 ≤ i + jj + 1) → (∀ b, b ≠ gh 81 0 → AI_27 b = AI b) → (gaI bxa bxb (w65 (AI_27 (gh 81 0))) na my (mvJ is jj).toNat (mvI is i).toNat n3.toNat (mvS bxa na bxb my)) → gH g I R J AI_27 AJ AR H → va_S (gA g) s.heap H locs → lv_has ls 11 [(9, .int (iI fr1)), (8, .int (iI v_25)), (7, .int (iI is)), (6, .int (iI v_19)), (5, .int (iI v_10)), (4, .int (iI jj)), (3, .int (iI i)), (2, .int (iI n3)), (0, .ref mo), (1, .int (iI rr))] → W p l e rmX7_laysMovedf s m ([.ref mo, .int (iI rr)] : List Value).toArray below meth c H locs 0 0 (MQ below (gQi g (fun (z : Int) (w : gS) => I = w.1 ∧ R = w.2.1 ∧ J = w.2.2.1 ∧ AJ = w.2.2.2.2.1 ∧ AR = w.2.2.2.2.2 ∧ (mInv g gh R I (w.2.2.2.1)) ∧ ((w.2.2.2.1) (gh 50 0) = T) ∧ ((w.2.2.2.1) (gh 57 0) = AI (gh 57 0)) ∧ (0 ≤ z ∧ z ≤ 240) ∧ (∀ b, b ≠ gh 81 0 → (w.2.2.2.1) b = AI b) ∧ (isB (w65 ((w.2.2.2.1) (gh 81 0))) z.toNat (mvS bxa na bxb my) zM))) ([.ref mo, .int (iI rr)] : List Value).toArray s 0 0 (gA g)) (F0 m 203 ls []) := by
                  intro n3 AI_27 H locs ls zn3 hv hT ha7 hn3 fM hga3 hH hS hl
                  have h56 : AI_27 (gh 56 0) = AI (gh 56 0) := fM _ (show gh 56 0 ≠ gh 81 0 from mNe hv hm (p := (6, 126720)) (q := (31, 1200)) (by decide) (by decide) (by decide))
                  refine lv_iload F.1 F.2.1 dX7_laysMoved_203 (lv_at hl 2 rfl) ?_
                  refine z_if_gt (tgt := 211) F dX7_laysMoved_205 (by decide) zis (fun c_29 => ?_) (fun c_29 => ?_)
                  · refine lv_iload F.1 F.2.1 dX7_laysMoved_211 (lv_at hl 2 rfl) ?_
                    refine z_if_lt (tgt := 219) F dX7_laysMoved_213 (by decide) zis (fun c_30 => ?_) (fun c_30 => ?_)
                    · exact absurd trivial (by omega)
                    · refine z_iinc (lv' := [(4, .int (iI (jj + 1))), (9, .int (iI fr1)), (8, .int (iI v_25)), (7, .int (iI is)), (6, .int (iI v_19)), (5, .int (iI v_10)), (3, .int (iI i)), (2, .int (iI n3)), (0, .ref mo), (1, .int (iI rr))]) F dX7_laysMoved_216 hl (k := 5) rfl (by decide) rfl (fun ls hl => ?_)
                      refine z_goto (tgt := 7) F dX7_laysMoved_219 (by decide) ?_
                      exact ih7 n3 i (jj + 1) AI_27 H locs ls zn3 zi ⟨by omega, by omega⟩ hv hT ha7 (by omega) fM (by rw [show mvJ is jj = jj + 1 from if_pos (by omega), show mvI is i = i from if_neg (by omega)] at hga3; exact hga3) (by omega) (by omega) hH hS (lv_sub hl [0, 6, 7, 8, 9] rfl)
                  · refine z_iinc (lv' := [(3, .int (iI (i + 1))), (9, .int (iI fr1)), (8, .int (iI v_25)), (7, .int (iI is)), (6, .int (iI v_19)), (5, .int (iI v_10)), (4, .int (iI jj)), (2, .int (iI n3)), (0, .ref mo), (1, .int (iI rr))]) F dX7_laysMoved_208 hl (k := 6) rfl (by decide) rfl (fun ls hl => ?_)
                    refine lv_iload F.1 F.2.1 dX7_laysMoved_211 (lv_at hl 3 rfl) ?_
                    refine z_if_lt (tgt := 219) F dX7_laysMoved_213 (by decide) zis (fun c_31 => ?_) (fun c_31 => ?_)
                    · refine z_goto (tgt := 7) F dX7_laysMoved_219 (by decide) ?_
                      exact ih7 n3 (i + 1) jj AI_27 H locs ls zn3 ⟨by omega, by omega⟩ zjj hv hT ha7 (by omega) fM (by rw [show mvJ is jj = jj from if_neg (by omega), show mvI is i = i + 1 from if_pos (by omega)] at hga3; exact hga3) (by omega) (by omega) hH hS (lv_sub hl [6, 0, 7, 8, 9] rfl)
                    · refine z_iinc (lv' := [(4, .int (iI (jj + 1))), (3, .int (iI (i + 1))), (9, .int (iI fr1)), (8, .int (iI v_25)), (7, .int (iI is)), (6, .int (iI v_19)), (5, .int (iI v_10)), (2, .int (iI n3)), (0, .ref mo), (1, .int (iI rr))]) F dX7_laysMoved_216 hl (k := 6) rfl (by decide) rfl (fun ls hl => ?_)
                      refine z_goto (tgt := 7) F dX7_laysMoved_219 (by decide) ?_
                      exact ih7 n3 (i + 1) (jj + 1) AI_27 H locs ls zn3 ⟨by omega, by omega⟩ ⟨by omega, by omega⟩ hv hT ha7 (by omega) fM (by rw [show mvJ is jj = jj + 1 from if_pos (by omega), show mvI is i = i + 1 from if_pos (by omega)] at hga3; exact hga3) (by omega) (by omega) hH hS (lv_sub hl [0, 1, 7, 8, 9] rfl)
                refine lv_iload F.1 F.2.1 dX7_laysMoved_147 (lv_at hl 1 rfl) ?_
                refine z_if_eq (tgt := 203) F dX7_laysMoved_149 (by decide) zv_25 (fun c_32 => ?_) (fun c_32 => ?_)
                · exact cut_203_27 n AI_1 H locs ls zn hv hT ha7 (by omega) fM (ga_skip hA hB hga hT9 (by rw [hS9, show v_25 = 0 by omega]; rfl)) hH hS (lv_sub hl [0, 1, 2, 3, 4, 5, 6, 7, 8, 9] rfl)
                · obtain ⟨M0, eM0⟩ : ∃ f, f = AI_1 (gh 81 0) := ⟨_, rfl⟩
                  rw [← eM0] at hga
                  refine z_iconst F dX7_laysMoved_152 ?_
                  refine lv_istore (lv' := [(10, .int (iI 0)), (9, .int (iI fr1)), (8, .int (iI v_25)), (7, .int (iI is)), (6, .int (iI v_19)), (5, .int (iI v_10)), (4, .int (iI jj)), (3, .int (iI i)), (2, .int (iI n)), (0, .ref mo), (1, .int (iI rr))]) F.1 F.2.1 dX7_laysMoved_153 hl (by decide) rfl (fun ls hl => ?_)
                  have cut_155_33 : ∀ (NN : Nat) (k : Int) (AI_33 : gI) (H : Heap) (locs : List Loc) (ls : Array Slot), zr k → (mInv g gh R I AI_33) → (AI_33 (gh 50 0) = T) → (AI_33 (gh 57 0) = AI (gh 57 0)) → (0 ≤ k ∧ k ≤ 4) → (∀ b, b ≠ gh 81 0 → AI_33 b = AI b) → ((∀ q : Nat, (q : Int) < 5 * n → AI_33 (gh 81 0) q = M0 q) ∧ ∀ j : Nat, (j : Int) < k → AI_33 (gh 81 0) (5 * n.toNat + j) = tg t9 j) → (4 - k) < ((NN : Nat) : Int) → gH g I R J AI_33 AJ AR H → va_S (gA g) s.heap H locs → lv_has ls 11 [(10, .int (iI k)), (9, .int (iI fr1)), (8, .int (iI v_25)), (7, .int (iI is)), (6, .int (iI v_19)), (5, .int (iI v_10)), (4, .int (iI jj)), (3, .int (iI i)), (2, .int (iI n)), (0, .ref mo), (1, .int (iI rr))] → W p l e rmX7_laysMovedf s m ([.ref mo, .int (iI rr)] : List Value).toArray below meth c H locs 0 0 (MQ below (gQi g (fun (z : Int) (w : gS) => I = w.1 ∧ R = w.2.1 ∧ J = w.2.2.1 ∧ AJ = w.2.2.2.2.1 ∧ AR = w.2.2.2.2.2 ∧ (mInv g gh R I (w.2.2.2.1)) ∧ ((w.2.2.2.1) (gh 50 0) = T) ∧ ((w.2.2.2.1) (gh 57 0) = AI (gh 57 0)) ∧ (0 ≤ z ∧ z ≤ 240) ∧ (∀ b, b ≠ gh 81 0 → (w.2.2.2.1) b = AI b) ∧ (isB (w65 ((w.2.2.2.1) (gh 81 0))) z.toNat (mvS bxa na bxb my) zM))) ([.ref mo, .int (iI rr)] : List Value).toArray s 0 0 (gA g)) (F0 m 155 ls []) := by
                    intro NN155
                    induction NN155 with
                    | zero =>
                      intro k AI_33 H locs ls zk hv hT ha7 hk fM hmr hm155 hH hS hl
                      exact absurd hm155 (by omega)
                    | succ NN155 ih155 =>
                      intro k AI_33 H locs ls zk hv hT ha7 hk fM hmr hm155 hH hS hl
                      have h56 : AI_33 (gh 56 0) = AI (gh 56 0) := fM _ (show gh 56 0 ≠ gh 81 0 from mNe hv hm (p := (6, 126720)) (q := (31, 1200)) (by decide) (by decide) (by decide))
                      refine lv_iload F.1 F.2.1 dX7_laysMoved_155 (lv_at hl 0 rfl) ?_
                      refine z_iconst F dX7_laysMoved_157 ?_
                      refine z_icmp_ge (tgt := 188) F dX7_laysMoved_158 (by decide) zk ⟨by decide, by decide⟩ (fun c_35 => ?_) (fun c_35 => ?_)
                      · refine lv_aload_n F.1 F.2.1 dX7_laysMoved_188 rfl (lv_at hl 9 rfl) ?_
                        obtain ⟨r_36a, r_36b⟩ : R mo 31 = some (gh 81 0) ∧ gAr g (gh 81 0) 9 1200 := mR hv hm (q := (31, 1200)) (by decide)
                        refine g_getR (ci := 7) (k := 31) F hH rfl (by decide) iX7 hm (by decide) rfl (b := gh 81 0) r_36a k57 dX7_laysMoved_189 ?_
                        refine z_iconst F dX7_laysMoved_192 ?_
                        refine lv_iload_n F.1 F.2.1 dX7_laysMoved_193 rfl (lv_at hl 8 rfl) ?_
                        refine z_imul F dX7_laysMoved_194 ?_
                        refine z_iconst F dX7_laysMoved_195 ?_
                        refine z_iadd F dX7_laysMoved_196 ?_
                        refine lv_iload F.1 F.2.1 dX7_laysMoved_197 (lv_at hl 2 rfl) ?_
                        have hx199 : 0 ≤ ((5 * n) + 4) ∧ ((5 * n) + 4) < ((1200 : Nat) : Int) ∧ ((5 * n) + 4) ≤ 2147483647 := ⟨by omega, by omega, by omega⟩
                        refine g_iast F hH hS r_36b hx199.1 hx199.2.1 hx199.2.2 dX7_laysMoved_199 (fun H locs hH hS => ?_)
                        obtain ⟨AI_37, eAI_37⟩ : ∃ qQ, qQ = gup2 AI_33 (gh 81 0) (((5 * n) + 4)).toNat (iI (v_25)) := ⟨_, rfl⟩
                        rw [← eAI_37] at hH
                        have kAI_37 : ∀ b, b ≠ (gh 81 0) → AI_37 b = AI_33 b := fun b hb => by rw [eAI_37]; exact funext fun j => gup2_a _ _ hb
                        have hvO := hv
                        have t_38 : AI_37 (gh 50 0) = AI_33 (gh 50 0) := mK hv hm (p := (0, 640)) (q := (31, 1200)) (by decide) (by decide) (by decide) kAI_37
                        have t_38_7 : AI_37 (gh 57 0) = AI_33 (gh 57 0) := mK hv hm (p := (7, 176)) (q := (31, 1200)) (by decide) (by decide) (by decide) kAI_37
                        have ha7 : AI_37 (gh 57 0) = AI (gh 57 0) := t_38_7.trans ha7
                        have hv : mInv g gh R I AI_37 := mInv_a hv hm (q := (31, 1200)) (by decide) (by decide) kAI_37
                        have hT : AI_37 (gh 50 0) = T := t_38.trans hT
                        have hins := w65_i (f := M0) (f' := AI_37 (gh 81 0)) (n := n.toNat) (t := t9) (c := iI v_25) (fun q hq => by rw [eAI_37, gup2_k _ _ (by omega)]; exact hmr.1 q (by omega)) (fun j hj => by rw [eAI_37, gup2_k _ _ (by omega)]; exact hmr.2 j (by omega)) (by rw [eAI_37, gup2_e _ _ (by omega)])
                        have hga3 := ga_app hA hB hga hT9 (by rw [hS9]; exact fun h9 => absurd ((iI_eq zv_25 zr_0).mp h9) (by omega)) (by rw [hS9]; exact hins)
                        rw [show n.toNat + 1 = (n + 1).toNat by omega] at hga3
                        have fM : ∀ b, b ≠ gh 81 0 → AI_37 b = AI b := fun b h1 => (kAI_37 b h1).trans (fM b h1)
                        refine z_iinc (lv' := [(2, .int (iI (n + 1))), (10, .int (iI k)), (9, .int (iI fr1)), (8, .int (iI v_25)), (7, .int (iI is)), (6, .int (iI v_19)), (5, .int (iI v_10)), (4, .int (iI jj)), (3, .int (iI i)), (0, .ref mo), (1, .int (iI rr))]) F dX7_laysMoved_200 hl (k := 8) rfl (by decide) rfl (fun ls hl => ?_)
                        exact cut_203_27 (n + 1) AI_37 H locs ls ⟨by omega, by omega⟩ hv hT ha7 (by omega) fM hga3 hH hS (lv_sub hl [2, 3, 4, 5, 6, 7, 8, 0, 9, 10] rfl)
                      · refine lv_aload_n F.1 F.2.1 dX7_laysMoved_161 rfl (lv_at hl 9 rfl) ?_
                        obtain ⟨r_39a, r_39b⟩ : R mo 31 = some (gh 81 0) ∧ gAr g (gh 81 0) 9 1200 := mR hv hm (q := (31, 1200)) (by decide)
                        refine g_getR (ci := 7) (k := 31) F hH rfl (by decide) iX7 hm (by decide) rfl (b := gh 81 0) r_39a k57 dX7_laysMoved_162 ?_
                        refine z_iconst F dX7_laysMoved_165 ?_
                        refine lv_iload_n F.1 F.2.1 dX7_laysMoved_166 rfl (lv_at hl 8 rfl) ?_
                        refine z_imul F dX7_laysMoved_167 ?_
                        refine lv_iload F.1 F.2.1 dX7_laysMoved_168 (lv_at hl 0 rfl) ?_
                        refine z_iadd F dX7_laysMoved_170 ?_
                        refine lv_aload_n F.1 F.2.1 dX7_laysMoved_171 rfl (lv_at hl 9 rfl) ?_
                        obtain ⟨r_40a, r_40b⟩ : R mo 6 = some (gh 56 0) ∧ gAr g (gh 56 0) 9 126720 := mR hv hm (q := (6, 126720)) (by decide)
                        refine g_getR (ci := 7) (k := 6) F hH rfl (by decide) iX7 hm (by decide) rfl (b := gh 56 0) r_40a k24 dX7_laysMoved_172 ?_
                        refine lv_iload F.1 F.2.1 dX7_laysMoved_175 (lv_at hl 1 rfl) ?_
                        refine lv_iload F.1 F.2.1 dX7_laysMoved_177 (lv_at hl 0 rfl) ?_
                        refine z_iadd F dX7_laysMoved_179 ?_
                        have hx180 : 0 ≤ (fr1 + k) ∧ (fr1 + k) < ((126720 : Nat) : Int) ∧ (fr1 + k) ≤ 2147483647 := ⟨by omega, by omega, by omega⟩
                        refine g_iald F hH r_40b hx180.1 hx180.2.1 hx180.2.2 dX7_laysMoved_180 ?_
                        refine z_name (fun v_41 ev_41 => ?_)
                        have zv_41 : zr v_41 := by rw [ev_41]; exact zr_t _
                        have hx181 : 0 ≤ ((5 * n) + k) ∧ ((5 * n) + k) < ((1200 : Nat) : Int) ∧ ((5 * n) + k) ≤ 2147483647 := ⟨by omega, by omega, by omega⟩
                        refine g_iast F hH hS r_39b hx181.1 hx181.2.1 hx181.2.2 dX7_laysMoved_181 (fun H locs hH hS => ?_)
                        obtain ⟨AI_42, eAI_42⟩ : ∃ qQ, qQ = gup2 AI_33 (gh 81 0) (((5 * n) + k)).toNat (iI (v_41)) := ⟨_, rfl⟩
                        rw [← eAI_42] at hH
                        have kAI_42 : ∀ b, b ≠ (gh 81 0) → AI_42 b = AI_33 b := fun b hb => by rw [eAI_42]; exact funext fun j => gup2_a _ _ hb
                        have c180 : iI v_41 = tg t9 k.toNat := by rw [ev_41, iI_self, h56, ← hft k.toNat (by omega)]; congr 1; omega
                        have hvO := hv
                        have t_43 : AI_42 (gh 50 0) = AI_33 (gh 50 0) := mK hv hm (p := (0, 640)) (q := (31, 1200)) (by decide) (by decide) (by decide) kAI_42
                        have t_43_7 : AI_42 (gh 57 0) = AI_33 (gh 57 0) := mK hv hm (p := (7, 176)) (q := (31, 1200)) (by decide) (by decide) (by decide) kAI_42
                        have ha7 : AI_42 (gh 57 0) = AI (gh 57 0) := t_43_7.trans ha7
                        have hv : mInv g gh R I AI_42 := mInv_a hv hm (q := (31, 1200)) (by decide) (by decide) kAI_42
                        have hT : AI_42 (gh 50 0) = T := t_43.trans hT
                        have hmr : (∀ q : Nat, (q : Int) < 5 * n → AI_42 (gh 81 0) q = M0 q) ∧ ∀ j : Nat, (j : Int) < k + 1 → AI_42 (gh 81 0) (5 * n.toNat + j) = tg t9 j := ⟨fun q hq => by rw [eAI_42, gup2_k _ _ (by omega)]; exact hmr.1 q hq, fun j hj => by
                          by_cases e9 : (j : Int) = k
                          · rw [eAI_42, gup2_e _ _ (by omega), c180, show j = k.toNat by omega]
                          · rw [eAI_42, gup2_k _ _ (by omega)]; exact hmr.2 j (by omega)⟩
                        have fM : ∀ b, b ≠ gh 81 0 → AI_42 b = AI b := fun b h1 => (kAI_42 b h1).trans (fM b h1)
                        refine z_iinc (lv' := [(10, .int (iI (k + 1))), (9, .int (iI fr1)), (8, .int (iI v_25)), (7, .int (iI is)), (6, .int (iI v_19)), (5, .int (iI v_10)), (4, .int (iI jj)), (3, .int (iI i)), (2, .int (iI n)), (0, .ref mo), (1, .int (iI rr))]) F dX7_laysMoved_182 hl (k := 0) rfl (by decide) rfl (fun ls hl => ?_)
                        refine z_goto (tgt := 155) F dX7_laysMoved_185 (by decide) ?_
                        exact ih155 (k + 1) AI_42 H locs ls ⟨by omega, by omega⟩ hv hT ha7 (by omega) fM hmr (by omega) hH hS (lv_sub hl [0, 1, 2, 3, 4, 5, 6, 7, 8, 9, 10] rfl)
                  exact cut_155_33 (((4 - 0) + 1 : Int).toNat) 0 AI_1 H locs ls ⟨by decide, by decide⟩ hv hT ha7 (by omega) fM ⟨fun q _ => by rw [eM0], fun j hj => absurd hj (by omega)⟩ (by omega) hH hS (lv_sub hl [0, 1, 2, 3, 4, 5, 6, 7, 8, 9, 10] rfl)
              refine lv_iload F.1 F.2.1 dX7_laysMoved_133 (lv_at hl 1 rfl) ?_
              refine z_if_gt (tgt := 143) F dX7_laysMoved_135 (by decide) zis (fun c_44 => ?_) (fun c_44 => ?_)
              · refine lv_iload F.1 F.2.1 dX7_laysMoved_143 (lv_at hl 2 rfl) ?_
                exact cut_145_25 v_19 H locs ls zv_19 (by omega) (fun k hk => by rw [ht9b (by omega), tg_up k hk, ← hXa _ (by omega)]; congr 1; omega) hH hS (lv_sub hl [0, 1, 2, 3, 4, 5, 6, 7, 8] rfl)
              · refine lv_iload F.1 F.2.1 dX7_laysMoved_138 (lv_at hl 3 rfl) ?_
                refine z_goto (tgt := 145) F dX7_laysMoved_140 (by decide) ?_
                exact cut_145_25 v_10 H locs ls zv_10 (by omega) (fun k hk => by rw [ht9a (by omega), tg_up k hk, ← hXb _ (by omega)]; congr 1; omega) hH hS (lv_sub hl [0, 1, 2, 3, 4, 5, 6, 7, 8] rfl)
            refine lv_iload F.1 F.2.1 dX7_laysMoved_112 (lv_at hl 0 rfl) ?_
            refine z_if_gt (tgt := 129) F dX7_laysMoved_114 (by decide) zis (fun c_45 => ?_) (fun c_45 => ?_)
            · refine z_iconst F dX7_laysMoved_129 ?_
              exact cut_130_23 0 H locs ls ⟨by decide, by decide⟩ (Or.inr ⟨by omega, rfl⟩) hH hS (lv_sub hl [0, 1, 2, 3, 4, 5, 6, 7] rfl)
            · refine lv_aload_n F.1 F.2.1 dX7_laysMoved_117 rfl (lv_at hl 6 rfl) ?_
              obtain ⟨r_46a, r_46b⟩ : R mo 6 = some (gh 56 0) ∧ gAr g (gh 56 0) 9 126720 := mR hv hm (q := (6, 126720)) (by decide)
              refine g_getR (ci := 7) (k := 6) F hH rfl (by decide) iX7 hm (by decide) rfl (b := gh 56 0) r_46a k24 dX7_laysMoved_118 ?_
              refine lv_iload F.1 F.2.1 dX7_laysMoved_121 (lv_at hl 2 rfl) ?_
              refine z_iconst F dX7_laysMoved_123 ?_
              refine z_iadd F dX7_laysMoved_124 ?_
              have hx125 : 0 ≤ (v_10 + 4) ∧ (v_10 + 4) < ((126720 : Nat) : Int) ∧ (v_10 + 4) ≤ 2147483647 := ⟨by omega, by omega, by omega⟩
              refine g_iald F hH r_46b hx125.1 hx125.2.1 hx125.2.2 dX7_laysMoved_125 ?_
              refine z_name (fun v_47 ev_47 => ?_)
              have zv_47 : zr v_47 := by rw [ev_47]; exact zr_t _
              have c125 : iI v_47 = bxb (6 * i.toNat + 4) := by rw [ev_47, iI_self, h56, ← hXb _ (by omega)]; congr 1; omega
              refine z_goto (tgt := 130) F dX7_laysMoved_126 (by decide) ?_
              exact cut_130_23 v_47 H locs ls zv_47 (Or.inl ⟨by omega, c125⟩) hH hS (lv_sub hl [0, 1, 2, 3, 4, 5, 6, 7] rfl)
          refine lv_iload F.1 F.2.1 dX7_laysMoved_94 (lv_at hl 0 rfl) ?_
          refine z_if_lt (tgt := 111) F dX7_laysMoved_96 (by decide) zis (fun c_48 => ?_) (fun c_48 => ?_)
          · refine z_iconst F dX7_laysMoved_111 ?_
            exact cut_112_22 0 H locs ls ⟨by decide, by decide⟩ (Or.inr ⟨by omega, rfl⟩) hH hS (lv_sub hl [0, 1, 2, 3, 4, 5, 6, 7] rfl)
          · refine lv_aload_n F.1 F.2.1 dX7_laysMoved_99 rfl (lv_at hl 6 rfl) ?_
            obtain ⟨r_49a, r_49b⟩ : R mo 6 = some (gh 56 0) ∧ gAr g (gh 56 0) 9 126720 := mR hv hm (q := (6, 126720)) (by decide)
            refine g_getR (ci := 7) (k := 6) F hH rfl (by decide) iX7 hm (by decide) rfl (b := gh 56 0) r_49a k24 dX7_laysMoved_100 ?_
            refine lv_iload F.1 F.2.1 dX7_laysMoved_103 (lv_at hl 1 rfl) ?_
            refine z_iconst F dX7_laysMoved_105 ?_
            refine z_iadd F dX7_laysMoved_106 ?_
            have hx107 : 0 ≤ (v_19 + 4) ∧ (v_19 + 4) < ((126720 : Nat) : Int) ∧ (v_19 + 4) ≤ 2147483647 := ⟨by omega, by omega, by omega⟩
            refine g_iald F hH r_49b hx107.1 hx107.2.1 hx107.2.2 dX7_laysMoved_107 ?_
            refine z_name (fun v_50 ev_50 => ?_)
            have zv_50 : zr v_50 := by rw [ev_50]; exact zr_t _
            have c107 : iI v_50 = bxa (6 * jj.toNat + 4) := by rw [ev_50, iI_self, h56, ← hXa _ (by omega)]; congr 1; omega
            refine z_goto (tgt := 112) F dX7_laysMoved_108 (by decide) ?_
            exact cut_112_22 v_50 H locs ls zv_50 (Or.inl ⟨by omega, c107⟩) hH hS (lv_sub hl [0, 1, 2, 3, 4, 5, 6, 7] rfl)
        refine lv_iload_n F.1 F.2.1 dX7_laysMoved_47 rfl (lv_at hl 3 rfl) ?_
        refine lv_aload_n F.1 F.2.1 dX7_laysMoved_48 rfl (lv_at hl 5 rfl) ?_
        refine z_bipush F dX7_laysMoved_49 (by decide) ?_
        refine lv_iload_n F.1 F.2.1 dX7_laysMoved_51 rfl (lv_at hl 6 rfl) ?_
        have b_51 := mJ hv hm
        unfold mNum1 at b_51
        refine g_calli (g_runV (As := [.int (iI 9), .int (iI rr)]) (rest := [.int (iI i)]) (ci := 7) F hl.1 hH hS hz (c_X7_sizeOf l g gh T I R J AI_1 AJ AR mo 9 rr ⟨by decide, by decide⟩ zrr hv hm hT (by omega) (by omega)) (cwV 2 F.2.2.2.2.1 (good_up gT_X7_sizeOf) rfl rfl rfl hdX7_sizeOf ⟨Nat.le_of_ble_eq_true rfl, Nat.le_of_ble_eq_true rfl⟩) hm (by decide) rfl rfl rfl (Nat.le_of_ble_eq_true rfl) dX7_laysMoved_52 ⟨Nat.zero_le _, Nat.zero_le _⟩) hS (fun v_58 I_52 R_53 J_54 AI_55 AJ_56 AR_57 H locs zv_58 hp_59 hH hS => ?_)
        dsimp only at hp_59
        obtain ⟨rfl, rfl, rfl, rfl, rfl, rfl, q_60, qs52⟩ := hp_59
        rw [ha7] at qs52
        have hsqs52 : v_58 = (my : Int) := by rw [qs52]; exact hnb
        refine z_icmp_ne (tgt := 62) F dX7_laysMoved_55 (by decide) zi zv_58 (fun c_61 => ?_) (fun c_61 => ?_)
        · refine lv_iload F.1 F.2.1 dX7_laysMoved_62 (lv_at hl 2 rfl) ?_
          refine lv_aload_n F.1 F.2.1 dX7_laysMoved_64 rfl (lv_at hl 5 rfl) ?_
          refine z_iconst F dX7_laysMoved_65 ?_
          refine lv_iload_n F.1 F.2.1 dX7_laysMoved_66 rfl (lv_at hl 6 rfl) ?_
          refine g_calli (g_runV (As := [.int (iI 0), .int (iI rr)]) (rest := [.int (iI jj)]) (ci := 7) F hl.1 hH hS hz (c_X7_sizeOf l g gh T I R J AI_1 AJ AR mo 0 rr ⟨by decide, by decide⟩ zrr hv hm hT (by omega) (by omega)) (cwV 2 F.2.2.2.2.1 (good_up gT_X7_sizeOf) rfl rfl rfl hdX7_sizeOf ⟨Nat.le_of_ble_eq_true rfl, Nat.le_of_ble_eq_true rfl⟩) hm (by decide) rfl rfl rfl (Nat.le_of_ble_eq_true rfl) dX7_laysMoved_67 ⟨Nat.zero_le _, Nat.zero_le _⟩) hS (fun v_68 I_62 R_63 J_64 AI_65 AJ_66 AR_67 H locs zv_68 hp_69 hH hS => ?_)
          dsimp only at hp_69
          obtain ⟨rfl, rfl, rfl, rfl, rfl, rfl, q_70, qs67⟩ := hp_69
          rw [ha7] at qs67
          have hsqs67 : v_68 = (na : Int) := by rw [qs67]; exact hna
          refine z_icmp_ne (tgt := 77) F dX7_laysMoved_70 (by decide) zjj zv_68 (fun c_71 => ?_) (fun c_71 => ?_)
          · refine lv_aload_n F.1 F.2.1 dX7_laysMoved_77 rfl (lv_at hl 5 rfl) ?_
            obtain ⟨r_72a, r_72b⟩ : R mo 6 = some (gh 56 0) ∧ gAr g (gh 56 0) 9 126720 := mR hv hm (q := (6, 126720)) (by decide)
            refine g_getR (ci := 7) (k := 6) F hH rfl (by decide) iX7 hm (by decide) rfl (b := gh 56 0) r_72a k24 dX7_laysMoved_78 ?_
            refine lv_iload F.1 F.2.1 dX7_laysMoved_81 (lv_at hl 1 rfl) ?_
            refine lv_aload_n F.1 F.2.1 dX7_laysMoved_83 rfl (lv_at hl 5 rfl) ?_
            refine g_getR (ci := 7) (k := 6) F hH rfl (by decide) iX7 hm (by decide) rfl (b := gh 56 0) r_72a k24 dX7_laysMoved_84 ?_
            refine lv_iload F.1 F.2.1 dX7_laysMoved_87 (lv_at hl 0 rfl) ?_
            refine g_calli (g_runS (As := [.ref (gh 56 0), .int (iI v_10), .ref (gh 56 0), .int (iI v_19)]) (rest := []) F hl.1 hH hS hz (c_X7_comparef l g 126720 126720 I R J AI_1 AJ AR (gh 56 0) v_10 (gh 56 0) v_19 zv_10 zv_19 r_72b r_72b (by omega) (by omega) (by omega) (by omega)) (va_cwS 4 F.2.2.2.2.1 (good_up gT_X7_compare) rfl rfl rfl hdX7_compare.2 ⟨Nat.le_of_ble_eq_true rfl, Nat.le_of_ble_eq_true rfl⟩) rfl rfl (Nat.le_of_ble_eq_true rfl) dX7_laysMoved_89 ⟨Nat.zero_le _, Nat.zero_le _⟩) hS (fun v_79 I_73 R_74 J_75 AI_76 AJ_77 AR_78 H locs zv_79 hp_80 hH hS => ?_)
            dsimp only at hp_80
            obtain ⟨rfl, rfl, rfl, rfl, rfl, rfl, q_81, qc89⟩ := hp_80
            have qk89 : v_79 = tc (tup bxb i.toNat) (tup bxa jj.toNat) := by rw [qc89]; exact kc_c (rk_tu (fun k hk => by rw [h56, tg_up k hk, ← hXb _ (by omega)]; congr 1; omega)) (rk_tu (fun k hk => by rw [h56, tg_up k hk, ← hXa _ (by omega)]; congr 1; omega))
            exact cut_92_21 v_79 H locs ls zv_79 (by omega) (Or.inr (Or.inr ⟨by omega, by omega, qk89⟩)) hH hS (lv_sub hl [0, 1, 2, 3, 4, 5, 6] rfl)
          · refine z_iconst F dX7_laysMoved_73 ?_
            refine z_goto (tgt := 92) F dX7_laysMoved_74 (by decide) ?_
            exact cut_92_21 (-1) H locs ls ⟨by decide, by decide⟩ (by omega) (Or.inr (Or.inl ⟨by omega, by omega, rfl⟩)) hH hS (lv_sub hl [0, 1, 2, 3, 4, 5, 6] rfl)
        · refine z_iconst F dX7_laysMoved_58 ?_
          refine z_goto (tgt := 92) F dX7_laysMoved_59 (by decide) ?_
          exact cut_92_21 1 H locs ls ⟨by decide, by decide⟩ (by omega) (Or.inl ⟨by omega, rfl⟩) hH hS (lv_sub hl [0, 1, 2, 3, 4, 5, 6] rfl)
      refine lv_iload_n F.1 F.2.1 dX7_laysMoved_7 rfl (lv_at hl 1 rfl) ?_
      refine lv_aload_n F.1 F.2.1 dX7_laysMoved_8 rfl (lv_at hl 3 rfl) ?_
      refine z_bipush F dX7_laysMoved_9 (by decide) ?_
      refine lv_iload_n F.1 F.2.1 dX7_laysMoved_11 rfl (lv_at hl 4 rfl) ?_
      have b_82 := mJ hv hm
      unfold mNum1 at b_82
      refine g_calli (g_runV (As := [.int (iI 9), .int (iI rr)]) (rest := [.int (iI i)]) (ci := 7) F hl.1 hH hS hz (c_X7_sizeOf l g gh T I R J AI_1 AJ AR mo 9 rr ⟨by decide, by decide⟩ zrr hv hm hT (by omega) (by omega)) (cwV 2 F.2.2.2.2.1 (good_up gT_X7_sizeOf) rfl rfl rfl hdX7_sizeOf ⟨Nat.le_of_ble_eq_true rfl, Nat.le_of_ble_eq_true rfl⟩) hm (by decide) rfl rfl rfl (Nat.le_of_ble_eq_true rfl) dX7_laysMoved_12 ⟨Nat.zero_le _, Nat.zero_le _⟩) hS (fun v_89 I_83 R_84 J_85 AI_86 AJ_87 AR_88 H locs zv_89 hp_90 hH hS => ?_)
      dsimp only at hp_90
      obtain ⟨rfl, rfl, rfl, rfl, rfl, rfl, q_91, qs12⟩ := hp_90
      rw [ha7] at qs12
      have hsqs12 : v_89 = (my : Int) := by rw [qs12]; exact hnb
      refine z_icmp_lt (tgt := 29) F dX7_laysMoved_15 (by decide) zi zv_89 (fun c_92 => ?_) (fun c_92 => ?_)
      · exact cut_29_2 H locs ls (by omega) hH hS (lv_sub hl [0, 1, 2, 3, 4] rfl)
      · refine lv_iload F.1 F.2.1 dX7_laysMoved_18 (lv_at hl 0 rfl) ?_
        refine lv_aload_n F.1 F.2.1 dX7_laysMoved_20 rfl (lv_at hl 3 rfl) ?_
        refine z_iconst F dX7_laysMoved_21 ?_
        refine lv_iload_n F.1 F.2.1 dX7_laysMoved_22 rfl (lv_at hl 4 rfl) ?_
        refine g_calli (g_runV (As := [.int (iI 0), .int (iI rr)]) (rest := [.int (iI jj)]) (ci := 7) F hl.1 hH hS hz (c_X7_sizeOf l g gh T I R J AI_1 AJ AR mo 0 rr ⟨by decide, by decide⟩ zrr hv hm hT (by omega) (by omega)) (cwV 2 F.2.2.2.2.1 (good_up gT_X7_sizeOf) rfl rfl rfl hdX7_sizeOf ⟨Nat.le_of_ble_eq_true rfl, Nat.le_of_ble_eq_true rfl⟩) hm (by decide) rfl rfl rfl (Nat.le_of_ble_eq_true rfl) dX7_laysMoved_23 ⟨Nat.zero_le _, Nat.zero_le _⟩) hS (fun v_99 I_93 R_94 J_95 AI_96 AJ_97 AR_98 H locs zv_99 hp_100 hH hS => ?_)
        dsimp only at hp_100
        obtain ⟨rfl, rfl, rfl, rfl, rfl, rfl, q_101, qs23⟩ := hp_100
        rw [ha7] at qs23
        have hsqs23 : v_99 = (na : Int) := by rw [qs23]; exact hna
        refine z_icmp_ge (tgt := 222) F dX7_laysMoved_26 (by decide) zjj zv_99 (fun c_102 => ?_) (fun c_102 => ?_)
        · refine lv_iload_n F.1 F.2.1 dX7_laysMoved_222 rfl (lv_at hl 2 rfl) ?_
          exact g_iret F hr hlk hH hS hz zn ⟨rfl, rfl, rfl, rfl, rfl, hv, hT, ha7, by first | omega | rfl | (dsimp only; omega), fM, ga_e hga (by omega) (by omega)⟩ dX7_laysMoved_223
        · exact cut_29_2 H locs ls (by omega) hH hS (lv_sub hl [0, 1, 2, 3, 4] rfl)
  exact cut_7_1 (((240 - 0 - 0) + 1 : Int).toNat) 0 0 0 AI H locs ls ⟨by decide, by decide⟩ ⟨by decide, by decide⟩ ⟨by decide, by decide⟩ hv hT ha7 (by omega) (fun _ _ => rfl) (ga_0 hA hB (fun _ => rfl)) (by omega) (by omega) hH hS (lv_sub hl [0, 1, 2, 3, 4] rfl)
