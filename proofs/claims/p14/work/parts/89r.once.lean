def rmX7_ringsOncef : Room := { frames := 3, cells := 0, slots := 0, locals := 71 }
set_option maxHeartbeats 4000000 in
set_option maxRecDepth 100000 in
/-- one round -/
theorem c_X7_ringsOncef (l : Launch) (g : gG) (gh : gGh) (T : Nat → Int32) (lc : LC) (my : Nat) (bxb : Nat → Int32) (Ps : Tup → Prop) (Ms : Tup → Int32) (Tk : Nat → Tup) (I : gI) (R : gR) (J : gJ) (AI : gI) (AJ : gJ) (AR : gR) (mo : Nat) (sd : Int) (rr : Int) (n : Int) (was : Int) (rd : Int) (zsd : zr sd) (zrr : zr rr) (zn : zr n) (zwas : zr was) (zrd : zr rd) (hv : mInv g gh R I AI) (hm : gO g mo 7) (hT : AI (gh 50 0) = T) (hs : 0 ≤ sd ∧ sd ≤ 10) (hr0 : 0 ≤ rr ∧ rr < (I mo 2).toInt) (hk : tI T (40 * rr) = 8) (hn : n = tI T (40 * tI T (40 * rr + 2) + 1)) (hw : 0 ≤ was ∧ was ≤ 120) (hw2 : (I mo 26).toInt ≤ 120) (hgm : rgM T rr lc) (hro : rOK lc) (hnb : tI (AI (gh 57 0)) (16 * sd + tI T (40 * rr + 3)) = (my : Int)) (hXb : ∀ q : Nat, q < 720 → AI (gh 56 0) ((11520 * sd + 720 * tI T (40 * rr + 3)).toNat + q) = bxb q) (h120 : my ≤ 120) (hTk : ∀ i : Nat, (i : Int) < was → arT (AI (gh 80 0)) i = Tk i) (hrf : rfI (AI (gh 75 0)) (I mo 26).toInt.toNat Ps (rqM lc bxb my Tk 0 0) Ms (iI rd)) : gMet l g yX7_ringsOnce tsX7_ringsOnce rmX7_ringsOncef [.ref mo, .int (iI sd), .int (iI rr), .int (iI n), .int (iI was), .int (iI rd)] (I, R, J, AI, AJ, AR) (gQi g (fun (z : Int) (w : gS) => R = w.2.1 ∧ J = w.2.2.1 ∧ AJ = w.2.2.2.2.1 ∧ AR = w.2.2.2.2.2 ∧ (mInv g gh R (w.1) (w.2.2.2.1)) ∧ ((w.2.2.2.1) (gh 50 0) = T) ∧ (wF mo I (w.1)) ∧ (z < 0 ∨ (z = 0 ∧ ((w.1) mo 26).toInt ≤ 120 ∧ (I mo 26).toInt ≤ ((w.1) mo 26).toInt ∧ (40 < rd → ((w.1) mo 26).toInt = (I mo 26).toInt))) ∧ (∀ b, b ≠ gh 75 0 → b ≠ gh 77 0 → b ≠ gh 78 0 → (w.2.2.2.1) b = AI b) ∧ ((z = 0 ∧ rfI ((w.2.2.2.1) (gh 75 0)) ((w.1) mo 26).toInt.toNat Ps (rqM lc bxb my Tk was.toNat 0) Ms (iI rd)) ∨ (z = -3 ∧ rd ≤ 40 ∧ bigP 120 (fun s => Ps s ∨ ∃ i, i < was.toNat ∧ rGo lc bxb my (Tk i) s)) ∨ (z = -4 ∧ 40 < rd ∧ ∃ s, ¬ Ps s ∧ ∃ i, i < was.toNat ∧ rGo lc bxb my (Tk i) s)))) := by
  refine gStart (cc := cX7_ringsOnce) (maxL := 12) (ret := (some (.int))) (by decide) rfl (Nat.le_of_ble_eq_true rfl) ?_
  intro p e s m below meth c ls F hr hlk hH hz hS hl
  have hl : lv_has ls 12 [(0, .ref mo), (1, .int (iI sd)), (2, .int (iI rr)), (3, .int (iI n)), (4, .int (iI was)), (5, .int (iI rd))] := hl
  have hS : va_S (gA g) s.heap s.heap [] := hS
  obtain ⟨H, hHe⟩ : ∃ H : Heap, H = s.heap := ⟨_, rfl⟩
  obtain ⟨locs, hlo⟩ : ∃ k : List Loc, k = [] := ⟨_, rfl⟩
  have hH : gH g I R J AI AJ AR H := by rw [hHe]; exact hH
  have hS : va_S (gA g) s.heap H locs := by rw [hHe, hlo]; exact hS
  suffices hw : W p l e rmX7_ringsOncef s m ([.ref mo, .int (iI sd), .int (iI rr), .int (iI n), .int (iI was), .int (iI rd)] : List Value).toArray below meth c H locs 0 0 (MQ below (gQi g (fun (z : Int) (w : gS) => R = w.2.1 ∧ J = w.2.2.1 ∧ AJ = w.2.2.2.2.1 ∧ AR = w.2.2.2.2.2 ∧ (mInv g gh R (w.1) (w.2.2.2.1)) ∧ ((w.2.2.2.1) (gh 50 0) = T) ∧ (wF mo I (w.1)) ∧ (z < 0 ∨ (z = 0 ∧ ((w.1) mo 26).toInt ≤ 120 ∧ (I mo 26).toInt ≤ ((w.1) mo 26).toInt ∧ (40 < rd → ((w.1) mo 26).toInt = (I mo 26).toInt))) ∧ (∀ b, b ≠ gh 75 0 → b ≠ gh 77 0 → b ≠ gh 78 0 → (w.2.2.2.1) b = AI b) ∧ ((z = 0 ∧ rfI ((w.2.2.2.1) (gh 75 0)) ((w.1) mo 26).toInt.toNat Ps (rqM lc bxb my Tk was.toNat 0) Ms (iI rd)) ∨ (z = -3 ∧ rd ≤ 40 ∧ bigP 120 (fun s => Ps s ∨ ∃ i, i < was.toNat ∧ rGo lc bxb my (Tk i) s)) ∨ (z = -4 ∧ 40 < rd ∧ ∃ s, ¬ Ps s ∧ ∃ i, i < was.toNat ∧ rGo lc bxb my (Tk i) s)))) ([.ref mo, .int (iI sd), .int (iI rr), .int (iI n), .int (iI was), .int (iI rd)] : List Value).toArray s 0 0 (gA g)) (F0 m 0 ls []) by
    rw [hHe, hlo] at hw; exact hw
  clear hHe hlo
  have wf : wF mo I I := wF_r
  have hb0 := mJ hv hm
  unfold mNum1 at hb0
  have x := mRow hv hm hT (z := rr) (by omega) (by omega)
  have xa := x.1
  have xc := x.2.2.1
  have xb := x.2.1 (by omega)
  have x8 := x.2.2.2.2.2.2.2.2.2 (by omega)
  obtain ⟨x8a, x8b, x8c, x8d, x8e, x8f, x8g, x8h⟩ := x8
  have y := mRow hv hm hT (z := tI T (40 * rr + 2)) (by omega) (by omega)
  have ya := y.1
  have yc := y.2.2.1
  have v := mRow hv hm hT (z := tI T (40 * rr + 3)) (by omega) (by omega)
  have va := v.1
  have vc := v.2.2.1
  obtain ⟨hgm0, hgm1, hgm2, hgm3, hgm4, hgm5⟩ := hgm
  obtain ⟨r1, r2, r3, r4, r5, r6, r7, r8, r9⟩ := hro
  have iX7 : ∀ w ∈ u_ws RX7 TX7 32, w ∈ tsX7_ringsOnce := fun w h => List.mem_cons_of_mem _ (inTB7 w h)
  have k24 : Cond.fieldLink RX7 24 (TX7 6).1 (TX7 6).2.1 (TX7 6).2.2.1 ∈ tsX7_ringsOnce := List.mem_cons_of_mem _ fl_24
  have k54 : Cond.fieldLink RX7 54 (TX7 30).1 (TX7 30).2.1 (TX7 30).2.2.1 ∈ tsX7_ringsOnce := List.mem_cons_of_mem _ fl_54
  have k48 : Cond.fieldLink RX7 48 (TX7 28).1 (TX7 28).2.1 (TX7 28).2.2.1 ∈ tsX7_ringsOnce := List.mem_cons_of_mem _ fl_48
  have k269 : Cond.fieldLink RX7 269 (TX7 26).1 (TX7 26).2.1 (TX7 26).2.2.1 ∈ tsX7_ringsOnce := List.mem_cons_of_mem _ fl_269
  have k42 : Cond.fieldLink RX7 42 (TX7 25).1 (TX7 25).2.1 (TX7 25).2.2.1 ∈ tsX7_ringsOnce := List.mem_cons_of_mem _ fl_42
  have k45 : Cond.fieldLink RX7 45 (TX7 27).1 (TX7 27).2.1 (TX7 27).2.2.1 ∈ tsX7_ringsOnce := List.mem_cons_of_mem _ fl_45
  refine lv_aload_n F.1 F.2.1 dX7_ringsOnce_0 rfl (lv_at hl 0 rfl) ?_
  refine lv_iload_n F.1 F.2.1 dX7_ringsOnce_1 rfl (lv_at hl 2 rfl) ?_
  have b_1 := mJ hv hm
  unfold mNum1 at b_1
  refine g_calli (g_runV (As := [.int (iI rr)]) (rest := []) (ci := 7) F hl.1 hH hS hz (c_X7_secondOf l g gh T I R J AI AJ AR mo rr zrr hv hm hT (by omega)) (cwV 1 F.2.2.2.2.1 (good_up gT_X7_secondOf) rfl rfl rfl hdX7_secondOf ⟨Nat.le_of_ble_eq_true rfl, Nat.le_of_ble_eq_true rfl⟩) hm (by decide) rfl rfl rfl (Nat.le_of_ble_eq_true rfl) dX7_ringsOnce_2 ⟨Nat.zero_le _, Nat.zero_le _⟩) hS (fun v_8 I_2 R_3 J_4 AI_5 AJ_6 AR_7 H locs zv_8 hp_9 hH hS => ?_)
  dsimp only at hp_9
  obtain ⟨rfl, rfl, rfl, rfl, rfl, rfl, qb⟩ := hp_9
  have va1 : 1 ≤ tI T (40 * v_8 + 1) ∧ tI T (40 * v_8 + 1) ≤ 4 := by rw [qb]; omega
  have hnb9 : tI (AI (gh 57 0)) (16 * sd + v_8) = (my : Int) := by rw [qb]; exact hnb
  have hXb9 : ∀ q : Nat, q < 720 → AI (gh 56 0) ((11520 * sd + 720 * v_8).toNat + q) = bxb q := by rw [qb]; exact hXb
  refine lv_istore (lv' := [(6, .int (iI v_8)), (0, .ref mo), (1, .int (iI sd)), (2, .int (iI rr)), (3, .int (iI n)), (4, .int (iI was)), (5, .int (iI rd))]) F.1 F.2.1 dX7_ringsOnce_5 hl (by decide) rfl (fun ls hl => ?_)
  refine z_iconst F dX7_ringsOnce_7 ?_
  refine lv_istore (lv' := [(7, .int (iI 0)), (6, .int (iI v_8)), (0, .ref mo), (1, .int (iI sd)), (2, .int (iI rr)), (3, .int (iI n)), (4, .int (iI was)), (5, .int (iI rd))]) F.1 F.2.1 dX7_ringsOnce_8 hl (by decide) rfl (fun ls hl => ?_)
  have cut_10_11 : ∀ (NN : Nat) (k : Int) (I_10 : gI) (AI_11 : gI) (H : Heap) (locs : List Loc) (ls : Array Slot), zr k → (mInv g gh R I_10 AI_11) → (AI_11 (gh 50 0) = T) → (wF mo I I_10) → (0 ≤ k ∧ k ≤ was ∧ (I_10 mo 26).toInt ≤ 120 ∧ (I mo 26).toInt ≤ (I_10 mo 26).toInt ∧ (40 < rd → (I_10 mo 26).toInt = (I mo 26).toInt)) → (∀ b, b ≠ gh 75 0 → b ≠ gh 77 0 → b ≠ gh 78 0 → AI_11 b = AI b) → (rfI (AI_11 (gh 75 0)) (I_10 mo 26).toInt.toNat Ps (rqM lc bxb my Tk k.toNat 0) Ms (iI rd)) → (was - k) < ((NN : Nat) : Int) → gH g I_10 R J AI_11 AJ AR H → va_S (gA g) s.heap H locs → lv_has ls 12 [(7, .int (iI k)), (6, .int (iI v_8)), (0, .ref mo), (1, .int (iI sd)), (2, .int (iI rr)), (3, .int (iI n)), (4, .int (iI was)), (5, .int (iI rd))] → W p l e rmX7_ringsOncef s m ([.ref mo, .int (iI sd), .int (iI rr), .int (iI n), .int (iI was), .int (iI rd)] : List Value).toArray below meth c H locs 0 0 (MQ below (gQi g (fun (z : Int) (w : gS) => R = w.2.1 ∧ J = w.2.2.1 ∧ AJ = w.2.2.2.2.1 ∧ AR = w.2.2.2.2.2 ∧ (mInv g gh R (w.1) (w.2.2.2.1)) ∧ ((w.2.2.2.1) (gh 50 0) = T) ∧ (wF mo I (w.1)) ∧ (z < 0 ∨ (z = 0 ∧ ((w.1) mo 26).toInt ≤ 120 ∧ (I mo 26).toInt ≤ ((w.1) mo 26).toInt ∧ (40 < rd → ((w.1) mo 26).toInt = (I mo 26).toInt))) ∧ (∀ b, b ≠ gh 75 0 → b ≠ gh 77 0 → b ≠ gh 78 0 → (w.2.2.2.1) b = AI b) ∧ ((z = 0 ∧ rfI ((w.2.2.2.1) (gh 75 0)) ((w.1) mo 26).toInt.toNat Ps (rqM lc bxb my Tk was.toNat 0) Ms (iI rd)) ∨ (z = -3 ∧ rd ≤ 40 ∧ bigP 120 (fun s => Ps s ∨ ∃ i, i < was.toNat ∧ rGo lc bxb my (Tk i) s)) ∨ (z = -4 ∧ 40 < rd ∧ ∃ s, ¬ Ps s ∧ ∃ i, i < was.toNat ∧ rGo lc bxb my (Tk i) s)))) ([.ref mo, .int (iI sd), .int (iI rr), .int (iI n), .int (iI was), .int (iI rd)] : List Value).toArray s 0 0 (gA g)) (F0 m 10 ls []) := by
    intro NN10
    induction NN10 with
    | zero =>
      intro k I_10 AI_11 H locs ls zk hv hT wf hk1 fW hrf hm10 hH hS hl
      exact absurd hm10 (by omega)
    | succ NN10 ih10 =>
      intro k I_10 AI_11 H locs ls zk hv hT wf hk1 fW hrf hm10 hH hS hl
      have uc_2 : (I_10 mo 2).toInt = (I mo 2).toInt := by rw [wf 2 (by decide)]
      have uc_5 : (I_10 mo 5).toInt = (I mo 5).toInt := by rw [wf 5 (by decide)]
      have uc_14 : (I_10 mo 14).toInt = (I mo 14).toInt := by rw [wf 14 (by decide)]
      have uc_16 : (I_10 mo 16).toInt = (I mo 16).toInt := by rw [wf 16 (by decide)]
      have uc_24 : (I_10 mo 24).toInt = (I mo 24).toInt := by rw [wf 24 (by decide)]
      have h56 : AI_11 (gh 56 0) = AI (gh 56 0) := fW _ (show gh 56 0 ≠ gh 75 0 from mNe hv hm (p := (6, 126720)) (q := (25, 9600)) (by decide) (by decide) (by decide)) (show gh 56 0 ≠ gh 77 0 from mNe hv hm (p := (6, 126720)) (q := (27, 4)) (by decide) (by decide) (by decide)) (show gh 56 0 ≠ gh 78 0 from mNe hv hm (p := (6, 126720)) (q := (28, 8)) (by decide) (by decide) (by decide))
      have h57 : AI_11 (gh 57 0) = AI (gh 57 0) := fW _ (show gh 57 0 ≠ gh 75 0 from mNe hv hm (p := (7, 176)) (q := (25, 9600)) (by decide) (by decide) (by decide)) (show gh 57 0 ≠ gh 77 0 from mNe hv hm (p := (7, 176)) (q := (27, 4)) (by decide) (by decide) (by decide)) (show gh 57 0 ≠ gh 78 0 from mNe hv hm (p := (7, 176)) (q := (28, 8)) (by decide) (by decide) (by decide))
      have h80 : AI_11 (gh 80 0) = AI (gh 80 0) := fW _ (show gh 80 0 ≠ gh 75 0 from mNe hv hm (p := (30, 600)) (q := (25, 9600)) (by decide) (by decide) (by decide)) (show gh 80 0 ≠ gh 77 0 from mNe hv hm (p := (30, 600)) (q := (27, 4)) (by decide) (by decide) (by decide)) (show gh 80 0 ≠ gh 78 0 from mNe hv hm (p := (30, 600)) (q := (28, 8)) (by decide) (by decide) (by decide))
      refine lv_iload F.1 F.2.1 dX7_ringsOnce_10 (lv_at hl 0 rfl) ?_
      refine lv_iload F.1 F.2.1 dX7_ringsOnce_12 (lv_at hl 6 rfl) ?_
      refine z_icmp_ge (tgt := 258) F dX7_ringsOnce_14 (by decide) zk zwas (fun c_13 => ?_) (fun c_13 => ?_)
      · refine z_iconst F dX7_ringsOnce_258 ?_
        exact g_iret F hr hlk hH hS hz ⟨by decide, by decide⟩ ⟨rfl, rfl, rfl, rfl, hv, hT, wf, by first | omega | rfl | (dsimp only; omega), fW, Or.inl ⟨rfl, by rw [← show k.toNat = was.toNat by omega]; exact hrf⟩⟩ dX7_ringsOnce_259
      · refine z_iconst F dX7_ringsOnce_17 ?_
        refine lv_istore (lv' := [(8, .int (iI 0)), (7, .int (iI k)), (6, .int (iI v_8)), (0, .ref mo), (1, .int (iI sd)), (2, .int (iI rr)), (3, .int (iI n)), (4, .int (iI was)), (5, .int (iI rd))]) F.1 F.2.1 dX7_ringsOnce_18 hl (by decide) rfl (fun ls hl => ?_)
        have cut_20_15 : ∀ (NN : Nat) (jj : Int) (I_14 : gI) (AI_15 : gI) (H : Heap) (locs : List Loc) (ls : Array Slot), zr jj → (mInv g gh R I_14 AI_15) → (AI_15 (gh 50 0) = T) → (wF mo I I_14) → (0 ≤ jj ∧ jj ≤ 120 ∧ (I_14 mo 26).toInt ≤ 120 ∧ (I mo 26).toInt ≤ (I_14 mo 26).toInt ∧ (40 < rd → (I_14 mo 26).toInt = (I mo 26).toInt)) → (∀ b, b ≠ gh 75 0 → b ≠ gh 77 0 → b ≠ gh 78 0 → AI_15 b = AI b) → (rfI (AI_15 (gh 75 0)) (I_14 mo 26).toInt.toNat Ps (rqM lc bxb my Tk k.toNat jj.toNat) Ms (iI rd)) → (jj ≤ (my : Int)) → (120 - jj) < ((NN : Nat) : Int) → gH g I_14 R J AI_15 AJ AR H → va_S (gA g) s.heap H locs → lv_has ls 12 [(8, .int (iI jj)), (7, .int (iI k)), (6, .int (iI v_8)), (0, .ref mo), (1, .int (iI sd)), (2, .int (iI rr)), (3, .int (iI n)), (4, .int (iI was)), (5, .int (iI rd))] → W p l e rmX7_ringsOncef s m ([.ref mo, .int (iI sd), .int (iI rr), .int (iI n), .int (iI was), .int (iI rd)] : List Value).toArray below meth c H locs 0 0 (MQ below (gQi g (fun (z : Int) (w : gS) => R = w.2.1 ∧ J = w.2.2.1 ∧ AJ = w.2.2.2.2.1 ∧ AR = w.2.2.2.2.2 ∧ (mInv g gh R (w.1) (w.2.2.2.1)) ∧ ((w.2.2.2.1) (gh 50 0) = T) ∧ (wF mo I (w.1)) ∧ (z < 0 ∨ (z = 0 ∧ ((w.1) mo 26).toInt ≤ 120 ∧ (I mo 26).toInt ≤ ((w.1) mo 26).toInt ∧ (40 < rd → ((w.1) mo 26).toInt = (I mo 26).toInt))) ∧ (∀ b, b ≠ gh 75 0 → b ≠ gh 77 0 → b ≠ gh 78 0 → (w.2.2.2.1) b = AI b) ∧ ((z = 0 ∧ rfI ((w.2.2.2.1) (gh 75 0)) ((w.1) mo 26).toInt.toNat Ps (rqM lc bxb my Tk was.toNat 0) Ms (iI rd)) ∨ (z = -3 ∧ rd ≤ 40 ∧ bigP 120 (fun s => Ps s ∨ ∃ i, i < was.toNat ∧ rGo lc bxb my (Tk i) s)) ∨ (z = -4 ∧ 40 < rd ∧ ∃ s, ¬ Ps s ∧ ∃ i, i < was.toNat ∧ rGo lc bxb my (Tk i) s)))) ([.ref mo, .int (iI sd), .int (iI rr), .int (iI n), .int (iI was), .int (iI rd)] : List Value).toArray s 0 0 (gA g)) (F0 m 20 ls []) := by
          intro NN20
          induction NN20 with
          | zero =>
            intro jj I_14 AI_15 H locs ls zjj hv hT wf hj fW hrf hjm9 hm20 hH hS hl
            exact absurd hm20 (by omega)
          | succ NN20 ih20 =>
            intro jj I_14 AI_15 H locs ls zjj hv hT wf hj fW hrf hjm9 hm20 hH hS hl
            have uc_2 : (I_14 mo 2).toInt = (I mo 2).toInt := by rw [wf 2 (by decide)]
            have uc_5 : (I_14 mo 5).toInt = (I mo 5).toInt := by rw [wf 5 (by decide)]
            have uc_14 : (I_14 mo 14).toInt = (I mo 14).toInt := by rw [wf 14 (by decide)]
            have uc_16 : (I_14 mo 16).toInt = (I mo 16).toInt := by rw [wf 16 (by decide)]
            have uc_24 : (I_14 mo 24).toInt = (I mo 24).toInt := by rw [wf 24 (by decide)]
            have h56 : AI_15 (gh 56 0) = AI (gh 56 0) := fW _ (show gh 56 0 ≠ gh 75 0 from mNe hv hm (p := (6, 126720)) (q := (25, 9600)) (by decide) (by decide) (by decide)) (show gh 56 0 ≠ gh 77 0 from mNe hv hm (p := (6, 126720)) (q := (27, 4)) (by decide) (by decide) (by decide)) (show gh 56 0 ≠ gh 78 0 from mNe hv hm (p := (6, 126720)) (q := (28, 8)) (by decide) (by decide) (by decide))
            have h57 : AI_15 (gh 57 0) = AI (gh 57 0) := fW _ (show gh 57 0 ≠ gh 75 0 from mNe hv hm (p := (7, 176)) (q := (25, 9600)) (by decide) (by decide) (by decide)) (show gh 57 0 ≠ gh 77 0 from mNe hv hm (p := (7, 176)) (q := (27, 4)) (by decide) (by decide) (by decide)) (show gh 57 0 ≠ gh 78 0 from mNe hv hm (p := (7, 176)) (q := (28, 8)) (by decide) (by decide) (by decide))
            have h80 : AI_15 (gh 80 0) = AI (gh 80 0) := fW _ (show gh 80 0 ≠ gh 75 0 from mNe hv hm (p := (30, 600)) (q := (25, 9600)) (by decide) (by decide) (by decide)) (show gh 80 0 ≠ gh 77 0 from mNe hv hm (p := (30, 600)) (q := (27, 4)) (by decide) (by decide) (by decide)) (show gh 80 0 ≠ gh 78 0 from mNe hv hm (p := (30, 600)) (q := (28, 8)) (by decide) (by decide) (by decide))
            refine lv_iload F.1 F.2.1 dX7_ringsOnce_20 (lv_at hl 0 rfl) ?_
            refine lv_aload_n F.1 F.2.1 dX7_ringsOnce_22 rfl (lv_at hl 3 rfl) ?_
            refine lv_iload_n F.1 F.2.1 dX7_ringsOnce_23 rfl (lv_at hl 4 rfl) ?_
            refine lv_iload F.1 F.2.1 dX7_ringsOnce_24 (lv_at hl 2 rfl) ?_
            have b_17 := mJ hv hm
            unfold mNum1 at b_17
            refine g_calli (g_runV (As := [.int (iI sd), .int (iI v_8)]) (rest := [.int (iI jj)]) (ci := 7) F hl.1 hH hS hz (c_X7_sizeOf l g gh T I_14 R J AI_15 AJ AR mo sd v_8 zsd zv_8 hv hm hT (by omega) (by omega)) (cwV 2 F.2.2.2.2.1 (good_up gT_X7_sizeOf) rfl rfl rfl hdX7_sizeOf ⟨Nat.le_of_ble_eq_true rfl, Nat.le_of_ble_eq_true rfl⟩) hm (by decide) rfl rfl rfl (Nat.le_of_ble_eq_true rfl) dX7_ringsOnce_26 ⟨Nat.zero_le _, Nat.zero_le _⟩) hS (fun v_24 I_18 R_19 J_20 AI_21 AJ_22 AR_23 H locs zv_24 hp_25 hH hS => ?_)
            dsimp only at hp_25
            obtain ⟨rfl, rfl, rfl, rfl, rfl, rfl, q_26, qz26⟩ := hp_25
            have hsqz26 : v_24 = (my : Int) := by rw [qz26, h57]; exact hnb9
            refine z_icmp_ge (tgt := 252) F dX7_ringsOnce_29 (by decide) zjj zv_24 (fun c_27 => ?_) (fun c_27 => ?_)
            · have hrf8 := rfI_q hrf (Q' := (rqM lc bxb my Tk (k + 1).toNat 0)) (fun s => by rw [show (k + 1).toNat = k.toNat + 1 by omega, show jj.toNat = my by omega]; exact or_congr Iff.rfl rqM_r)
              refine z_iinc (lv' := [(7, .int (iI (k + 1))), (8, .int (iI jj)), (6, .int (iI v_8)), (0, .ref mo), (1, .int (iI sd)), (2, .int (iI rr)), (3, .int (iI n)), (4, .int (iI was)), (5, .int (iI rd))]) F dX7_ringsOnce_252 hl (k := 1) rfl (by decide) rfl (fun ls hl => ?_)
              refine z_goto (tgt := 10) F dX7_ringsOnce_255 (by decide) ?_
              exact ih10 (k + 1) I_14 AI_15 H locs ls ⟨by omega, by omega⟩ hv hT wf (by omega) fW hrf8 (by omega) hH hS (lv_sub hl [0, 2, 3, 4, 5, 6, 7, 8] rfl)
            · refine lv_iload_n F.1 F.2.1 dX7_ringsOnce_32 rfl (lv_at hl 4 rfl) ?_
              refine lv_iload F.1 F.2.1 dX7_ringsOnce_33 (lv_at hl 2 rfl) ?_
              refine lv_iload F.1 F.2.1 dX7_ringsOnce_35 (lv_at hl 0 rfl) ?_
              refine g_calli (g_runS (As := [.int (iI sd), .int (iI v_8), .int (iI jj)]) (rest := []) F hl.1 hH hS hz (c_X7_spot l g  I_14 R J AI_15 AJ AR sd v_8 jj zsd zv_8 zjj (by omega) (by omega) (by omega)) (va_cwS 3 F.2.2.2.2.1 (good_up gT_X7_spot) rfl rfl rfl hdX7_spot.2 ⟨Nat.le_of_ble_eq_true rfl, Nat.le_of_ble_eq_true rfl⟩) rfl rfl (Nat.le_of_ble_eq_true rfl) dX7_ringsOnce_37 ⟨Nat.zero_le _, Nat.zero_le _⟩) hS (fun v_34 I_28 R_29 J_30 AI_31 AJ_32 AR_33 H locs zv_34 hp_35 hH hS => ?_)
              dsimp only at hp_35
              obtain ⟨rfl, rfl, rfl, rfl, rfl, rfl, q_36⟩ := hp_35
              refine lv_istore (lv' := [(9, .int (iI v_34)), (8, .int (iI jj)), (7, .int (iI k)), (6, .int (iI v_8)), (0, .ref mo), (1, .int (iI sd)), (2, .int (iI rr)), (3, .int (iI n)), (4, .int (iI was)), (5, .int (iI rd))]) F.1 F.2.1 dX7_ringsOnce_40 hl (by decide) rfl (fun ls hl => ?_)
              refine lv_aload_n F.1 F.2.1 dX7_ringsOnce_42 rfl (lv_at hl 4 rfl) ?_
              obtain ⟨r_37a, r_37b⟩ : R mo 6 = some (gh 56 0) ∧ gAr g (gh 56 0) 9 126720 := mR hv hm (q := (6, 126720)) (by decide)
              refine g_getR (ci := 7) (k := 6) F hH rfl (by decide) iX7 hm (by decide) rfl (b := gh 56 0) r_37a k24 dX7_ringsOnce_43 ?_
              refine lv_iload F.1 F.2.1 dX7_ringsOnce_46 (lv_at hl 0 rfl) ?_
              refine z_iconst F dX7_ringsOnce_48 ?_
              refine z_iadd F dX7_ringsOnce_49 ?_
              have hx50 : 0 ≤ (v_34 + 4) ∧ (v_34 + 4) < ((126720 : Nat) : Int) ∧ (v_34 + 4) ≤ 2147483647 := ⟨by omega, by omega, by omega⟩
              refine g_iald F hH r_37b hx50.1 hx50.2.1 hx50.2.2 dX7_ringsOnce_50 ?_
              refine z_name (fun v_38 ev_38 => ?_)
              have zv_38 : zr v_38 := by rw [ev_38]; exact zr_t _
              have c50 : iI v_38 = bxb (6 * jj.toNat + 4) := by rw [ev_38, iI_self, h56, ← hXb9 _ (by omega)]; congr 1; omega
              refine z_if_le (tgt := 246) F dX7_ringsOnce_51 (by decide) zv_38 (fun c_39 => ?_) (fun c_39 => ?_)
              · have hrf9 := rfI_q hrf (Q' := (rqM lc bxb my Tk k.toNat (jj + 1).toNat)) (fun s => by rw [show (jj + 1).toNat = jj.toNat + 1 by omega]; exact or_congr Iff.rfl (rqM_3 (fun h9 => by have h8 := h9.1; rw [← c50, iI_val zv_38] at h8; omega)))
                refine z_iinc (lv' := [(8, .int (iI (jj + 1))), (9, .int (iI v_34)), (7, .int (iI k)), (6, .int (iI v_8)), (0, .ref mo), (1, .int (iI sd)), (2, .int (iI rr)), (3, .int (iI n)), (4, .int (iI was)), (5, .int (iI rd))]) F dX7_ringsOnce_246 hl (k := 1) rfl (by decide) rfl (fun ls hl => ?_)
                refine z_goto (tgt := 20) F dX7_ringsOnce_249 (by decide) ?_
                exact ih20 (jj + 1) I_14 AI_15 H locs ls ⟨by omega, by omega⟩ hv hT wf (by omega) fW hrf9 (by omega) (by omega) hH hS (lv_sub hl [0, 2, 3, 4, 5, 6, 7, 8, 9] rfl)
              · refine lv_aload_n F.1 F.2.1 dX7_ringsOnce_54 rfl (lv_at hl 4 rfl) ?_
                obtain ⟨r_40a, r_40b⟩ : R mo 30 = some (gh 80 0) ∧ gAr g (gh 80 0) 9 600 := mR hv hm (q := (30, 600)) (by decide)
                refine g_getR (ci := 7) (k := 30) F hH rfl (by decide) iX7 hm (by decide) rfl (b := gh 80 0) r_40a k54 dX7_ringsOnce_55 ?_
                refine z_iconst F dX7_ringsOnce_58 ?_
                refine lv_iload F.1 F.2.1 dX7_ringsOnce_59 (lv_at hl 2 rfl) ?_
                refine z_imul F dX7_ringsOnce_61 ?_
                refine lv_aload_n F.1 F.2.1 dX7_ringsOnce_62 rfl (lv_at hl 4 rfl) ?_
                refine lv_iload_n F.1 F.2.1 dX7_ringsOnce_63 rfl (lv_at hl 6 rfl) ?_
                refine z_iconst F dX7_ringsOnce_64 ?_
                refine z_iconst F dX7_ringsOnce_65 ?_
                refine g_calli (g_runV (As := [.int (iI rr), .int (iI 0), .int (iI 0)]) (rest := [.int (iI (4 * k)), .ref (gh 80 0)]) (ci := 7) F hl.1 hH hS hz (c_X7_part l g gh T I_14 R J AI_15 AJ AR mo rr 0 0 zrr ⟨by decide, by decide⟩ ⟨by decide, by decide⟩ hv hm hT (by omega) (by omega) (by omega)) (cwV 3 F.2.2.2.2.1 (good_up gT_X7_part) rfl rfl rfl hdX7_part ⟨Nat.le_of_ble_eq_true rfl, Nat.le_of_ble_eq_true rfl⟩) hm (by decide) rfl rfl rfl (Nat.le_of_ble_eq_true rfl) dX7_ringsOnce_66 ⟨Nat.zero_le _, Nat.zero_le _⟩) hS (fun v_47 I_41 R_42 J_43 AI_44 AJ_45 AR_46 H locs zv_47 hp_48 hH hS => ?_)
                dsimp only at hp_48
                obtain ⟨rfl, rfl, rfl, rfl, rfl, rfl, qp0⟩ := hp_48
                refine z_iadd F dX7_ringsOnce_69 ?_
                have hx70 : 0 ≤ ((4 * k) + v_47) ∧ ((4 * k) + v_47) < ((600 : Nat) : Int) ∧ ((4 * k) + v_47) ≤ 2147483647 := ⟨by omega, by omega, by omega⟩
                refine g_iald F hH r_40b hx70.1 hx70.2.1 hx70.2.2 dX7_ringsOnce_70 ?_
                refine z_name (fun v_49 ev_49 => ?_)
                have zv_49 : zr v_49 := by rw [ev_49]; exact zr_t _
                have c70 : iI v_49 = tg (Tk k.toNat) (lc.1 7).toNat := by rw [ev_49, iI_self, h80, ← hTk k.toNat (by omega), arT_at (by omega)]; congr 1; omega
                refine lv_aload_n F.1 F.2.1 dX7_ringsOnce_71 rfl (lv_at hl 4 rfl) ?_
                refine g_getR (ci := 7) (k := 6) F hH rfl (by decide) iX7 hm (by decide) rfl (b := gh 56 0) r_37a k24 dX7_ringsOnce_72 ?_
                refine lv_iload F.1 F.2.1 dX7_ringsOnce_75 (lv_at hl 0 rfl) ?_
                refine lv_aload_n F.1 F.2.1 dX7_ringsOnce_77 rfl (lv_at hl 4 rfl) ?_
                refine lv_iload_n F.1 F.2.1 dX7_ringsOnce_78 rfl (lv_at hl 6 rfl) ?_
                refine z_iconst F dX7_ringsOnce_79 ?_
                refine z_iconst F dX7_ringsOnce_80 ?_
                refine g_calli (g_runV (As := [.int (iI rr), .int (iI 0), .int (iI 1)]) (rest := [.int (iI v_34), .ref (gh 56 0), .int (iI v_49)]) (ci := 7) F hl.1 hH hS hz (c_X7_part l g gh T I_14 R J AI_15 AJ AR mo rr 0 1 zrr ⟨by decide, by decide⟩ ⟨by decide, by decide⟩ hv hm hT (by omega) (by omega) (by omega)) (cwV 3 F.2.2.2.2.1 (good_up gT_X7_part) rfl rfl rfl hdX7_part ⟨Nat.le_of_ble_eq_true rfl, Nat.le_of_ble_eq_true rfl⟩) hm (by decide) rfl rfl rfl (Nat.le_of_ble_eq_true rfl) dX7_ringsOnce_81 ⟨Nat.zero_le _, Nat.zero_le _⟩) hS (fun v_56 I_50 R_51 J_52 AI_53 AJ_54 AR_55 H locs zv_56 hp_57 hH hS => ?_)
                dsimp only at hp_57
                obtain ⟨rfl, rfl, rfl, rfl, rfl, rfl, qp1⟩ := hp_57
                refine z_iadd F dX7_ringsOnce_84 ?_
                have hx85 : 0 ≤ (v_34 + v_56) ∧ (v_34 + v_56) < ((126720 : Nat) : Int) ∧ (v_34 + v_56) ≤ 2147483647 := ⟨by omega, by omega, by omega⟩
                refine g_iald F hH r_37b hx85.1 hx85.2.1 hx85.2.2 dX7_ringsOnce_85 ?_
                refine z_name (fun v_58 ev_58 => ?_)
                have zv_58 : zr v_58 := by rw [ev_58]; exact zr_t _
                have c85 : iI v_58 = tg (tup bxb jj.toNat) (lc.1 8).toNat := by rw [ev_58, iI_self, h56, tg_up _ (by omega), ← hXb9 _ (by omega)]; congr 1; omega
                refine z_icmp_eq (tgt := 92) F dX7_ringsOnce_86 (by decide) zv_49 zv_58 (fun c_59 => ?_) (fun c_59 => ?_)
                · have hap : 0 < (bxb (6 * jj.toNat + 4)).toInt := by rw [← c50, iI_val zv_38]; omega
                  have hmt : tg (Tk k.toNat) (lc.1 7).toNat = tg (tup bxb jj.toNat) (lc.1 8).toNat := by rw [← c70, ← c85, show v_49 = v_58 by omega]
                  refine z_iconst F dX7_ringsOnce_92 ?_
                  refine lv_istore (lv' := [(10, .int (iI 0)), (9, .int (iI v_34)), (8, .int (iI jj)), (7, .int (iI k)), (6, .int (iI v_8)), (0, .ref mo), (1, .int (iI sd)), (2, .int (iI rr)), (3, .int (iI n)), (4, .int (iI was)), (5, .int (iI rd))]) F.1 F.2.1 dX7_ringsOnce_93 hl (by decide) rfl (fun ls hl => ?_)
                  have cut_95_60 : ∀ (NN : Nat) (i : Int) (AI_60 : gI) (H : Heap) (locs : List Loc) (ls : Array Slot), zr i → (mInv g gh R I_14 AI_60) → (AI_60 (gh 50 0) = T) → (0 ≤ i ∧ i ≤ n) → (∀ b, b ≠ gh 75 0 → b ≠ gh 77 0 → b ≠ gh 78 0 → AI_60 b = AI b) → (rfI (AI_60 (gh 75 0)) (I_14 mo 26).toInt.toNat Ps (rqM lc bxb my Tk k.toNat jj.toNat) Ms (iI rd)) → (∀ j : Nat, (j : Int) < i → AI_60 (gh 78 0) j = tg (Tk k.toNat) j) → (n - i) < ((NN : Nat) : Int) → gH g I_14 R J AI_60 AJ AR H → va_S (gA g) s.heap H locs → lv_has ls 12 [(10, .int (iI i)), (9, .int (iI v_34)), (8, .int (iI jj)), (7, .int (iI k)), (6, .int (iI v_8)), (0, .ref mo), (1, .int (iI sd)), (2, .int (iI rr)), (3, .int (iI n)), (4, .int (iI was)), (5, .int (iI rd))] → W p l e rmX7_ringsOncef s m ([.ref mo, .int (iI sd), .int (iI rr), .int (iI n), .int (iI was), .int (iI rd)] : List Value).toArray below meth c H locs 0 0 (MQ below (gQi g (fun (z : Int) (w : gS) => R = w.2.1 ∧ J = w.2.2.1 ∧ AJ = w.2.2.2.2.1 ∧ AR = w.2.2.2.2.2 ∧ (mInv g gh R (w.1) (w.2.2.2.1)) ∧ ((w.2.2.2.1) (gh 50 0) = T) ∧ (wF mo I (w.1)) ∧ (z < 0 ∨ (z = 0 ∧ ((w.1) mo 26).toInt ≤ 120 ∧ (I mo 26).toInt ≤ ((w.1) mo 26).toInt ∧ (40 < rd → ((w.1) mo 26).toInt = (I mo 26).toInt))) ∧ (∀ b, b ≠ gh 75 0 → b ≠ gh 77 0 → b ≠ gh 78 0 → (w.2.2.2.1) b = AI b) ∧ ((z = 0 ∧ rfI ((w.2.2.2.1) (gh 75 0)) ((w.1) mo 26).toInt.toNat Ps (rqM lc bxb my Tk was.toNat 0) Ms (iI rd)) ∨ (z = -3 ∧ rd ≤ 40 ∧ bigP 120 (fun s => Ps s ∨ ∃ i, i < was.toNat ∧ rGo lc bxb my (Tk i) s)) ∨ (z = -4 ∧ 40 < rd ∧ ∃ s, ¬ Ps s ∧ ∃ i, i < was.toNat ∧ rGo lc bxb my (Tk i) s)))) ([.ref mo, .int (iI sd), .int (iI rr), .int (iI n), .int (iI was), .int (iI rd)] : List Value).toArray s 0 0 (gA g)) (F0 m 95 ls []) := by
                    intro NN95
                    induction NN95 with
                    | zero =>
                      intro i AI_60 H locs ls zi hv hT hi fW hrf hov hm95 hH hS hl
                      exact absurd hm95 (by omega)
                    | succ NN95 ih95 =>
                      intro i AI_60 H locs ls zi hv hT hi fW hrf hov hm95 hH hS hl
                      have h56 : AI_60 (gh 56 0) = AI (gh 56 0) := fW _ (show gh 56 0 ≠ gh 75 0 from mNe hv hm (p := (6, 126720)) (q := (25, 9600)) (by decide) (by decide) (by decide)) (show gh 56 0 ≠ gh 77 0 from mNe hv hm (p := (6, 126720)) (q := (27, 4)) (by decide) (by decide) (by decide)) (show gh 56 0 ≠ gh 78 0 from mNe hv hm (p := (6, 126720)) (q := (28, 8)) (by decide) (by decide) (by decide))
                      have h57 : AI_60 (gh 57 0) = AI (gh 57 0) := fW _ (show gh 57 0 ≠ gh 75 0 from mNe hv hm (p := (7, 176)) (q := (25, 9600)) (by decide) (by decide) (by decide)) (show gh 57 0 ≠ gh 77 0 from mNe hv hm (p := (7, 176)) (q := (27, 4)) (by decide) (by decide) (by decide)) (show gh 57 0 ≠ gh 78 0 from mNe hv hm (p := (7, 176)) (q := (28, 8)) (by decide) (by decide) (by decide))
                      have h80 : AI_60 (gh 80 0) = AI (gh 80 0) := fW _ (show gh 80 0 ≠ gh 75 0 from mNe hv hm (p := (30, 600)) (q := (25, 9600)) (by decide) (by decide) (by decide)) (show gh 80 0 ≠ gh 77 0 from mNe hv hm (p := (30, 600)) (q := (27, 4)) (by decide) (by decide) (by decide)) (show gh 80 0 ≠ gh 78 0 from mNe hv hm (p := (30, 600)) (q := (28, 8)) (by decide) (by decide) (by decide))
                      refine lv_iload F.1 F.2.1 dX7_ringsOnce_95 (lv_at hl 0 rfl) ?_
                      refine lv_iload_n F.1 F.2.1 dX7_ringsOnce_97 rfl (lv_at hl 8 rfl) ?_
                      refine z_icmp_ge (tgt := 126) F dX7_ringsOnce_98 (by decide) zi zn (fun c_62 => ?_) (fun c_62 => ?_)
                      · have hov : ∀ j : Nat, (j : Int) < n + 0 → AI_60 (gh 78 0) j = sdH lc (Tk k.toNat) (tup bxb jj.toNat) j := fun j hj => by unfold sdH; rw [if_pos (by omega)]; exact hov j (by omega)
                        refine z_iconst F dX7_ringsOnce_126 ?_
                        refine lv_istore (lv' := [(10, .int (iI 0)), (9, .int (iI v_34)), (8, .int (iI jj)), (7, .int (iI k)), (6, .int (iI v_8)), (0, .ref mo), (1, .int (iI sd)), (2, .int (iI rr)), (3, .int (iI n)), (4, .int (iI was)), (5, .int (iI rd))]) F.1 F.2.1 dX7_ringsOnce_127 hl (by decide) rfl (fun ls hl => ?_)
                        have cut_129_63 : ∀ (NN : Nat) (i : Int) (AI_63 : gI) (H : Heap) (locs : List Loc) (ls : Array Slot), zr i → (mInv g gh R I_14 AI_63) → (AI_63 (gh 50 0) = T) → (0 ≤ i ∧ i ≤ 4) → (∀ b, b ≠ gh 75 0 → b ≠ gh 77 0 → b ≠ gh 78 0 → AI_63 b = AI b) → (rfI (AI_63 (gh 75 0)) (I_14 mo 26).toInt.toNat Ps (rqM lc bxb my Tk k.toNat jj.toNat) Ms (iI rd)) → (∀ j : Nat, (j : Int) < n + i → AI_63 (gh 78 0) j = sdH lc (Tk k.toNat) (tup bxb jj.toNat) j) → (4 - i) < ((NN : Nat) : Int) → gH g I_14 R J AI_63 AJ AR H → va_S (gA g) s.heap H locs → lv_has ls 12 [(10, .int (iI i)), (9, .int (iI v_34)), (8, .int (iI jj)), (7, .int (iI k)), (6, .int (iI v_8)), (0, .ref mo), (1, .int (iI sd)), (2, .int (iI rr)), (3, .int (iI n)), (4, .int (iI was)), (5, .int (iI rd))] → W p l e rmX7_ringsOncef s m ([.ref mo, .int (iI sd), .int (iI rr), .int (iI n), .int (iI was), .int (iI rd)] : List Value).toArray below meth c H locs 0 0 (MQ below (gQi g (fun (z : Int) (w : gS) => R = w.2.1 ∧ J = w.2.2.1 ∧ AJ = w.2.2.2.2.1 ∧ AR = w.2.2.2.2.2 ∧ (mInv g gh R (w.1) (w.2.2.2.1)) ∧ ((w.2.2.2.1) (gh 50 0) = T) ∧ (wF mo I (w.1)) ∧ (z < 0 ∨ (z = 0 ∧ ((w.1) mo 26).toInt ≤ 120 ∧ (I mo 26).toInt ≤ ((w.1) mo 26).toInt ∧ (40 < rd → ((w.1) mo 26).toInt = (I mo 26).toInt))) ∧ (∀ b, b ≠ gh 75 0 → b ≠ gh 77 0 → b ≠ gh 78 0 → (w.2.2.2.1) b = AI b) ∧ ((z = 0 ∧ rfI ((w.2.2.2.1) (gh 75 0)) ((w.1) mo 26).toInt.toNat Ps (rqM lc bxb my Tk was.toNat 0) Ms (iI rd)) ∨ (z = -3 ∧ rd ≤ 40 ∧ bigP 120 (fun s => Ps s ∨ ∃ i, i < was.toNat ∧ rGo lc bxb my (Tk i) s)) ∨ (z = -4 ∧ 40 < rd ∧ ∃ s, ¬ Ps s ∧ ∃ i, i < was.toNat ∧ rGo lc bxb my (Tk i) s)))) ([.ref mo, .int (iI sd), .int (iI rr), .int (iI n), .int (iI was), .int (iI rd)] : List Value).toArray s 0 0 (gA g)) (F0 m 129 ls []) := by
                          intro NN129
                          induction NN129 with
                          | zero =>
                            intro i AI_63 H locs ls zi hv hT hi2 fW hrf hov hm129 hH hS hl
                            exact absurd hm129 (by omega)
                          | succ NN129 ih129 =>
                            intro i AI_63 H locs ls zi hv hT hi2 fW hrf hov hm129 hH hS hl
                            have h56 : AI_63 (gh 56 0) = AI (gh 56 0) := fW _ (show gh 56 0 ≠ gh 75 0 from mNe hv hm (p := (6, 126720)) (q := (25, 9600)) (by decide) (by decide) (by decide)) (show gh 56 0 ≠ gh 77 0 from mNe hv hm (p := (6, 126720)) (q := (27, 4)) (by decide) (by decide) (by decide)) (show gh 56 0 ≠ gh 78 0 from mNe hv hm (p := (6, 126720)) (q := (28, 8)) (by decide) (by decide) (by decide))
                            have h57 : AI_63 (gh 57 0) = AI (gh 57 0) := fW _ (show gh 57 0 ≠ gh 75 0 from mNe hv hm (p := (7, 176)) (q := (25, 9600)) (by decide) (by decide) (by decide)) (show gh 57 0 ≠ gh 77 0 from mNe hv hm (p := (7, 176)) (q := (27, 4)) (by decide) (by decide) (by decide)) (show gh 57 0 ≠ gh 78 0 from mNe hv hm (p := (7, 176)) (q := (28, 8)) (by decide) (by decide) (by decide))
                            have h80 : AI_63 (gh 80 0) = AI (gh 80 0) := fW _ (show gh 80 0 ≠ gh 75 0 from mNe hv hm (p := (30, 600)) (q := (25, 9600)) (by decide) (by decide) (by decide)) (show gh 80 0 ≠ gh 77 0 from mNe hv hm (p := (30, 600)) (q := (27, 4)) (by decide) (by decide) (by decide)) (show gh 80 0 ≠ gh 78 0 from mNe hv hm (p := (30, 600)) (q := (28, 8)) (by decide) (by decide) (by decide))
                            refine lv_iload F.1 F.2.1 dX7_ringsOnce_129 (lv_at hl 0 rfl) ?_
                            refine lv_aload_n F.1 F.2.1 dX7_ringsOnce_131 rfl (lv_at hl 5 rfl) ?_
                            refine lv_iload F.1 F.2.1 dX7_ringsOnce_132 (lv_at hl 4 rfl) ?_
                            refine g_calli (g_runV (As := [.int (iI v_8)]) (rest := [.int (iI i)]) (ci := 7) F hl.1 hH hS hz (c_X7_columnsOf l g gh T I_14 R J AI_63 AJ AR mo v_8 zv_8 hv hm hT (by omega)) (cwV 1 F.2.2.2.2.1 (good_up gT_X7_columnsOf) rfl rfl rfl hdX7_columnsOf ⟨Nat.le_of_ble_eq_true rfl, Nat.le_of_ble_eq_true rfl⟩) hm (by decide) rfl rfl rfl (Nat.le_of_ble_eq_true rfl) dX7_ringsOnce_134 ⟨Nat.zero_le _, Nat.zero_le _⟩) hS (fun v_71 I_65 R_66 J_67 AI_68 AJ_69 AR_70 H locs zv_71 hp_72 hH hS => ?_)
                            dsimp only at hp_72
                            obtain ⟨rfl, rfl, rfl, rfl, rfl, rfl, q134⟩ := hp_72
                            have hcb : v_71 = lc.1 6 := by rw [q134, qb]; exact hgm3
                            refine z_icmp_ge (tgt := 165) F dX7_ringsOnce_137 (by decide) zi zv_71 (fun c_73 => ?_) (fun c_73 => ?_)
                            · have hS9 : trT lc (AI_63 (gh 78 0)) = (trT lc (sdH lc (Tk k.toNat) (tup bxb jj.toNat))) := trT_cg (fun q hq hn => hov _ (by have h9 := r9 q hq; omega))
                              refine lv_aload_n F.1 F.2.1 dX7_ringsOnce_165 rfl (lv_at hl 5 rfl) ?_
                              refine lv_iload_n F.1 F.2.1 dX7_ringsOnce_166 rfl (lv_at hl 7 rfl) ?_
                              refine z_iconst F dX7_ringsOnce_167 ?_
                              refine lv_iload_n F.1 F.2.1 dX7_ringsOnce_168 rfl (lv_at hl 8 rfl) ?_
                              refine g_callv (g_runV (As := [.int (iI rr), .int (iI 1), .int (iI n)]) (rest := []) (ci := 7) F hl.1 hH hS hz (c_X7_termsf l g gh T lc (AI_63 (gh 78 0)) I_14 R J AI_63 AJ AR mo rr 1 n zrr ⟨by decide, by decide⟩ zn hv hm hT (by omega) (by omega) (fun k h0 h1 h2 => x8g k h0 (by omega)) hgm0 (by omega) (fun _ _ => rfl)) (cwV 3 F.2.2.2.2.1 (good_up gT_X7_terms) rfl rfl rfl hdX7_terms ⟨Nat.le_of_ble_eq_true rfl, Nat.le_of_ble_eq_true rfl⟩) hm (by decide) rfl rfl rfl (Nat.le_of_ble_eq_true rfl) dX7_ringsOnce_169 ⟨Nat.zero_le _, Nat.zero_le _⟩) hS (fun I_74 R_75 J_76 AI_77 AJ_78 AR_79 H locs hp_80 hH hS => ?_)
                              dsimp only at hp_80
                              obtain ⟨rfl, rfl, rfl, rfl, rfl, hv, hT, fWq, trq⟩ := hp_80
                              have hkt : ∀ q, q < 4 → AI_77 (gh 77 0) q = tg (trT lc (sdH lc (Tk k.toNat) (tup bxb jj.toNat))) q := fun q hq => by rw [trq q hq, hS9]
                              have hrf : rfI (AI_77 (gh 75 0)) (I_14 mo 26).toInt.toNat Ps (rqM lc bxb my Tk k.toNat jj.toNat) Ms (iI rd) := by rw [fWq _ (show gh 75 0 ≠ gh 77 0 from mNe hv hm (p := (25, 9600)) (q := (27, 4)) (by decide) (by decide) (by decide))]; exact hrf
                              have fW : ∀ b, b ≠ gh 75 0 → b ≠ gh 77 0 → b ≠ gh 78 0 → AI_77 b = AI b := fun b h1 h2 h3 => (fWq b h2).trans (fW b h1 h2 h3)
                              clear fWq trq
                              refine lv_aload_n F.1 F.2.1 dX7_ringsOnce_172 rfl (lv_at hl 5 rfl) ?_
                              refine g_calli (g_runV (As := []) (rest := []) (ci := 7) F hl.1 hH hS hz (c_X7_placeOff l g gh T ((I_14 mo 26).toInt.toNat) (fun s => Ps s ∨ (rqM lc bxb my Tk k.toNat jj.toNat) s) (fun _ => 1) (fun t => pI (Ps t) (Ms t) (iI rd)) (trT lc (sdH lc (Tk k.toNat) (tup bxb jj.toNat))) I_14 R J AI_77 AJ AR mo hv hm hT hrf (by omega) hkt) (cwV 0 F.2.2.2.2.1 (good_up gT_X7_placeOf) rfl rfl rfl hdX7_placeOf ⟨Nat.le_of_ble_eq_true rfl, Nat.le_of_ble_eq_true rfl⟩) hm (by decide) rfl rfl rfl (Nat.le_of_ble_eq_true rfl) dX7_ringsOnce_173 ⟨Nat.zero_le _, Nat.zero_le _⟩) hS (fun v_87 I_81 R_82 J_83 AI_84 AJ_85 AR_86 H locs zv_87 hp_88 hH hS => ?_)
                              dsimp only at hp_88
                              obtain ⟨rfl, rfl, rfl, rfl, rfl, rfl, q_89, qpl⟩ := hp_88
                              refine lv_istore (lv' := [(10, .int (iI v_87)), (9, .int (iI v_34)), (8, .int (iI jj)), (7, .int (iI k)), (6, .int (iI v_8)), (0, .ref mo), (1, .int (iI sd)), (2, .int (iI rr)), (3, .int (iI n)), (4, .int (iI was)), (5, .int (iI rd))]) F.1 F.2.1 dX7_ringsOnce_176 hl (by decide) rfl (fun ls hl => ?_)
                              refine lv_iload F.1 F.2.1 dX7_ringsOnce_178 (lv_at hl 0 rfl) ?_
                              refine lv_aload_n F.1 F.2.1 dX7_ringsOnce_180 rfl (lv_at hl 5 rfl) ?_
                              refine g_getI (ci := 7) (k := 26) F hH rfl (by decide) iX7 hm (by decide) rfl k269 dX7_ringsOnce_181 ?_
                              refine z_icmp_ge (tgt := 210) F dX7_ringsOnce_184 (by decide) zv_87 (zr_t _) (fun c_90 => ?_) (fun c_90 => ?_)
                              · have hng : ¬ (Ps (trT lc (sdH lc (Tk k.toNat) (tup bxb jj.toNat))) ∨ (rqM lc bxb my Tk k.toNat jj.toNat) (trT lc (sdH lc (Tk k.toNat) (tup bxb jj.toNat)))) := isW_n hrf (atW_n (lo_at hrf.1 qpl (fun h9 => by first | omega | (intro h8; omega))))
                                refine lv_iload F.1 F.2.1 dX7_ringsOnce_210 (lv_at hl 10 rfl) ?_
                                refine z_bipush F dX7_ringsOnce_212 (by decide) ?_
                                refine z_icmp_le (tgt := 220) F dX7_ringsOnce_214 (by decide) zrd ⟨by decide, by decide⟩ (fun c_91 => ?_) (fun c_91 => ?_)
                                · refine lv_aload_n F.1 F.2.1 dX7_ringsOnce_220 rfl (lv_at hl 5 rfl) ?_
                                  refine z_iconst F dX7_ringsOnce_221 ?_
                                  refine lv_iload F.1 F.2.1 dX7_ringsOnce_222 (lv_at hl 10 rfl) ?_
                                  refine g_calli (g_runV (As := [.int (iI 1), .int (iI rd)]) (rest := []) (ci := 7) F hl.1 hH hS hz (c_X7_gathersf l g gh T ((I_14 mo 26).toInt.toNat) (fun s => Ps s ∨ (rqM lc bxb my Tk k.toNat jj.toNat) s) (fun _ => 1) (fun t => pI (Ps t) (Ms t) (iI rd)) (trT lc (sdH lc (Tk k.toNat) (tup bxb jj.toNat))) I_14 R J AI_77 AJ AR mo 1 rd ⟨by decide, by decide⟩ zrd hv hm hT (by omega) hrf (by omega) hkt) (cwV 2 F.2.2.2.2.1 (good_up gT_X7_gathers) rfl rfl rfl hdX7_gathers ⟨Nat.le_of_ble_eq_true rfl, Nat.le_of_ble_eq_true rfl⟩) hm (by decide) rfl rfl rfl (Nat.le_of_ble_eq_true rfl) dX7_ringsOnce_224 ⟨Nat.zero_le _, Nat.zero_le _⟩) hS (fun v_98 I_92 R_93 J_94 AI_95 AJ_96 AR_97 H locs zv_98 hp_99 hH hS => ?_)
                                  dsimp only at hp_99
                                  obtain ⟨rfl, rfl, rfl, rfl, hv, hT, wfq, q_100, qga, fWq⟩ := hp_99
                                  have wf := wF_t wf wfq
                                  have u_101_2 : (I_92 mo 2).toInt = (I mo 2).toInt := by rw [wf 2 (by decide)]
                                  have u_101_5 : (I_92 mo 5).toInt = (I mo 5).toInt := by rw [wf 5 (by decide)]
                                  have u_101_14 : (I_92 mo 14).toInt = (I mo 14).toInt := by rw [wf 14 (by decide)]
                                  have u_101_16 : (I_92 mo 16).toInt = (I mo 16).toInt := by rw [wf 16 (by decide)]
                                  have u_101_24 : (I_92 mo 24).toInt = (I mo 24).toInt := by rw [wf 24 (by decide)]
                                  obtain ⟨hz1, hk9, hrf7⟩ := rfI_s hng qga
                                  clear qga
                                  have hrf9 := rfI_q hrf7 (Q' := (rqM lc bxb my Tk k.toNat (jj + 1).toNat)) (fun s => by rw [show (jj + 1).toNat = jj.toNat + 1 by omega]; exact or_congr Iff.rfl (rqM_1 hap hmt))
                                  have fW : ∀ b, b ≠ gh 75 0 → b ≠ gh 77 0 → b ≠ gh 78 0 → AI_95 b = AI b := fun b h1 h2 h3 => (fWq b h1).trans (fW b h1 h2 h3)
                                  refine lv_istore (lv' := [(11, .int (iI v_98)), (10, .int (iI v_87)), (9, .int (iI v_34)), (8, .int (iI jj)), (7, .int (iI k)), (6, .int (iI v_8)), (0, .ref mo), (1, .int (iI sd)), (2, .int (iI rr)), (3, .int (iI n)), (4, .int (iI was)), (5, .int (iI rd))]) F.1 F.2.1 dX7_ringsOnce_227 hl (by decide) rfl (fun ls hl => ?_)
                                  refine lv_iload F.1 F.2.1 dX7_ringsOnce_229 (lv_at hl 0 rfl) ?_
                                  refine z_if_eq (tgt := 246) F dX7_ringsOnce_231 (by decide) zv_98 (fun c_102 => ?_) (fun c_102 => ?_)
                                  · refine z_iinc (lv' := [(8, .int (iI (jj + 1))), (11, .int (iI v_98)), (10, .int (iI v_87)), (9, .int (iI v_34)), (7, .int (iI k)), (6, .int (iI v_8)), (0, .ref mo), (1, .int (iI sd)), (2, .int (iI rr)), (3, .int (iI n)), (4, .int (iI was)), (5, .int (iI rd))]) F dX7_ringsOnce_246 hl (k := 3) rfl (by decide) rfl (fun ls hl => ?_)
                                    refine z_goto (tgt := 20) F dX7_ringsOnce_249 (by decide) ?_
                                    exact ih20 (jj + 1) I_92 AI_95 H locs ls ⟨by omega, by omega⟩ hv hT wf (by omega) fW hrf9 (by omega) (by omega) hH hS (lv_sub hl [0, 4, 5, 6, 7, 8, 9, 10, 11] rfl)
                                  · refine lv_aload_n F.1 F.2.1 dX7_ringsOnce_234 rfl (lv_at hl 6 rfl) ?_
                                    refine g_getI (ci := 7) (k := 26) F hH rfl (by decide) iX7 hm (by decide) rfl k269 dX7_ringsOnce_235 ?_
                                    have b_103 := mJ hv hm
                                    unfold mNum1 at b_103
                                    refine z_bipush F dX7_ringsOnce_238 (by decide) ?_
                                    refine z_icmp_le (tgt := 246) F dX7_ringsOnce_240 (by decide) (zr_t _) ⟨by decide, by decide⟩ (fun c_104 => ?_) (fun c_104 => ?_)
                                    · refine z_iinc (lv' := [(8, .int (iI (jj + 1))), (11, .int (iI v_98)), (10, .int (iI v_87)), (9, .int (iI v_34)), (7, .int (iI k)), (6, .int (iI v_8)), (0, .ref mo), (1, .int (iI sd)), (2, .int (iI rr)), (3, .int (iI n)), (4, .int (iI was)), (5, .int (iI rd))]) F dX7_ringsOnce_246 hl (k := 3) rfl (by decide) rfl (fun ls hl => ?_)
                                      refine z_goto (tgt := 20) F dX7_ringsOnce_249 (by decide) ?_
                                      exact ih20 (jj + 1) I_92 AI_95 H locs ls ⟨by omega, by omega⟩ hv hT wf (by omega) fW hrf9 (by omega) (by omega) hH hS (lv_sub hl [0, 4, 5, 6, 7, 8, 9, 10, 11] rfl)
                                    · refine z_bipush F dX7_ringsOnce_243 (by decide) ?_
                                      exact g_iret F hr hlk hH hS hz ⟨by decide, by decide⟩ ⟨rfl, rfl, rfl, rfl, hv, hT, wf, by first | omega | rfl | (dsimp only; omega), fW, Or.inr (Or.inl ⟨rfl, by omega, bigP_m (isW_bg hrf9 (L := 120) (by omega)) (fun s hs => Or.elim hs Or.inl (fun h9 => Or.inr (rqM_a h9 (by omega) (by omega))))⟩)⟩ dX7_ringsOnce_245
                                · refine z_bipush F dX7_ringsOnce_217 (by decide) ?_
                                  exact g_iret F hr hlk hH hS hz ⟨by decide, by decide⟩ ⟨rfl, rfl, rfl, rfl, hv, hT, wf, by first | omega | rfl | (dsimp only; omega), fW, Or.inr (Or.inr ⟨rfl, by omega, (trT lc (sdH lc (Tk k.toNat) (tup bxb jj.toNat))), fun h9 => hng (Or.inl h9), k.toNat, by omega, rg_go hap hmt (by omega)⟩)⟩ dX7_ringsOnce_219
                              · refine lv_aload_n F.1 F.2.1 dX7_ringsOnce_187 rfl (lv_at hl 5 rfl) ?_
                                obtain ⟨r_105a, r_105b⟩ : R mo 25 = some (gh 75 0) ∧ gAr g (gh 75 0) 9 9600 := mR hv hm (q := (25, 9600)) (by decide)
                                refine g_getR (ci := 7) (k := 25) F hH rfl (by decide) iX7 hm (by decide) rfl (b := gh 75 0) r_105a k42 dX7_ringsOnce_188 ?_
                                refine z_bipush F dX7_ringsOnce_191 (by decide) ?_
                                refine lv_iload F.1 F.2.1 dX7_ringsOnce_193 (lv_at hl 0 rfl) ?_
                                refine z_imul F dX7_ringsOnce_195 ?_
                                refine lv_aload_n F.1 F.2.1 dX7_ringsOnce_196 rfl (lv_at hl 5 rfl) ?_
                                obtain ⟨r_106a, r_106b⟩ : R mo 27 = some (gh 77 0) ∧ gAr g (gh 77 0) 9 4 := mR hv hm (q := (27, 4)) (by decide)
                                refine g_getR (ci := 7) (k := 27) F hH rfl (by decide) iX7 hm (by decide) rfl (b := gh 77 0) r_106a k45 dX7_ringsOnce_197 ?_
                                refine z_iconst F dX7_ringsOnce_200 ?_
                                refine g_calli (g_runS (As := [.ref (gh 75 0), .int (iI (6 * v_87)), .ref (gh 77 0), .int (iI 0)]) (rest := []) F hl.1 hH hS hz (c_X7_comparef l g 9600 4 I_14 R J AI_77 AJ AR (gh 75 0) (6 * v_87) (gh 77 0) 0 ⟨by omega, by omega⟩ ⟨by decide, by decide⟩ r_105b r_106b (by omega) (by omega) (by omega) (by omega)) (va_cwS 4 F.2.2.2.2.1 (good_up gT_X7_compare) rfl rfl rfl hdX7_compare.2 ⟨Nat.le_of_ble_eq_true rfl, Nat.le_of_ble_eq_true rfl⟩) rfl rfl (Nat.le_of_ble_eq_true rfl) dX7_ringsOnce_201 ⟨Nat.zero_le _, Nat.zero_le _⟩) hS (fun v_113 I_107 R_108 J_109 AI_110 AJ_111 AR_112 H locs zv_113 hp_114 hH hS => ?_)
                                dsimp only at hp_114
                                obtain ⟨rfl, rfl, rfl, rfl, rfl, rfl, q_115, qc⟩ := hp_114
                                have qk : v_113 = tc (tup (AI_77 (gh 75 0)) (v_87).toNat) (trT lc (sdH lc (Tk k.toNat) (tup bxb jj.toNat))) := by rw [qc, ry6_n (by omega)]; exact tc_kv (key_tu hkt)
                                refine z_if_ne (tgt := 210) F dX7_ringsOnce_204 (by decide) zv_113 (fun c_116 => ?_) (fun c_116 => ?_)
                                · have hng : ¬ (Ps (trT lc (sdH lc (Tk k.toNat) (tup bxb jj.toNat))) ∨ (rqM lc bxb my Tk k.toNat jj.toNat) (trT lc (sdH lc (Tk k.toNat) (tup bxb jj.toNat)))) := isW_n hrf (atW_n (lo_at hrf.1 qpl (fun h9 => by first | omega | (intro h8; omega))))
                                  refine lv_iload F.1 F.2.1 dX7_ringsOnce_210 (lv_at hl 10 rfl) ?_
                                  refine z_bipush F dX7_ringsOnce_212 (by decide) ?_
                                  refine z_icmp_le (tgt := 220) F dX7_ringsOnce_214 (by decide) zrd ⟨by decide, by decide⟩ (fun c_117 => ?_) (fun c_117 => ?_)
                                  · refine lv_aload_n F.1 F.2.1 dX7_ringsOnce_220 rfl (lv_at hl 5 rfl) ?_
                                    refine z_iconst F dX7_ringsOnce_221 ?_
                                    refine lv_iload F.1 F.2.1 dX7_ringsOnce_222 (lv_at hl 10 rfl) ?_
                                    refine g_calli (g_runV (As := [.int (iI 1), .int (iI rd)]) (rest := []) (ci := 7) F hl.1 hH hS hz (c_X7_gathersf l g gh T ((I_14 mo 26).toInt.toNat) (fun s => Ps s ∨ (rqM lc bxb my Tk k.toNat jj.toNat) s) (fun _ => 1) (fun t => pI (Ps t) (Ms t) (iI rd)) (trT lc (sdH lc (Tk k.toNat) (tup bxb jj.toNat))) I_14 R J AI_77 AJ AR mo 1 rd ⟨by decide, by decide⟩ zrd hv hm hT (by omega) hrf (by omega) hkt) (cwV 2 F.2.2.2.2.1 (good_up gT_X7_gathers) rfl rfl rfl hdX7_gathers ⟨Nat.le_of_ble_eq_true rfl, Nat.le_of_ble_eq_true rfl⟩) hm (by decide) rfl rfl rfl (Nat.le_of_ble_eq_true rfl) dX7_ringsOnce_224 ⟨Nat.zero_le _, Nat.zero_le _⟩) hS (fun v_124 I_118 R_119 J_120 AI_121 AJ_122 AR_123 H locs zv_124 hp_125 hH hS => ?_)
                                    dsimp only at hp_125
                                    obtain ⟨rfl, rfl, rfl, rfl, hv, hT, wfq, q_126, qga, fWq⟩ := hp_125
                                    have wf := wF_t wf wfq
                                    have u_127_2 : (I_118 mo 2).toInt = (I mo 2).toInt := by rw [wf 2 (by decide)]
                                    have u_127_5 : (I_118 mo 5).toInt = (I mo 5).toInt := by rw [wf 5 (by decide)]
                                    have u_127_14 : (I_118 mo 14).toInt = (I mo 14).toInt := by rw [wf 14 (by decide)]
                                    have u_127_16 : (I_118 mo 16).toInt = (I mo 16).toInt := by rw [wf 16 (by decide)]
                                    have u_127_24 : (I_118 mo 24).toInt = (I mo 24).toInt := by rw [wf 24 (by decide)]
                                    obtain ⟨hz1, hk9, hrf7⟩ := rfI_s hng qga
                                    clear qga
                                    have hrf9 := rfI_q hrf7 (Q' := (rqM lc bxb my Tk k.toNat (jj + 1).toNat)) (fun s => by rw [show (jj + 1).toNat = jj.toNat + 1 by omega]; exact or_congr Iff.rfl (rqM_1 hap hmt))
                                    have fW : ∀ b, b ≠ gh 75 0 → b ≠ gh 77 0 → b ≠ gh 78 0 → AI_121 b = AI b := fun b h1 h2 h3 => (fWq b h1).trans (fW b h1 h2 h3)
                                    refine lv_istore (lv' := [(11, .int (iI v_124)), (10, .int (iI v_87)), (9, .int (iI v_34)), (8, .int (iI jj)), (7, .int (iI k)), (6, .int (iI v_8)), (0, .ref mo), (1, .int (iI sd)), (2, .int (iI rr)), (3, .int (iI n)), (4, .int (iI was)), (5, .int (iI rd))]) F.1 F.2.1 dX7_ringsOnce_227 hl (by decide) rfl (fun ls hl => ?_)
                                    refine lv_iload F.1 F.2.1 dX7_ringsOnce_229 (lv_at hl 0 rfl) ?_
                                    refine z_if_eq (tgt := 246) F dX7_ringsOnce_231 (by decide) zv_124 (fun c_128 => ?_) (fun c_128 => ?_)
                                    · refine z_iinc (lv' := [(8, .int (iI (jj + 1))), (11, .int (iI v_124)), (10, .int (iI v_87)), (9, .int (iI v_34)), (7, .int (iI k)), (6, .int (iI v_8)), (0, .ref mo), (1, .int (iI sd)), (2, .int (iI rr)), (3, .int (iI n)), (4, .int (iI was)), (5, .int (iI rd))]) F dX7_ringsOnce_246 hl (k := 3) rfl (by decide) rfl (fun ls hl => ?_)
                                      refine z_goto (tgt := 20) F dX7_ringsOnce_249 (by decide) ?_
                                      exact ih20 (jj + 1) I_118 AI_121 H locs ls ⟨by omega, by omega⟩ hv hT wf (by omega) fW hrf9 (by omega) (by omega) hH hS (lv_sub hl [0, 4, 5, 6, 7, 8, 9, 10, 11] rfl)
                                    · refine lv_aload_n F.1 F.2.1 dX7_ringsOnce_234 rfl (lv_at hl 6 rfl) ?_
                                      refine g_getI (ci := 7) (k := 26) F hH rfl (by decide) iX7 hm (by decide) rfl k269 dX7_ringsOnce_235 ?_
                                      have b_129 := mJ hv hm
                                      unfold mNum1 at b_129
                                      refine z_bipush F dX7_ringsOnce_238 (by decide) ?_
                                      refine z_icmp_le (tgt := 246) F dX7_ringsOnce_240 (by decide) (zr_t _) ⟨by decide, by decide⟩ (fun c_130 => ?_) (fun c_130 => ?_)
                                      · refine z_iinc (lv' := [(8, .int (iI (jj + 1))), (11, .int (iI v_124)), (10, .int (iI v_87)), (9, .int (iI v_34)), (7, .int (iI k)), (6, .int (iI v_8)), (0, .ref mo), (1, .int (iI sd)), (2, .int (iI rr)), (3, .int (iI n)), (4, .int (iI was)), (5, .int (iI rd))]) F dX7_ringsOnce_246 hl (k := 3) rfl (by decide) rfl (fun ls hl => ?_)
                                        refine z_goto (tgt := 20) F dX7_ringsOnce_249 (by decide) ?_
                                        exact ih20 (jj + 1) I_118 AI_121 H locs ls ⟨by omega, by omega⟩ hv hT wf (by omega) fW hrf9 (by omega) (by omega) hH hS (lv_sub hl [0, 4, 5, 6, 7, 8, 9, 10, 11] rfl)
                                      · refine z_bipush F dX7_ringsOnce_243 (by decide) ?_
                                        exact g_iret F hr hlk hH hS hz ⟨by decide, by decide⟩ ⟨rfl, rfl, rfl, rfl, hv, hT, wf, by first | omega | rfl | (dsimp only; omega), fW, Or.inr (Or.inl ⟨rfl, by omega, bigP_m (isW_bg hrf9 (L := 120) (by omega)) (fun s hs => Or.elim hs Or.inl (fun h9 => Or.inr (rqM_a h9 (by omega) (by omega))))⟩)⟩ dX7_ringsOnce_245
                                  · refine z_bipush F dX7_ringsOnce_217 (by decide) ?_
                                    exact g_iret F hr hlk hH hS hz ⟨by decide, by decide⟩ ⟨rfl, rfl, rfl, rfl, hv, hT, wf, by first | omega | rfl | (dsimp only; omega), fW, Or.inr (Or.inr ⟨rfl, by omega, (trT lc (sdH lc (Tk k.toNat) (tup bxb jj.toNat))), fun h9 => hng (Or.inl h9), k.toNat, by omega, rg_go hap hmt (by omega)⟩)⟩ dX7_ringsOnce_219
                                · have hin9 : Ps (trT lc (sdH lc (Tk k.toNat) (tup bxb jj.toNat))) ∨ (rqM lc bxb my Tk k.toNat jj.toNat) (trT lc (sdH lc (Tk k.toNat) (tup bxb jj.toNat))) := by have h9 := (hrf.2.1 (v_87).toNat (by omega)).1; rw [tc_0.mp (show tc (tup (AI_77 (gh 75 0)) (v_87).toNat) (trT lc (sdH lc (Tk k.toNat) (tup bxb jj.toNat))) = 0 by omega)] at h9; exact h9
                                  refine z_goto (tgt := 246) F dX7_ringsOnce_207 (by decide) ?_
                                  have hrf9 := rfI_q hrf (Q' := (rqM lc bxb my Tk k.toNat (jj + 1).toNat)) (fun s => by rw [show (jj + 1).toNat = jj.toNat + 1 by omega]; exact rq_d hin9 (rqM_1 hap hmt))
                                  refine z_iinc (lv' := [(8, .int (iI (jj + 1))), (10, .int (iI v_87)), (9, .int (iI v_34)), (7, .int (iI k)), (6, .int (iI v_8)), (0, .ref mo), (1, .int (iI sd)), (2, .int (iI rr)), (3, .int (iI n)), (4, .int (iI was)), (5, .int (iI rd))]) F dX7_ringsOnce_246 hl (k := 2) rfl (by decide) rfl (fun ls hl => ?_)
                                  refine z_goto (tgt := 20) F dX7_ringsOnce_249 (by decide) ?_
                                  exact ih20 (jj + 1) I_14 AI_77 H locs ls ⟨by omega, by omega⟩ hv hT wf (by omega) fW hrf9 (by omega) (by omega) hH hS (lv_sub hl [0, 3, 4, 5, 6, 7, 8, 9, 10] rfl)
                            · refine lv_aload_n F.1 F.2.1 dX7_ringsOnce_140 rfl (lv_at hl 5 rfl) ?_
                              obtain ⟨r_131a, r_131b⟩ : R mo 28 = some (gh 78 0) ∧ gAr g (gh 78 0) 9 8 := mR hv hm (q := (28, 8)) (by decide)
                              refine g_getR (ci := 7) (k := 28) F hH rfl (by decide) iX7 hm (by decide) rfl (b := gh 78 0) r_131a k48 dX7_ringsOnce_141 ?_
                              refine lv_iload_n F.1 F.2.1 dX7_ringsOnce_144 rfl (lv_at hl 8 rfl) ?_
                              refine lv_iload F.1 F.2.1 dX7_ringsOnce_145 (lv_at hl 0 rfl) ?_
                              refine z_iadd F dX7_ringsOnce_147 ?_
                              refine lv_aload_n F.1 F.2.1 dX7_ringsOnce_148 rfl (lv_at hl 5 rfl) ?_
                              refine g_getR (ci := 7) (k := 6) F hH rfl (by decide) iX7 hm (by decide) rfl (b := gh 56 0) r_37a k24 dX7_ringsOnce_149 ?_
                              refine lv_iload F.1 F.2.1 dX7_ringsOnce_152 (lv_at hl 1 rfl) ?_
                              refine lv_iload F.1 F.2.1 dX7_ringsOnce_154 (lv_at hl 0 rfl) ?_
                              refine z_iadd F dX7_ringsOnce_156 ?_
                              have hx157 : 0 ≤ (v_34 + i) ∧ (v_34 + i) < ((126720 : Nat) : Int) ∧ (v_34 + i) ≤ 2147483647 := ⟨by omega, by omega, by omega⟩
                              refine g_iald F hH r_37b hx157.1 hx157.2.1 hx157.2.2 dX7_ringsOnce_157 ?_
                              refine z_name (fun v_132 ev_132 => ?_)
                              have zv_132 : zr v_132 := by rw [ev_132]; exact zr_t _
                              have c157 : iI v_132 = tg (tup bxb jj.toNat) i.toNat := by rw [ev_132, iI_self, h56, tg_up _ (by omega), ← hXb9 _ (by omega)]; congr 1; omega
                              have hx158 : 0 ≤ (n + i) ∧ (n + i) < ((8 : Nat) : Int) ∧ (n + i) ≤ 2147483647 := ⟨by omega, by omega, by omega⟩
                              refine g_iast F hH hS r_131b hx158.1 hx158.2.1 hx158.2.2 dX7_ringsOnce_158 (fun H locs hH hS => ?_)
                              obtain ⟨AI_133, eAI_133⟩ : ∃ qQ, qQ = gup2 AI_63 (gh 78 0) ((n + i)).toNat (iI (v_132)) := ⟨_, rfl⟩
                              rw [← eAI_133] at hH
                              have kAI_133 : ∀ b, b ≠ (gh 78 0) → AI_133 b = AI_63 b := fun b hb => by rw [eAI_133]; exact funext fun j => gup2_a _ _ hb
                              have hvO := hv
                              have t_134 : AI_133 (gh 50 0) = AI_63 (gh 50 0) := mK hv hm (p := (0, 640)) (q := (28, 8)) (by decide) (by decide) (by decide) kAI_133
                              have hv : mInv g gh R I_14 AI_133 := mInv_a hv hm (q := (28, 8)) (by decide) (by decide) kAI_133
                              have hT : AI_133 (gh 50 0) = T := t_134.trans hT
                              have hov : ∀ j : Nat, (j : Int) < n + (i + 1) → AI_133 (gh 78 0) j = sdH lc (Tk k.toNat) (tup bxb jj.toNat) j := fun j hj => by
                                by_cases e9 : (j : Int) = n + i
                                · rw [eAI_133, gup2_e _ _ (by omega), c157]; unfold sdH; rw [if_neg (by omega)]; congr 1; omega
                                · rw [eAI_133, gup2_k _ _ (by omega)]; exact hov j (by omega)
                              have hrf : rfI (AI_133 (gh 75 0)) (I_14 mo 26).toInt.toNat Ps (rqM lc bxb my Tk k.toNat jj.toNat) Ms (iI rd) := by rw [kAI_133 _ (show gh 75 0 ≠ gh 78 0 from mNe hv hm (p := (25, 9600)) (q := (28, 8)) (by decide) (by decide) (by decide))]; exact hrf
                              have fW : ∀ b, b ≠ gh 75 0 → b ≠ gh 77 0 → b ≠ gh 78 0 → AI_133 b = AI b := fun b h1 h2 h3 => (kAI_133 b h3).trans (fW b h1 h2 h3)
                              refine z_iinc (lv' := [(10, .int (iI (i + 1))), (9, .int (iI v_34)), (8, .int (iI jj)), (7, .int (iI k)), (6, .int (iI v_8)), (0, .ref mo), (1, .int (iI sd)), (2, .int (iI rr)), (3, .int (iI n)), (4, .int (iI was)), (5, .int (iI rd))]) F dX7_ringsOnce_159 hl (k := 0) rfl (by decide) rfl (fun ls hl => ?_)
                              refine z_goto (tgt := 129) F dX7_ringsOnce_162 (by decide) ?_
                              exact ih129 (i + 1) AI_133 H locs ls ⟨by omega, by omega⟩ hv hT (by omega) fW hrf hov (by omega) hH hS (lv_sub hl [0, 1, 2, 3, 4, 5, 6, 7, 8, 9, 10] rfl)
                        exact cut_129_63 (((4 - 0) + 1 : Int).toNat) 0 AI_60 H locs ls ⟨by decide, by decide⟩ hv hT (by omega) fW hrf hov (by omega) hH hS (lv_sub hl [0, 1, 2, 3, 4, 5, 6, 7, 8, 9, 10] rfl)
                      · refine lv_aload_n F.1 F.2.1 dX7_ringsOnce_101 rfl (lv_at hl 5 rfl) ?_
                        obtain ⟨r_135a, r_135b⟩ : R mo 28 = some (gh 78 0) ∧ gAr g (gh 78 0) 9 8 := mR hv hm (q := (28, 8)) (by decide)
                        refine g_getR (ci := 7) (k := 28) F hH rfl (by decide) iX7 hm (by decide) rfl (b := gh 78 0) r_135a k48 dX7_ringsOnce_102 ?_
                        refine lv_iload F.1 F.2.1 dX7_ringsOnce_105 (lv_at hl 0 rfl) ?_
                        refine lv_aload_n F.1 F.2.1 dX7_ringsOnce_107 rfl (lv_at hl 5 rfl) ?_
                        refine g_getR (ci := 7) (k := 30) F hH rfl (by decide) iX7 hm (by decide) rfl (b := gh 80 0) r_40a k54 dX7_ringsOnce_108 ?_
                        refine z_iconst F dX7_ringsOnce_111 ?_
                        refine lv_iload F.1 F.2.1 dX7_ringsOnce_112 (lv_at hl 3 rfl) ?_
                        refine z_imul F dX7_ringsOnce_114 ?_
                        refine lv_iload F.1 F.2.1 dX7_ringsOnce_115 (lv_at hl 0 rfl) ?_
                        refine z_iadd F dX7_ringsOnce_117 ?_
                        have hx118 : 0 ≤ ((4 * k) + i) ∧ ((4 * k) + i) < ((600 : Nat) : Int) ∧ ((4 * k) + i) ≤ 2147483647 := ⟨by omega, by omega, by omega⟩
                        refine g_iald F hH r_40b hx118.1 hx118.2.1 hx118.2.2 dX7_ringsOnce_118 ?_
                        refine z_name (fun v_136 ev_136 => ?_)
                        have zv_136 : zr v_136 := by rw [ev_136]; exact zr_t _
                        have c118 : iI v_136 = tg (Tk k.toNat) i.toNat := by rw [ev_136, iI_self, h80, ← hTk k.toNat (by omega), arT_at (by omega)]; congr 1; omega
                        have hx119 : 0 ≤ i ∧ i < ((8 : Nat) : Int) ∧ i ≤ 2147483647 := ⟨by omega, by omega, by omega⟩
                        refine g_iast F hH hS r_135b hx119.1 hx119.2.1 hx119.2.2 dX7_ringsOnce_119 (fun H locs hH hS => ?_)
                        obtain ⟨AI_137, eAI_137⟩ : ∃ qQ, qQ = gup2 AI_60 (gh 78 0) (i).toNat (iI (v_136)) := ⟨_, rfl⟩
                        rw [← eAI_137] at hH
                        have kAI_137 : ∀ b, b ≠ (gh 78 0) → AI_137 b = AI_60 b := fun b hb => by rw [eAI_137]; exact funext fun j => gup2_a _ _ hb
                        have hvO := hv
                        have t_138 : AI_137 (gh 50 0) = AI_60 (gh 50 0) := mK hv hm (p := (0, 640)) (q := (28, 8)) (by decide) (by decide) (by decide) kAI_137
                        have hv : mInv g gh R I_14 AI_137 := mInv_a hv hm (q := (28, 8)) (by decide) (by decide) kAI_137
                        have hT : AI_137 (gh 50 0) = T := t_138.trans hT
                        have hov : ∀ j : Nat, (j : Int) < i + 1 → AI_137 (gh 78 0) j = tg (Tk k.toNat) j := fun j hj => by
                          by_cases e9 : (j : Int) = i
                          · rw [eAI_137, gup2_e _ _ (by omega), c118, show j = i.toNat by omega]
                          · rw [eAI_137, gup2_k _ _ (by omega)]; exact hov j (by omega)
                        have hrf : rfI (AI_137 (gh 75 0)) (I_14 mo 26).toInt.toNat Ps (rqM lc bxb my Tk k.toNat jj.toNat) Ms (iI rd) := by rw [kAI_137 _ (show gh 75 0 ≠ gh 78 0 from mNe hv hm (p := (25, 9600)) (q := (28, 8)) (by decide) (by decide) (by decide))]; exact hrf
                        have fW : ∀ b, b ≠ gh 75 0 → b ≠ gh 77 0 → b ≠ gh 78 0 → AI_137 b = AI b := fun b h1 h2 h3 => (kAI_137 b h3).trans (fW b h1 h2 h3)
                        refine z_iinc (lv' := [(10, .int (iI (i + 1))), (9, .int (iI v_34)), (8, .int (iI jj)), (7, .int (iI k)), (6, .int (iI v_8)), (0, .ref mo), (1, .int (iI sd)), (2, .int (iI rr)), (3, .int (iI n)), (4, .int (iI was)), (5, .int (iI rd))]) F dX7_ringsOnce_120 hl (k := 0) rfl (by decide) rfl (fun ls hl => ?_)
                        refine z_goto (tgt := 95) F dX7_ringsOnce_123 (by decide) ?_
                        exact ih95 (i + 1) AI_137 H locs ls ⟨by omega, by omega⟩ hv hT (by omega) fW hrf hov (by omega) hH hS (lv_sub hl [0, 1, 2, 3, 4, 5, 6, 7, 8, 9, 10] rfl)
                  exact cut_95_60 (((n - 0) + 1 : Int).toNat) 0 AI_15 H locs ls ⟨by decide, by decide⟩ hv hT (by omega) fW hrf (fun j hj => absurd hj (by omega)) (by omega) hH hS (lv_sub hl [0, 1, 2, 3, 4, 5, 6, 7, 8, 9, 10] rfl)
                · refine z_goto (tgt := 246) F dX7_ringsOnce_89 (by decide) ?_
                  have hrf9 := rfI_q hrf (Q' := (rqM lc bxb my Tk k.toNat (jj + 1).toNat)) (fun s => by rw [show (jj + 1).toNat = jj.toNat + 1 by omega]; exact or_congr Iff.rfl (rqM_3 (fun h9 => by have h8 := h9.2; rw [← c70, ← c85] at h8; exact absurd ((iI_eq zv_49 zv_58).mp h8) (by omega))))
                  refine z_iinc (lv' := [(8, .int (iI (jj + 1))), (9, .int (iI v_34)), (7, .int (iI k)), (6, .int (iI v_8)), (0, .ref mo), (1, .int (iI sd)), (2, .int (iI rr)), (3, .int (iI n)), (4, .int (iI was)), (5, .int (iI rd))]) F dX7_ringsOnce_246 hl (k := 1) rfl (by decide) rfl (fun ls hl => ?_)
                  refine z_goto (tgt := 20) F dX7_ringsOnce_249 (by decide) ?_
                  exact ih20 (jj + 1) I_14 AI_15 H locs ls ⟨by omega, by omega⟩ hv hT wf (by omega) fW hrf9 (by omega) (by omega) hH hS (lv_sub hl [0, 2, 3, 4, 5, 6, 7, 8, 9] rfl)
        exact cut_20_15 (((120 - 0) + 1 : Int).toNat) 0 I_10 AI_11 H locs ls ⟨by decide, by decide⟩ hv hT wf (by omega) fW hrf (by omega) (by omega) hH hS (lv_sub hl [0, 1, 2, 3, 4, 5, 6, 7, 8] rfl)
  exact cut_10_11 (((was - 0) + 1 : Int).toNat) 0 I AI H locs ls ⟨by decide, by decide⟩ hv hT wf (by omega) (fun _ _ _ _ => rfl) hrf (by omega) hH hS (lv_sub hl [0, 1, 2, 3, 4, 5, 6, 7] rfl)
