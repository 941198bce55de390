def rmX7_placeOff : Room := { frames := 1, cells := 0, slots := 0, locals := 24 }
set_option maxHeartbeats 4000000 in
set_option maxRecDepth 100000 in
/-- the place of the tuple -/
theorem c_X7_placeOff (l : Launch) (g : gG) (gh : gGh) (T : Nat → Int32) (n : Nat) (P : Tup → Prop) (S M : Tup → Int32) (t : Tup) (I : gI) (R : gR) (J : gJ) (AI : gI) (AJ : gJ) (AR : gR) (mo : Nat) (hv : mInv g gh R I AI) (hm : gO g mo 7) (hT : AI (gh 50 0) = T) (hw : isW (AI (gh 75 0)) n P S M) (hn : (I mo 26).toInt = (n : Int)) (ht : ∀ j, j < 4 → (AI (gh 77 0)) j = tg t j) : gMet l g yX7_placeOf tsX7_placeOf rmX7_placeOff [.ref mo] (I, R, J, AI, AJ, AR) (gQi g (fun (z : Int) (w : gS) => I = w.1 ∧ R = w.2.1 ∧ J = w.2.2.1 ∧ AI = w.2.2.2.1 ∧ AJ = w.2.2.2.2.1 ∧ AR = w.2.2.2.2.2 ∧ (0 ≤ z ∧ z ≤ (I mo 26).toInt) ∧ (loW (AI (gh 75 0)) n z.toNat t))) := by
  refine gStart (cc := cX7_placeOf) (maxL := 4) (ret := (some (.int))) (by decide) rfl (Nat.le_of_ble_eq_true rfl) ?_
  intro p e s m below meth c ls F hr hlk hH hz hS hl
  have hl : lv_has ls 4 [(0, .ref mo)] := hl
  have hS : va_S (gA g) s.heap s.heap [] := hS
  obtain ⟨H, hHe⟩ : ∃ H : Heap, H = s.heap := ⟨_, rfl⟩
  obtain ⟨locs, hlo⟩ : ∃ k : List Loc, k = [] := ⟨_, rfl⟩
  have hH : gH g I R J AI AJ AR H := by rw [hHe]; exact hH
  have hS : va_S (gA g) s.heap H locs := by rw [hHe, hlo]; exact hS
  suffices hw : W p l e rmX7_placeOff s m ([.ref mo] : List Value).toArray below meth c H locs 0 0 (MQ below (gQi g (fun (z : Int) (w : gS) => I = w.1 ∧ R = w.2.1 ∧ J = w.2.2.1 ∧ AI = w.2.2.2.1 ∧ AJ = w.2.2.2.2.1 ∧ AR = w.2.2.2.2.2 ∧ (0 ≤ z ∧ z ≤ (I mo 26).toInt) ∧ (loW (AI (gh 75 0)) n z.toNat t))) ([.ref mo] : List Value).toArray s 0 0 (gA g)) (F0 m 0 ls []) by
    rw [hHe, hlo] at hw; exact hw
  clear hHe hlo
  have iX7 : ∀ w ∈ u_ws RX7 TX7 32, w ∈ tsX7_placeOf := fun w h => List.mem_cons_of_mem _ (inTB7 w h)
  have k269 : Cond.fieldLink RX7 269 (TX7 26).1 (TX7 26).2.1 (TX7 26).2.2.1 ∈ tsX7_placeOf := List.mem_cons_of_mem _ fl_269
  have k42 : Cond.fieldLink RX7 42 (TX7 25).1 (TX7 25).2.1 (TX7 25).2.2.1 ∈ tsX7_placeOf := List.mem_cons_of_mem _ fl_42
  have k45 : Cond.fieldLink RX7 45 (TX7 27).1 (TX7 27).2.1 (TX7 27).2.2.1 ∈ tsX7_placeOf := List.mem_cons_of_mem _ fl_45
  refine z_iconst F dX7_placeOf_0 ?_
  refine lv_istore_n (lv' := [(1, .int (iI 0)), (0, .ref mo)]) F.1 F.2.1 dX7_placeOf_1 rfl hl (by decide) rfl (fun ls hl => ?_)
  refine lv_aload_n F.1 F.2.1 dX7_placeOf_2 rfl (lv_at hl 1 rfl) ?_
  refine g_getI (ci := 7) (k := 26) F hH rfl (by decide) iX7 hm (by decide) rfl k269 dX7_placeOf_3 ?_
  have b_1 := mJ hv hm
  unfold mNum1 at b_1
  refine lv_istore_n (lv' := [(2, .int (iI ((I mo 26).toInt))), (1, .int (iI 0)), (0, .ref mo)]) F.1 F.2.1 dX7_placeOf_6 rfl hl (by decide) rfl (fun ls hl => ?_)
  have cut_7_1 : ∀ (NN : Nat) (lo hi : Int) (H : Heap) (locs : List Loc) (ls : Array Slot), zr lo → zr hi → (0 ≤ lo ∧ lo ≤ hi ∧ hi ≤ (I mo 26).toInt) → ((0 < lo → tc (tup (AI (gh 75 0)) (lo - 1).toNat) t = -1) ∧ (hi < (n : Int) → tc (tup (AI (gh 75 0)) hi.toNat) t ≠ -1)) → (hi - lo) < ((NN : Nat) : Int) → gH g I R J AI AJ AR H → va_S (gA g) s.heap H locs → lv_has ls 4 [(2, .int (iI hi)), (1, .int (iI lo)), (0, .ref mo)] → W p l e rmX7_placeOff s m ([.ref mo] : List Value).toArray below meth c H locs 0 0 (MQ below (gQi g (fun (z : Int) (w : gS) => I = w.1 ∧ R = w.2.1 ∧ J = w.2.2.1 ∧ AI = w.2.2.2.1 ∧ AJ = w.2.2.2.2.1 ∧ AR = w.2.2.2.2.2 ∧ (0 ≤ z ∧ z ≤ (I mo 26).toInt) ∧ (loW (AI (gh 75 0)) n z.toNat t))) ([.ref mo] : List Value).toArray s 0 0 (gA g)) (F0 m 7 ls []) := by
    intro NN7
    induction NN7 with
    | zero =>
      intro lo hi H locs ls zlo zhi hh hlh hm7 hH hS hl
      exact absurd hm7 (by omega)
    | succ NN7 ih7 =>
      intro lo hi H locs ls zlo zhi hh hlh hm7 hH hS hl
      refine lv_iload_n F.1 F.2.1 dX7_placeOf_7 rfl (lv_at hl 1 rfl) ?_
      refine lv_iload_n F.1 F.2.1 dX7_placeOf_8 rfl (lv_at hl 0 rfl) ?_
      refine z_icmp_ge (tgt := 49) F dX7_placeOf_9 (by decide) zlo zhi (fun c_3 => ?_) (fun c_3 => ?_)
      · refine lv_iload_n F.1 F.2.1 dX7_placeOf_49 rfl (lv_at hl 1 rfl) ?_
        exact g_iret F hr hlk hH hS hz zlo ⟨rfl, rfl, rfl, rfl, rfl, rfl, by first | omega | rfl | (dsimp only; omega), lo_of hw.1 (by omega) (fun h9 => by have q9 := hlh.1 (by omega); rwa [show (lo - 1).toNat = lo.toNat - 1 by omega] at q9) (fun h9 => by have q9 := hlh.2 (by omega); rwa [show hi.toNat = lo.toNat by omega] at q9)⟩ dX7_placeOf_50
      · refine lv_iload_n F.1 F.2.1 dX7_placeOf_12 rfl (lv_at hl 1 rfl) ?_
        refine lv_iload_n F.1 F.2.1 dX7_placeOf_13 rfl (lv_at hl 0 rfl) ?_
        refine z_iadd F dX7_placeOf_14 ?_
        refine z_iconst F dX7_placeOf_15 ?_
        refine z_idiv F (by omega) (by omega) (by omega) (by omega) dX7_placeOf_16 ?_
        refine lv_istore_n (lv' := [(3, .int (iI ((lo + hi) / 2))), (2, .int (iI hi)), (1, .int (iI lo)), (0, .ref mo)]) F.1 F.2.1 dX7_placeOf_17 rfl hl (by decide) rfl (fun ls hl => ?_)
        refine lv_aload_n F.1 F.2.1 dX7_placeOf_18 rfl (lv_at hl 3 rfl) ?_
        obtain ⟨r_4a, r_4b⟩ : R mo 25 = some (gh 75 0) ∧ gAr g (gh 75 0) 9 9600 := mR hv hm (q := (25, 9600)) (by decide)
        refine g_getR (ci := 7) (k := 25) F hH rfl (by decide) iX7 hm (by decide) rfl (b := gh 75 0) r_4a k42 dX7_placeOf_19 ?_
        refine z_bipush F dX7_placeOf_22 (by decide) ?_
        refine lv_iload_n F.1 F.2.1 dX7_placeOf_24 rfl (lv_at hl 0 rfl) ?_
        refine z_imul F dX7_placeOf_25 ?_
        refine lv_aload_n F.1 F.2.1 dX7_placeOf_26 rfl (lv_at hl 3 rfl) ?_
        obtain ⟨r_5a, r_5b⟩ : R mo 27 = some (gh 77 0) ∧ gAr g (gh 77 0) 9 4 := mR hv hm (q := (27, 4)) (by decide)
        refine g_getR (ci := 7) (k := 27) F hH rfl (by decide) iX7 hm (by decide) rfl (b := gh 77 0) r_5a k45 dX7_placeOf_27 ?_
        refine z_iconst F dX7_placeOf_30 ?_
        refine g_calli (g_runS (As := [.ref (gh 75 0), .int (iI (6 * ((lo + hi) / 2))), .ref (gh 77 0), .int (iI 0)]) (rest := []) F hl.1 hH hS hz (c_X7_comparef l g 9600 4 I R J AI AJ AR (gh 75 0) (6 * ((lo + hi) / 2)) (gh 77 0) 0 ⟨by omega, by omega⟩ ⟨by decide, by decide⟩ r_4b r_5b (by omega) (by omega) (by omega) (by omega)) (va_cwS 4 F.2.2.2.2.1 (good_up gT_X7_compare) rfl rfl rfl hdX7_compare.2 ⟨Nat.le_of_ble_eq_true rfl, Nat.le_of_ble_eq_true rfl⟩) rfl rfl (Nat.le_of_ble_eq_true rfl) dX7_placeOf_31 ⟨Nat.zero_le _, Nat.zero_le _⟩) hS (fun v_12 I_6 R_7 J_8 AI_9 AJ_10 AR_11 H locs zv_12 hp_13 hH hS => ?_)
        dsimp only at hp_13
        obtain ⟨rfl, rfl, rfl, rfl, rfl, rfl, q_14, qc⟩ := hp_13
        have qk : v_12 = tc (tup (AI (gh 75 0)) ((lo + hi) / 2).toNat) t := by rw [qc, ry6_n (by omega)]; exact tc_kv (key_tu ht)
        refine z_if_ge (tgt := 44) F dX7_placeOf_34 (by decide) zv_12 (fun c_15 => ?_) (fun c_15 => ?_)
        · refine lv_iload_n F.1 F.2.1 dX7_placeOf_44 rfl (lv_at hl 0 rfl) ?_
          refine lv_istore_n (lv' := [(2, .int (iI ((lo + hi) / 2))), (3, .int (iI ((lo + hi) / 2))), (1, .int (iI lo)), (0, .ref mo)]) F.1 F.2.1 dX7_placeOf_45 rfl hl (by decide) rfl (fun ls hl => ?_)
          refine z_goto (tgt := 7) F dX7_placeOf_46 (by decide) ?_
          exact ih7 lo ((lo + hi) / 2) H locs ls zlo ⟨by omega, by omega⟩ (by omega) (by first | exact ⟨fun _ => by rw [show ((lo + hi) / 2 + 1 - 1).toNat = ((lo + hi) / 2).toNat by omega, ← qk]; rcases @tc_r (tup (AI (gh 75 0)) ((lo + hi) / 2).toNat) t with h9 | h9 | h9 <;> omega, hlh.2⟩ | exact ⟨hlh.1, fun _ h9 => by omega⟩) (by omega) hH hS (lv_sub hl [0, 2, 3] rfl)
        · refine lv_iload_n F.1 F.2.1 dX7_placeOf_37 rfl (lv_at hl 0 rfl) ?_
          refine z_iconst F dX7_placeOf_38 ?_
          refine z_iadd F dX7_placeOf_39 ?_
          refine lv_istore_n (lv' := [(1, .int (iI (((lo + hi) / 2) + 1))), (3, .int (iI ((lo + hi) / 2))), (2, .int (iI hi)), (0, .ref mo)]) F.1 F.2.1 dX7_placeOf_40 rfl hl (by decide) rfl (fun ls hl => ?_)
          refine z_goto (tgt := 46) F dX7_placeOf_41 (by decide) ?_
          refine z_goto (tgt := 7) F dX7_placeOf_46 (by decide) ?_
          exact ih7 (((lo + hi) / 2) + 1) hi H locs ls ⟨by omega, by omega⟩ zhi (by omega) (by first | exact ⟨fun _ => by rw [show ((lo + hi) / 2 + 1 - 1).toNat = ((lo + hi) / 2).toNat by omega, ← qk]; rcases @tc_r (tup (AI (gh 75 0)) ((lo + hi) / 2).toNat) t with h9 | h9 | h9 <;> omega, hlh.2⟩ | exact ⟨hlh.1, fun _ h9 => by omega⟩) (by omega) hH hS (lv_sub hl [2, 0, 3] rfl)
  exact cut_7_1 (((((I mo 26).toInt) - 0) + 1 : Int).toNat) 0 ((I mo 26).toInt) H locs ls ⟨by decide, by decide⟩ (zr_t _) (by omega) ⟨fun h9 => absurd h9 (by omega), fun h9 => absurd h9 (by omega)⟩ (by omega) hH hS (lv_sub hl [0, 1, 2] rfl)
