def rmX6_roundsf : Room := { frames := 2, cells := 0, slots := 0, locals := 42 }
set_option maxHeartbeats 4000000 in
set_option maxRecDepth 100000 in
/-- rounds -/
theorem c_X6_roundsf (l : Launch) (g : gG) (gh : gGh) (pA bA nA : Nat) (nr : Nat) (cc : Nat → LC) (I : gI) (R : gR) (J : gJ) (AI : gI) (AJ : gJ) (AR : gR) (x : Nat) (rel : Int) (zrel : zr rel) (hv : gInv g gh R AR I AI) (hx : xS g gh R AR x pA bA nA) (hlen : (I pA 1).toInt = (nr : Int)) (hln : ∀ r, r < nr → lnC (I (rob AR (gh 6 pA) r)) (AI (gh 3 (rob AR (gh 6 pA) r))) (cc r)) : gMet l g yX6_rounds wsX6_rounds rmX6_roundsf [.ref x, .int (iI rel)] (I, R, J, AI, AJ, AR) (gQi g (fun (z : Int) (w : gS) => I = w.1 ∧ R = w.2.1 ∧ J = w.2.2.1 ∧ AI = w.2.2.2.1 ∧ AJ = w.2.2.2.2.1 ∧ AR = w.2.2.2.2.2 ∧ ((¬ ((0 ≤ rel ∧ rel < (nr : Int)) ∧ (cc rel.toNat).1 0 = 8) ∧ z = -1) ∨ (((0 ≤ rel ∧ rel < (nr : Int)) ∧ (cc rel.toNat).1 0 = 8) ∧ rdX ((rfC gh AR I AI bA rel.toNat)).2 ((rfC gh AR I AI bA rel.toNat)).1 z)))) := by
  refine gStart (cc := cX6_rounds) (maxL := 5) (ret := (some (.int))) (by decide) rfl (Nat.le_of_ble_eq_true rfl) ?_
  intro p e s m below meth c ls F hr hlk hH hz hS hl
  have hl : lv_has ls 5 [(0, .ref x), (1, .int (iI rel))] := hl
  have hS : va_S (gA g) s.heap s.heap [] := hS
  obtain ⟨H, hHe⟩ : ∃ H : Heap, H = s.heap := ⟨_, rfl⟩
  obtain ⟨locs, hlo⟩ : ∃ k : List Loc, k = [] := ⟨_, rfl⟩
  have hH : gH g I R J AI AJ AR H := by rw [hHe]; exact hH
  have hS : va_S (gA g) s.heap H locs := by rw [hHe, hlo]; exact hS
  suffices hw : W p l e rmX6_roundsf s m ([.ref x, .int (iI rel)] : List Value).toArray below meth c H locs 0 0 (MQ below (gQi g (fun (z : Int) (w : gS) => I = w.1 ∧ R = w.2.1 ∧ J = w.2.2.1 ∧ AI = w.2.2.2.1 ∧ AJ = w.2.2.2.2.1 ∧ AR = w.2.2.2.2.2 ∧ ((¬ ((0 ≤ rel ∧ rel < (nr : Int)) ∧ (cc rel.toNat).1 0 = 8) ∧ z = -1) ∨ (((0 ≤ rel ∧ rel < (nr : Int)) ∧ (cc rel.toNat).1 0 = 8) ∧ rdX ((rfC gh AR I AI bA rel.toNat)).2 ((rfC gh AR I AI bA rel.toNat)).1 z)))) ([.ref x, .int (iI rel)] : List Value).toArray s 0 0 (gA g)) (F0 m 0 ls []) by
    rw [hHe, hlo] at hw; exact hw
  clear hHe hlo
  have iX6 : ∀ w ∈ u_ws RX6 TX6 18, w ∈ wsX6_rounds := (by decide +kernel)
  have iX4 : ∀ w ∈ u_ws RX4 TX4 4, w ∈ wsX6_rounds := (by decide +kernel)
  have k38 : Cond.fieldLink RX6 38 (TX6 5).1 (TX6 5).2.1 (TX6 5).2.2.1 ∈ wsX6_rounds := List.mem_of_getElem? (i := 1) rfl
  have k99 : Cond.fieldLink RX6 99 (TX4 3).1 (TX4 3).2.1 (TX4 3).2.2.1 ∈ wsX6_rounds := List.mem_of_getElem? (i := 2) rfl
  refine lv_aload_n F.1 F.2.1 dX6_rounds_0 rfl (lv_at hl 0 rfl) ?_
  refine lv_iload_n F.1 F.2.1 dX6_rounds_1 rfl (lv_at hl 1 rfl) ?_
  have b_1 := gI_x hv hx.1
  refine g_calli (g_runV (As := [.int (iI rel)]) (rest := []) (ci := 6) F hl.1 hH hS hz (c_X6_isRingf l g gh pA bA nA nr cc I R J AI AJ AR x rel zrel hv hx (by omega) hln) (cwV 1 F.2.2.2.2.1 gX6_rounds_X6_isRing rfl rfl rfl hdX6_isRing ⟨Nat.le_of_ble_eq_true rfl, Nat.le_of_ble_eq_true rfl⟩) hx.1 (by decide) rfl rfl rfl (Nat.le_of_ble_eq_true rfl) dX6_rounds_2 ⟨Nat.zero_le _, Nat.zero_le _⟩) hS (fun v_8 I_2 R_3 J_4 AI_5 AJ_6 AR_7 H locs zv_8 hp_9 hH hS => ?_)
  dsimp only at hp_9
  obtain ⟨rfl, rfl, rfl, rfl, rfl, rfl, q_10, qrg⟩ := hp_9
  refine z_if_ne (tgt := 10) F dX6_rounds_5 (by decide) zv_8 (fun c_11 => ?_) (fun c_11 => ?_)
  · refine lv_aload_n F.1 F.2.1 dX6_rounds_10 rfl (lv_at hl 0 rfl) ?_
    refine g_getR (ci := 6) (k := 5) F hH rfl (by decide) iX6 hx.1 (by decide) rfl (b := bA) hx.2.2.2.1 k38 dX6_rounds_11 ?_
    refine lv_iload_n F.1 F.2.1 dX6_rounds_14 rfl (lv_at hl 1 rfl) ?_
    have hx15 : 0 ≤ rel ∧ rel < ((16 : Nat) : Int) ∧ rel ≤ 2147483647 := ⟨by omega, by omega, by omega⟩
    obtain ⟨y_12, y_12a, y_12b, y_12c, y_12d, y_12e⟩ := hx.2.2.2.2.1.2 (rel).toNat (by omega)
    refine g_aldR F hH hx.2.2.2.2.1.1 hx15.1 hx15.2.1 hx15.2.2 (b := y_12) y_12a dX6_rounds_15 ?_
    have hsz : (I y_12 3).toInt = ((((rfC gh AR I AI bA rel.toNat)).1 : Nat) : Int) := by unfold rfC; rw [rob_e y_12a]; have q9 := (gI_rows hv y_12b).2.2.1; omega
    have e2 : ((rfC gh AR I AI bA rel.toNat)).2 = AI (gh 0 y_12) := by unfold rfC; rw [rob_e y_12a]
    have hrl := gI_rows hv y_12b
    refine lv_astore_n (lv' := [(2, .ref y_12), (0, .ref x), (1, .int (iI rel))]) F.1 F.2.1 dX6_rounds_16 rfl hl (by decide) rfl (fun ls hl => ?_)
    refine z_iconst F dX6_rounds_17 ?_
    refine lv_istore_n (lv' := [(3, .int (iI 0)), (2, .ref y_12), (0, .ref x), (1, .int (iI rel))]) F.1 F.2.1 dX6_rounds_18 rfl hl (by decide) rfl (fun ls hl => ?_)
    refine z_iconst F dX6_rounds_19 ?_
    refine lv_istore (lv' := [(4, .int (iI 0)), (3, .int (iI 0)), (2, .ref y_12), (0, .ref x), (1, .int (iI rel))]) F.1 F.2.1 dX6_rounds_20 hl (by decide) rfl (fun ls hl => ?_)
    have cut_22_12 : ∀ (NN : Nat) (la i : Int) (H : Heap) (locs : List Loc) (ls : Array Slot), zr la → zr i → (0 ≤ i ∧ i ≤ 240) → (rdX ((rfC gh AR I AI bA rel.toNat)).2 i.toNat la) → (i ≤ ((((rfC gh AR I AI bA rel.toNat)).1 : Nat) : Int)) → (240 - i) < ((NN : Nat) : Int) → gH g I R J AI AJ AR H → va_S (gA g) s.heap H locs → lv_has ls 5 [(4, .int (iI i)), (3, .int (iI la)), (2, .ref y_12), (0, .ref x), (1, .int (iI rel))] → W p l e rmX6_roundsf s m ([.ref x, .int (iI rel)] : List Value).toArray below meth c H locs 0 0 (MQ below (gQi g (fun (z : Int) (w : gS) => I = w.1 ∧ R = w.2.1 ∧ J = w.2.2.1 ∧ AI = w.2.2.2.1 ∧ AJ = w.2.2.2.2.1 ∧ AR = w.2.2.2.2.2 ∧ ((¬ ((0 ≤ rel ∧ rel < (nr : Int)) ∧ (cc rel.toNat).1 0 = 8) ∧ z = -1) ∨ (((0 ≤ rel ∧ rel < (nr : Int)) ∧ (cc rel.toNat).1 0 = 8) ∧ rdX ((rfC gh AR I AI bA rel.toNat)).2 ((rfC gh AR I AI bA rel.toNat)).1 z)))) ([.ref x, .int (iI rel)] : List Value).toArray s 0 0 (gA g)) (F0 m 22 ls []) := by
      intro NN22
      induction NN22 with
      | zero =>
        intro la i H locs ls zla zi hi hmx hin hm22 hH hS hl
        exact absurd hm22 (by omega)
      | succ NN22 ih22 =>
        intro la i H locs ls zla zi hi hmx hin hm22 hH hS hl
        refine lv_iload F.1 F.2.1 dX6_rounds_22 (lv_at hl 0 rfl) ?_
        refine lv_aload_n F.1 F.2.1 dX6_rounds_24 rfl (lv_at hl 2 rfl) ?_
        refine g_getI (ci := 4) (k := 3) F hH rfl (by decide) iX4 y_12b (by decide) rfl k99 dX6_rounds_25 ?_
        obtain ⟨b_14a, b_14b, b_14c, b_14d, b_14e, b_14f, b_14g, b_14h⟩ := gI_rows hv y_12b
        refine z_icmp_ge (tgt := 49) F dX6_rounds_28 (by decide) zi (zr_t _) (fun c_15 => ?_) (fun c_15 => ?_)
        · refine lv_iload_n F.1 F.2.1 dX6_rounds_49 rfl (lv_at hl 1 rfl) ?_
          exact g_iret F hr hlk hH hS hz zla ⟨rfl, rfl, rfl, rfl, rfl, rfl, Or.inr ⟨tIz_1 qrg (by omega), by rw [← show i.toNat = ((rfC gh AR I AI bA rel.toNat)).1 by omega]; exact hmx⟩⟩ dX6_rounds_50
        · refine lv_iload_n F.1 F.2.1 dX6_rounds_31 rfl (lv_at hl 1 rfl) ?_
          refine lv_aload_n F.1 F.2.1 dX6_rounds_32 rfl (lv_at hl 2 rfl) ?_
          refine lv_iload F.1 F.2.1 dX6_rounds_33 (lv_at hl 0 rfl) ?_
          refine z_iconst F dX6_rounds_35 ?_
          refine g_calli (g_runV (As := [.int (iI i), .int (iI 5)]) (rest := [.int (iI la)]) (ci := 4) F hl.1 hH hS hz (c_X4_cell l g gh I R J AI AJ AR y_12 i 5 zi ⟨by decide, by decide⟩ hv y_12b (by omega) (by omega) (by omega) (by omega)) (cwV 2 F.2.2.2.2.1 gX6_rounds_X4_cell rfl rfl rfl hdX4_cell ⟨Nat.le_of_ble_eq_true rfl, Nat.le_of_ble_eq_true rfl⟩) y_12b (by decide) rfl rfl rfl (Nat.le_of_ble_eq_true rfl) dX6_rounds_36 ⟨Nat.zero_le _, Nat.zero_le _⟩) hS (fun v_22 I_16 R_17 J_18 AI_19 AJ_20 AR_21 H locs zv_22 hp_23 hH hS => ?_)
          dsimp only at hp_23
          obtain ⟨rfl, rfl, rfl, rfl, rfl, rfl, qce⟩ := hp_23
          have c36 : v_22 = (((rfC gh AR I AI bA rel.toNat)).2 (6 * i.toNat + 5)).toInt := by rw [e2, qce]; congr 2; omega
          refine z_mmax (rest := []) F hl.1 (List.mem_of_getElem? (i := 3) rfl) (List.mem_of_getElem? (i := 4) rfl) (List.mem_of_getElem? (i := 5) rfl) (List.mem_of_getElem? (i := 6) rfl) (Nat.le_of_ble_eq_true rfl) (Nat.le_of_ble_eq_true rfl) (Nat.zero_le _) (Nat.zero_le _) zla zv_22 dX6_rounds_39 (fun v_24 zv_24 qv_24 => ?_)
          have hmx9 : rdX ((rfC gh AR I AI bA rel.toNat)).2 (i + 1).toNat v_24 := by rw [show (i + 1).toNat = i.toNat + 1 by omega]; exact rdX_s hmx (by rw [← c36]; omega)
          refine lv_istore_n (lv' := [(3, .int (iI v_24)), (4, .int (iI i)), (2, .ref y_12), (0, .ref x), (1, .int (iI rel))]) F.1 F.2.1 dX6_rounds_42 rfl hl (by decide) rfl (fun ls hl => ?_)
          refine z_iinc (lv' := [(4, .int (iI (i + 1))), (3, .int (iI v_24)), (2, .ref y_12), (0, .ref x), (1, .int (iI rel))]) F dX6_rounds_43 hl (k := 1) rfl (by decide) rfl (fun ls hl => ?_)
          refine z_goto (tgt := 22) F dX6_rounds_46 (by decide) ?_
          exact ih22 v_24 (i + 1) H locs ls zv_24 ⟨by omega, by omega⟩ (by omega) hmx9 (by omega) (by omega) hH hS (lv_sub hl [0, 1, 2, 3, 4] rfl)
    exact cut_22_12 (((240 - 0) + 1 : Int).toNat) 0 0 H locs ls ⟨by decide, by decide⟩ ⟨by decide, by decide⟩ (by omega) rdX_0 (by omega) (by omega) hH hS (lv_sub hl [0, 1, 2, 3, 4] rfl)
  · refine z_iconst F dX6_rounds_8 ?_
    exact g_iret F hr hlk hH hS hz ⟨by decide, by decide⟩ ⟨rfl, rfl, rfl, rfl, rfl, rfl, Or.inl ⟨tIz_0 qrg (by omega), rfl⟩⟩ dX6_rounds_9
