def rmX1_parse : Room := { frames := 8, cells := 0, slots := 0, locals := 184 }
theorem hdX1_parse : yX1_parse.cls = RX1 ∧ yX1_parse.cls ≠ "java/lang/invoke/MethodHandle" ∧ yX1_parse.cls ≠ "java/lang/invoke/VarHandle" ∧ (parseMethodDescriptor yX1_parse.desc).map (fun d => d.parameters.length) = some 2 := by decide +kernel
set_option maxHeartbeats 4000000 in
set_option maxRecDepth 100000 in
/-- reads a plan -/
theorem c_X1_parse (l : Launch) (g : gG) (gh : gGh) (q : Nat) (I : gI) (R : gR) (J : gJ) (AI : gI) (AJ : gJ) (AR : gR) (a : Nat) (t : Nat) (n : Int) (zn : zr n) (hv : gInv g gh R AR I AI) (h1 : gO g a 1) (hRq : R a 1 = some q) (hq : gO g q 2) (ht : gAr g t 8 936) (hn : 0 ≤ n ∧ n ≤ 900) : gMet l g yX1_parse wsX1_parse rmX1_parse [.ref a, .ref t, .int (iI n)] (I, R, J, AI, AJ, AR) (gQi g (fun (z : Int) (w : gS) => AR = w.2.2.2.2.2 ∧ (gInv g gh (w.2.1) AR (w.1) (w.2.2.2.1)) ∧ (∀ b k, b ≠ a ∨ k ≠ 2 → (w.2.1) b k = R b k) ∧ (yF g I (w.1)))) := by
  refine gStart (cc := cX1_parse) (maxL := 5) (ret := (some (.int))) (by decide) rfl (Nat.le_of_ble_eq_true rfl) ?_
  intro p e s m below meth c ls F hr hlk hH hz hS hl
  have hl : lv_has ls 5 [(0, .ref a), (1, .ref t), (2, .int (iI n))] := hl
  have hS : va_S (gA g) s.heap s.heap [] := hS
  obtain ⟨H, hHe⟩ : ∃ H : Heap, H = s.heap := ⟨_, rfl⟩
  obtain ⟨locs, hlo⟩ : ∃ k : List Loc, k = [] := ⟨_, rfl⟩
  have hH : gH g I R J AI AJ AR H := by rw [hHe]; exact hH
  have hS : va_S (gA g) s.heap H locs := by rw [hHe, hlo]; exact hS
  suffices hw : W p l e rmX1_parse s m ([.ref a, .ref t, .int (iI n)] : List Value).toArray below meth c H locs 0 0 (MQ below (gQi g (fun (z : Int) (w : gS) => AR = w.2.2.2.2.2 ∧ (gInv g gh (w.2.1) AR (w.1) (w.2.2.2.1)) ∧ (∀ b k, b ≠ a ∨ k ≠ 2 → (w.2.1) b k = R b k) ∧ (yF g I (w.1)))) ([.ref a, .ref t, .int (iI n)] : List Value).toArray s 0 0 (gA g)) (F0 m 0 ls []) by
    rw [hHe, hlo] at hw; exact hw
  clear hHe hlo
  have yf : yF g I I := yF_r
  have rf : ∀ b k, b ≠ a ∨ k ≠ 2 → R b k = R b k := fun _ _ _ => rfl
  have iX5 : ∀ w ∈ u_ws RX5 TX5 5, w ∈ wsX1_parse := (by decide +kernel)
  have iX2 : ∀ w ∈ u_ws RX2 TX2 3, w ∈ wsX1_parse := (by decide +kernel)
  have iX1 : ∀ w ∈ u_ws RX1 TX1 4, w ∈ wsX1_parse := (by decide +kernel)
  have k12 : Cond.fieldLink RX1 12 (TX1 0).1 (TX1 0).2.1 (TX1 0).2.2.1 ∈ wsX1_parse := List.mem_of_getElem? (i := 1) rfl
  have k21 : Cond.fieldLink RX1 21 (TX1 1).1 (TX1 1).2.1 (TX1 1).2.2.1 ∈ wsX1_parse := List.mem_of_getElem? (i := 2) rfl
  have k37 : Cond.fieldLink RX1 37 (TX2 1).1 (TX2 1).2.1 (TX2 1).2.2.1 ∈ wsX1_parse := List.mem_of_getElem? (i := 3) rfl
  have k41 : Cond.fieldLink RX1 41 (TX2 2).1 (TX2 2).2.1 (TX2 2).2.2.1 ∈ wsX1_parse := List.mem_of_getElem? (i := 4) rfl
  have k44 : Cond.fieldLink RX1 44 (TX1 3).1 (TX1 3).2.1 (TX1 3).2.2.1 ∈ wsX1_parse := List.mem_of_getElem? (i := 5) rfl
  have k47 : Cond.fieldLink RX1 47 (TX5 0).1 (TX5 0).2.1 (TX5 0).2.2.1 ∈ wsX1_parse := List.mem_of_getElem? (i := 6) rfl
  have k61 : Cond.fieldLink RX1 61 (TX5 1).1 (TX5 1).2.1 (TX5 1).2.2.1 ∈ wsX1_parse := List.mem_of_getElem? (i := 7) rfl
  refine lv_aload_n F.1 F.2.1 dX1_parse_0 rfl (lv_at hl 0 rfl) ?_
  refine g_getR (ci := 1) (k := 0) F hH rfl (by decide) iX1 h1 (by decide) rfl (b := gh 22 0) (gR_pr0 hv h1).1 k12 dX1_parse_1 ?_
  refine lv_aload_n F.1 F.2.1 dX1_parse_4 rfl (lv_at hl 1 rfl) ?_
  refine lv_iload_n F.1 F.2.1 dX1_parse_5 rfl (lv_at hl 2 rfl) ?_
  have b_1 := gI_tk hv (gR_pr0 hv h1).2
  refine g_callv (g_runV (As := [.ref t, .int (iI n)]) (rest := []) (ci := 5) F hl.1 hH hS hz (c_X5_read l g gh I R J AI AJ AR (gh 22 0) t n zn hv (gR_pr0 hv h1).2 ht (by omega)) (cwV 2 F.2.2.2.2.1 gX1_parse_X5_read rfl rfl rfl hdX5_read ⟨Nat.le_of_ble_eq_true rfl, Nat.le_of_ble_eq_true rfl⟩) (gR_pr0 hv h1).2 (by decide) rfl rfl rfl (Nat.le_of_ble_eq_true rfl) dX1_parse_6 ⟨Nat.zero_le _, Nat.zero_le _⟩) hS (fun I_2 R_3 J_4 AI_5 AJ_6 AR_7 H locs hp_8 hH hS => ?_)
  dsimp only at hp_8
  obtain ⟨rfl, rfl, rfl, hv, ft, hl1⟩ := hp_8
  have yf := yF_t yf (yF_o (gR_pr0 hv h1).2 (by decide) ft)
  refine lv_aload_n F.1 F.2.1 dX1_parse_9 rfl (lv_at hl 0 rfl) ?_
  refine g_getR (ci := 1) (k := 1) F hH rfl (by decide) iX1 h1 (by decide) rfl (b := q) hRq k21 dX1_parse_10 ?_
  refine z_iconst F dX1_parse_13 ?_
  refine g_putI (ci := 2) (k := 1) F hH hS rfl (by decide) iX2 hq (by decide) tyX2 tyX2_ok nmX2 rfl rfl rfl k37 dX1_parse_14 (fun H locs hH hS => ?_)
  obtain ⟨I_9, eI_9⟩ : ∃ qQ, qQ = gup2 I_2 q 1 (iI (0)) := ⟨_, rfl⟩
  rw [← eI_9] at hH
  have kI_9 : ∀ b, b ≠ q → I_9 b = I_2 b := fun b hb => by rw [eI_9]; exact funext fun j => gup2_a _ _ hb
  have w1 : (I_9 q 1).toInt = 0 := by rw [eI_9, gup2_s]; exact iI_val ⟨by decide, by decide⟩
  have hv : gInv g gh R AR I_9 AI_5 := by rw [eI_9]; exact gInv_planLen hv hq (by decide) (by decide) (fun b _ _ h => absurd h (by omega))
  have yf := yF_t yf (yF_o hq (by decide) kI_9)
  have hl1 : 1 ≤ (I_9 (gh 22 0) 4).toInt := by rw [kI_9 _ (gO_ne (gR_pr0 hv h1).2 hq (by decide))]; exact hl1
  refine lv_aload_n F.1 F.2.1 dX1_parse_17 rfl (lv_at hl 0 rfl) ?_
  refine g_getR (ci := 1) (k := 1) F hH rfl (by decide) iX1 h1 (by decide) rfl (b := q) hRq k21 dX1_parse_18 ?_
  refine z_iconst F dX1_parse_21 ?_
  refine g_putI (ci := 2) (k := 2) F hH hS rfl (by decide) iX2 hq (by decide) tyX2 tyX2_ok nmX2 rfl rfl rfl k41 dX1_parse_22 (fun H locs hH hS => ?_)
  obtain ⟨I_10, eI_10⟩ : ∃ qQ, qQ = gup2 I_9 q 2 (iI (0)) := ⟨_, rfl⟩
  rw [← eI_10] at hH
  have kI_10 : ∀ b, b ≠ q → I_10 b = I_9 b := fun b hb => by rw [eI_10]; exact funext fun j => gup2_a _ _ hb
  have w2 : (I_10 q 2).toInt = 0 := by rw [eI_10, gup2_s]; exact iI_val ⟨by decide, by decide⟩
  have w1 : (I_10 q 1).toInt = 0 := by rw [eI_10, gup2_k _ _ (by decide)]; exact w1
  have hv : gInv g gh R AR I_10 AI_5 := by rw [eI_10]; exact gInv_planTab hv hq (by decide) (by decide)
  have yf := yF_t yf (yF_o hq (by decide) kI_10)
  have hl1 : 1 ≤ (I_10 (gh 22 0) 4).toInt := by rw [kI_10 _ (gO_ne (gR_pr0 hv h1).2 hq (by decide))]; exact hl1
  refine lv_aload_n F.1 F.2.1 dX1_parse_25 rfl (lv_at hl 0 rfl) ?_
  refine z_iconst F dX1_parse_26 ?_
  refine g_putI (ci := 1) (k := 3) F hH hS rfl (by decide) iX1 h1 (by decide) tyX1 tyX1_ok nmX1 rfl rfl rfl k44 dX1_parse_27 (fun H locs hH hS => ?_)
  obtain ⟨I_11, eI_11⟩ : ∃ qQ, qQ = gup2 I_10 a 3 (iI (0)) := ⟨_, rfl⟩
  rw [← eI_11] at hH
  have kI_11 : ∀ b, b ≠ a → I_11 b = I_10 b := fun b hb => by rw [eI_11]; exact funext fun j => gup2_a _ _ hb
  have hh : (I_11 a 3).toInt < (I_11 (gh 22 0) 4).toInt := by rw [eI_11, gup2_s, gup2_a _ _ (gO_ne (gR_pr0 hv h1).2 h1 (by decide)), iI_val ⟨by decide, by decide⟩]; omega
  have hv : gInv g gh R AR I_11 AI_5 := by rw [eI_11]; exact gInv_here hv h1 (by decide) (by decide)
  have yf := yF_t yf (yF_o h1 (by decide) kI_11)
  have htb : 0 ≤ (I_11 q 2).toInt ∧ (I_11 q 2).toInt ≤ (I_11 q 1).toInt := by rw [kI_11 q (gO_ne hq h1 (by decide))]; omega
  refine z_iconst F dX1_parse_30 ?_
  refine lv_istore_n (lv' := [(3, .int (iI 0)), (0, .ref a), (1, .ref t), (2, .int (iI n))]) F.1 F.2.1 dX1_parse_31 rfl hl (by decide) rfl (fun ls hl => ?_)
  have cut_32_15 : ∀ (NN : Nat) (nn : Int) (I_12 : gI) (R_13 : gR) (J_14 : gJ) (AI_15 : gI) (H : Heap) (locs : List Loc) (ls : Array Slot), zr nn → (gInv g gh R_13 AR I_12 AI_15) → (R_13 a 1 = some q) → (∀ b k, b ≠ a ∨ k ≠ 2 → R_13 b k = R b k) → (yF g I I_12) → ((I_12 a 3).toInt < (I_12 (gh 22 0) 4).toInt) → (0 ≤ (I_12 q 2).toInt ∧ (I_12 q 2).toInt ≤ (I_12 q 1).toInt) → (0 ≤ nn ∧ nn ≤ 17) → (17 - nn) < ((NN : Nat) : Int) → gH g I_12 R_13 J_14 AI_15 AJ_6 AR H → va_S (gA g) s.heap H locs → lv_has ls 5 [(3, .int (iI nn)), (0, .ref a), (1, .ref t), (2, .int (iI n))] → W p l e rmX1_parse s m ([.ref a, .ref t, .int (iI n)] : List Value).toArray below meth c H locs 0 0 (MQ below (gQi g (fun (z : Int) (w : gS) => AR = w.2.2.2.2.2 ∧ (gInv g gh (w.2.1) AR (w.1) (w.2.2.2.1)) ∧ (∀ b k, b ≠ a ∨ k ≠ 2 → (w.2.1) b k = R b k) ∧ (yF g I (w.1)))) ([.ref a, .ref t, .int (iI n)] : List Value).toArray s 0 0 (gA g)) (F0 m 32 ls []) := by
    intro NN32
    induction NN32 with
    | zero =>
      intro nn I_12 R_13 J_14 AI_15 H locs ls znn hv hRq rf yf hh htb hi hm32 hH hS hl
      exact absurd hm32 (by omega)
    | succ NN32 ih32 =>
      intro nn I_12 R_13 J_14 AI_15 H locs ls znn hv hRq rf yf hh htb hi hm32 hH hS hl
      refine lv_iload_n F.1 F.2.1 dX1_parse_32 rfl (lv_at hl 0 rfl) ?_
      refine z_bipush F dX1_parse_33 (by decide) ?_
      refine z_icmp_gt (tgt := 118) F dX1_parse_35 (by decide) znn ⟨by decide, by decide⟩ (fun c_17 => ?_) (fun c_17 => ?_)
      · refine z_iconst F dX1_parse_118 ?_
        exact g_iret F hr hlk hH hS hz ⟨by decide, by decide⟩ ⟨rfl, hv, rf, yf⟩ dX1_parse_119
      · refine lv_aload_n F.1 F.2.1 dX1_parse_38 rfl (lv_at hl 1 rfl) ?_
        refine g_getR (ci := 1) (k := 0) F hH rfl (by decide) iX1 h1 (by decide) rfl (b := gh 22 0) (gR_pr0 hv h1).1 k12 dX1_parse_39 ?_
        obtain ⟨r_18a, r_18b⟩ := gR_tk0 hv (gR_pr0 hv h1).2
        refine g_getR (ci := 5) (k := 0) F hH rfl (by decide) iX5 (gR_pr0 hv h1).2 (by decide) rfl (b := gh 24 0) r_18a k47 dX1_parse_42 ?_
        refine lv_aload_n F.1 F.2.1 dX1_parse_45 rfl (lv_at hl 1 rfl) ?_
        refine g_getI (ci := 1) (k := 3) F hH rfl (by decide) iX1 h1 (by decide) rfl k44 dX1_parse_46 ?_
        have b_19 := gI_pr hv h1
        have b_19t := gI_tk hv (gR_pr0 hv h1).2
        have hx49 : 0 ≤ ((I_12 a 3).toInt) ∧ ((I_12 a 3).toInt) < ((901 : Nat) : Int) ∧ ((I_12 a 3).toInt) ≤ 2147483647 := ⟨by omega, by omega, by omega⟩
        refine g_iald F hH r_18b hx49.1 hx49.2.1 hx49.2.2 dX1_parse_49 ?_
        refine z_name (fun v_20 ev_20 => ?_)
        have zv_20 : zr v_20 := by rw [ev_20]; exact zr_t _
        refine z_if_eq (tgt := 118) F dX1_parse_50 (by decide) zv_20 (fun c_21 => ?_) (fun c_21 => ?_)
        · refine z_iconst F dX1_parse_118 ?_
          exact g_iret F hr hlk hH hS hz ⟨by decide, by decide⟩ ⟨rfl, hv, rf, yf⟩ dX1_parse_119
        · refine lv_aload_n F.1 F.2.1 dX1_parse_53 rfl (lv_at hl 1 rfl) ?_
          refine g_calli (g_runV (As := []) (rest := []) (ci := 1) F hl.1 hH hS hz (c_X1_readHead l g gh q I_12 R_13 J_14 AI_15 AJ_6 AR a hv h1 (by first | exact hp.2.2.2.2.2.2.2 | exact hh | omega) hRq hq) (cwV 0 F.2.2.2.2.1 gX1_parse_X1_readHead rfl rfl rfl hdX1_readHead ⟨Nat.le_of_ble_eq_true rfl, Nat.le_of_ble_eq_true rfl⟩) h1 (by decide) rfl rfl rfl (Nat.le_of_ble_eq_true rfl) dX1_parse_54 ⟨Nat.zero_le _, Nat.zero_le _⟩) hS (fun v_28 I_22 R_23 J_24 AI_25 AJ_26 AR_27 H locs zv_28 hp_29 hH hS => ?_)
          dsimp only at hp_29
          obtain ⟨rfl, rfl, rfl, hv, rfh, cfh, hsh, exh, zb⟩ := hp_29
          have hRq : R_23 a 1 = some q := by rw [rfh a 1 (Or.inr (by decide))]; exact hRq
          have rf : ∀ b k, b ≠ a ∨ k ≠ 2 → R_23 b k = R b k := fun b k h => (rfh b k h).trans (rf b k h)
          have yf := yF_t yf (fun b c hb h0 h1' _ _ => cfh b c hb h0 h1')
          have hq1 : I_22 q = I_12 q := cfh q 2 hq (by decide) (by decide)
          have ht1 : I_22 (gh 22 0) = I_12 (gh 22 0) := cfh _ 5 (gR_pr0 hv h1).2 (by decide) (by decide)
          have hh : (I_22 a 3).toInt < (I_22 (gh 22 0) 4).toInt := by rw [ht1]; exact hsh
          have htb : 0 ≤ (I_22 q 2).toInt ∧ (I_22 q 2).toInt ≤ (I_22 q 1).toInt := by rw [hq1]; exact htb
          have hq11 : (I_22 q 1).toInt = (I_12 q 1).toInt := by rw [hq1]
          refine lv_istore (lv' := [(4, .int (iI v_28)), (3, .int (iI nn)), (0, .ref a), (1, .ref t), (2, .int (iI n))]) F.1 F.2.1 dX1_parse_57 hl (by decide) rfl (fun ls hl => ?_)
          refine lv_iload F.1 F.2.1 dX1_parse_59 (lv_at hl 0 rfl) ?_
          refine z_if_ne (tgt := 70) F dX1_parse_61 (by decide) zv_28 (fun c_30 => ?_) (fun c_30 => ?_)
          · refine lv_iload F.1 F.2.1 dX1_parse_70 (lv_at hl 0 rfl) ?_
            refine z_if_ne (tgt := 81) F dX1_parse_72 (by decide) zv_28 (fun c_31 => ?_) (fun c_31 => ?_)
            · refine lv_iload F.1 F.2.1 dX1_parse_81 (lv_at hl 0 rfl) ?_
              refine z_if_eq (tgt := 105) F dX1_parse_83 (by decide) zv_28 (fun c_32 => ?_) (fun c_32 => ?_)
              · exact absurd trivial (by omega)
              · refine z_bipush F dX1_parse_86 (by decide) ?_
                refine lv_aload_n F.1 F.2.1 dX1_parse_88 rfl (lv_at hl 2 rfl) ?_
                refine g_getR (ci := 1) (k := 0) F hH rfl (by decide) iX1 h1 (by decide) rfl (b := gh 22 0) (gR_pr0 hv h1).1 k12 dX1_parse_89 ?_
                obtain ⟨r_33a, r_33b⟩ := gR_tk1 hv (gR_pr0 hv h1).2
                refine g_getR (ci := 5) (k := 1) F hH rfl (by decide) iX5 (gR_pr0 hv h1).2 (by decide) rfl (b := gh 25 0) r_33a k61 dX1_parse_92 ?_
                refine lv_aload_n F.1 F.2.1 dX1_parse_95 rfl (lv_at hl 2 rfl) ?_
                refine g_getI (ci := 1) (k := 3) F hH rfl (by decide) iX1 h1 (by decide) rfl k44 dX1_parse_96 ?_
                have b_34 := gI_pr hv h1
                have b_34t := gI_tk hv (gR_pr0 hv h1).2
                have hx99 : 0 ≤ ((I_22 a 3).toInt) ∧ ((I_22 a 3).toInt) < ((901 : Nat) : Int) ∧ ((I_22 a 3).toInt) ≤ 2147483647 := ⟨by omega, by omega, by omega⟩
                refine g_iald F hH r_33b hx99.1 hx99.2.1 hx99.2.2 dX1_parse_99 ?_
                refine z_name (fun v_35 ev_35 => ?_)
                have zv_35 : zr v_35 := by rw [ev_35]; exact zr_t _
                refine z_imul F dX1_parse_100 ?_
                refine z_norm (fun v_36 zv_36 ev_36 => ?_)
                refine lv_iload F.1 F.2.1 dX1_parse_101 (lv_at hl 0 rfl) ?_
                refine z_iadd F dX1_parse_103 ?_
                refine z_norm (fun v_37 zv_37 ev_37 => ?_)
                exact g_iret F hr hlk hH hS hz zv_37 ⟨rfl, hv, rf, yf⟩ dX1_parse_104
            · exact absurd trivial (by omega)
          · obtain ⟨ln1, hp, h15⟩ := exh (by omega)
            clear exh
            refine lv_aload_n F.1 F.2.1 dX1_parse_64 rfl (lv_at hl 2 rfl) ?_
            refine g_calli (g_runV (As := []) (rest := []) (ci := 1) F hl.1 hH hS hz (c_X1_readBody l g gh q ln1 I_22 R_23 J_24 AI_15 AJ_6 AR a hv hp) (cwV 0 F.2.2.2.2.1 gX1_parse_X1_readBody rfl rfl rfl hdX1_readBody ⟨Nat.le_of_ble_eq_true rfl, Nat.le_of_ble_eq_true rfl⟩) h1 (by decide) rfl rfl rfl (Nat.le_of_ble_eq_true rfl) dX1_parse_65 ⟨Nat.zero_le _, Nat.zero_le _⟩) hS (fun v_44 I_38 R_39 J_40 AI_41 AJ_42 AR_43 H locs zv_44 hp_45 hH hS => ?_)
            dsimp only at hp_45
            obtain ⟨rfl, rfl, rfl, rfl, hv, hp, pfq, q_46⟩ := hp_45
            have yf := yF_t yf (fun b c hb h0 h1' _ _ => pfq.1 b (gO_ne hb h1 h1') (gO_ne hb hp.2.2.2.2.1 h0))
            have hq1 : I_38 q = I_22 q := pF_q hp pfq
            have hq11 : (I_38 q 1).toInt = (I_22 q 1).toInt := by rw [hq1]
            have hh := hp.2.2.2.2.2.2.2
            have htb : 0 ≤ (I_38 q 2).toInt ∧ (I_38 q 2).toInt ≤ (I_38 q 1).toInt := by rw [hq1]; exact htb
            refine lv_istore (lv' := [(4, .int (iI v_44)), (3, .int (iI nn)), (0, .ref a), (1, .ref t), (2, .int (iI n))]) F.1 F.2.1 dX1_parse_68 hl (by decide) rfl (fun ls hl => ?_)
            refine lv_iload F.1 F.2.1 dX1_parse_70 (lv_at hl 0 rfl) ?_
            refine z_if_ne (tgt := 81) F dX1_parse_72 (by decide) zv_44 (fun c_47 => ?_) (fun c_47 => ?_)
            · refine lv_iload F.1 F.2.1 dX1_parse_81 (lv_at hl 0 rfl) ?_
              refine z_if_eq (tgt := 105) F dX1_parse_83 (by decide) zv_44 (fun c_48 => ?_) (fun c_48 => ?_)
              · exact absurd trivial (by omega)
              · refine z_bipush F dX1_parse_86 (by decide) ?_
                refine lv_aload_n F.1 F.2.1 dX1_parse_88 rfl (lv_at hl 2 rfl) ?_
                refine g_getR (ci := 1) (k := 0) F hH rfl (by decide) iX1 h1 (by decide) rfl (b := gh 22 0) (gR_pr0 hv h1).1 k12 dX1_parse_89 ?_
                obtain ⟨r_49a, r_49b⟩ := gR_tk1 hv (gR_pr0 hv h1).2
                refine g_getR (ci := 5) (k := 1) F hH rfl (by decide) iX5 (gR_pr0 hv h1).2 (by decide) rfl (b := gh 25 0) r_49a k61 dX1_parse_92 ?_
                refine lv_aload_n F.1 F.2.1 dX1_parse_95 rfl (lv_at hl 2 rfl) ?_
                refine g_getI (ci := 1) (k := 3) F hH rfl (by decide) iX1 h1 (by decide) rfl k44 dX1_parse_96 ?_
                have b_50 := gI_pr hv h1
                have b_50t := gI_tk hv (gR_pr0 hv h1).2
                have hx99 : 0 ≤ ((I_38 a 3).toInt) ∧ ((I_38 a 3).toInt) < ((901 : Nat) : Int) ∧ ((I_38 a 3).toInt) ≤ 2147483647 := ⟨by omega, by omega, by omega⟩
                refine g_iald F hH r_49b hx99.1 hx99.2.1 hx99.2.2 dX1_parse_99 ?_
                refine z_name (fun v_51 ev_51 => ?_)
                have zv_51 : zr v_51 := by rw [ev_51]; exact zr_t _
                refine z_imul F dX1_parse_100 ?_
                refine z_norm (fun v_52 zv_52 ev_52 => ?_)
                refine lv_iload F.1 F.2.1 dX1_parse_101 (lv_at hl 0 rfl) ?_
                refine z_iadd F dX1_parse_103 ?_
                refine z_norm (fun v_53 zv_53 ev_53 => ?_)
                exact g_iret F hr hlk hH hS hz zv_53 ⟨rfl, hv, rf, yf⟩ dX1_parse_104
            · refine lv_aload_n F.1 F.2.1 dX1_parse_75 rfl (lv_at hl 2 rfl) ?_
              refine g_calli (g_runV (As := []) (rest := []) (ci := 1) F hl.1 hH hS hz (c_X1_readClose l g gh q ln1 I_38 R_23 J_24 AI_41 AJ_6 AR a hv hp) (cwV 0 F.2.2.2.2.1 gX1_parse_X1_readClose rfl rfl rfl hdX1_readClose ⟨Nat.le_of_ble_eq_true rfl, Nat.le_of_ble_eq_true rfl⟩) h1 (by decide) rfl rfl rfl (Nat.le_of_ble_eq_true rfl) dX1_parse_76 ⟨Nat.zero_le _, Nat.zero_le _⟩) hS (fun v_60 I_54 R_55 J_56 AI_57 AJ_58 AR_59 H locs zv_60 hp_61 hH hS => ?_)
              dsimp only at hp_61
              obtain ⟨rfl, rfl, rfl, rfl, rfl, hv, hp, pfq, hcl, zcl⟩ := hp_61
              have yf := yF_t yf (fun b c hb h0 h1' _ _ => pfq.1 b (gO_ne hb h1 h1') (gO_ne hb hp.2.2.2.2.1 h0))
              have hq1 : I_54 q = I_38 q := pF_q hp pfq
              have hq11 : (I_54 q 1).toInt = (I_38 q 1).toInt := by rw [hq1]
              have hh := hp.2.2.2.2.2.2.2
              have htb : 0 ≤ (I_54 q 2).toInt ∧ (I_54 q 2).toInt ≤ (I_54 q 1).toInt := by rw [hq1]; exact htb
              refine lv_istore (lv' := [(4, .int (iI v_60)), (3, .int (iI nn)), (0, .ref a), (1, .ref t), (2, .int (iI n))]) F.1 F.2.1 dX1_parse_79 hl (by decide) rfl (fun ls hl => ?_)
              refine lv_iload F.1 F.2.1 dX1_parse_81 (lv_at hl 0 rfl) ?_
              refine z_if_eq (tgt := 105) F dX1_parse_83 (by decide) zv_60 (fun c_62 => ?_) (fun c_62 => ?_)
              · refine lv_aload_n F.1 F.2.1 dX1_parse_105 rfl (lv_at hl 2 rfl) ?_
                refine g_getR (ci := 1) (k := 1) F hH rfl (by decide) iX1 h1 (by decide) rfl (b := q) hRq k21 dX1_parse_106 ?_
                have b_63 := gI_plan hv hq
                refine g_callv (g_runV (As := []) (rest := []) (ci := 2) F hl.1 hH hS hz (c_X2_keepLine l g gh I_54 R_23 J_24 AI_41 AJ_6 AR q hv hq (by omega) (by omega) (fun b hb h4 h5 => by
          have e := gA_same hv hq hb h4 hp.2.2.2.2.1 hp.2.2.2.2.2.1 (by have := hp.2.2.2.2.2.2.1; omega)
          rw [e]; exact hcl (by omega))) (cwV 0 F.2.2.2.2.1 gX1_parse_X2_keepLine rfl rfl rfl hdX2_keepLine ⟨Nat.le_of_ble_eq_true rfl, Nat.le_of_ble_eq_true rfl⟩) hq (by decide) rfl rfl rfl (Nat.le_of_ble_eq_true rfl) dX1_parse_109 ⟨Nat.zero_le _, Nat.zero_le _⟩) hS (fun I_64 R_65 J_66 AI_67 AJ_68 AR_69 H locs hp_70 hH hS => ?_)
                dsimp only at hp_70
                obtain ⟨rfl, rfl, rfl, rfl, rfl, hv, kl, kt, kf⟩ := hp_70
                have yf := yF_t yf (fun b c hb h0 _ h2 _ => kf b c hb h0 h2)
                have hh : (I_64 a 3).toInt < (I_64 (gh 22 0) 4).toInt := by rw [kf a 1 h1 (by decide) (by decide), kf _ 5 (gR_pr0 hv h1).2 (by decide) (by decide)]; exact hh
                have htb : 0 ≤ (I_64 q 2).toInt ∧ (I_64 q 2).toInt ≤ (I_64 q 1).toInt := by have := gI_plan hv hq; omega
                refine z_iinc (lv' := [(3, .int (iI (nn + 1))), (4, .int (iI v_60)), (0, .ref a), (1, .ref t), (2, .int (iI n))]) F dX1_parse_112 hl (k := 1) rfl (by decide) rfl (fun ls hl => ?_)
                refine z_goto (tgt := 32) F dX1_parse_115 (by decide) ?_
                exact ih32 (nn + 1) I_64 R_23 J_24 AI_41 H locs ls ⟨by omega, by omega⟩ hv hRq rf yf hh htb (by omega) (by omega) hH hS (lv_sub hl [0, 2, 3, 4] rfl)
              · refine z_bipush F dX1_parse_86 (by decide) ?_
                refine lv_aload_n F.1 F.2.1 dX1_parse_88 rfl (lv_at hl 2 rfl) ?_
                refine g_getR (ci := 1) (k := 0) F hH rfl (by decide) iX1 h1 (by decide) rfl (b := gh 22 0) (gR_pr0 hv h1).1 k12 dX1_parse_89 ?_
                obtain ⟨r_71a, r_71b⟩ := gR_tk1 hv (gR_pr0 hv h1).2
                refine g_getR (ci := 5) (k := 1) F hH rfl (by decide) iX5 (gR_pr0 hv h1).2 (by decide) rfl (b := gh 25 0) r_71a k61 dX1_parse_92 ?_
                refine lv_aload_n F.1 F.2.1 dX1_parse_95 rfl (lv_at hl 2 rfl) ?_
                refine g_getI (ci := 1) (k := 3) F hH rfl (by decide) iX1 h1 (by decide) rfl k44 dX1_parse_96 ?_
                have b_72 := gI_pr hv h1
                have b_72t := gI_tk hv (gR_pr0 hv h1).2
                have hx99 : 0 ≤ ((I_54 a 3).toInt) ∧ ((I_54 a 3).toInt) < ((901 : Nat) : Int) ∧ ((I_54 a 3).toInt) ≤ 2147483647 := ⟨by omega, by omega, by omega⟩
                refine g_iald F hH r_71b hx99.1 hx99.2.1 hx99.2.2 dX1_parse_99 ?_
                refine z_name (fun v_73 ev_73 => ?_)
                have zv_73 : zr v_73 := by rw [ev_73]; exact zr_t _
                refine z_imul F dX1_parse_100 ?_
                refine z_norm (fun v_74 zv_74 ev_74 => ?_)
                refine lv_iload F.1 F.2.1 dX1_parse_101 (lv_at hl 0 rfl) ?_
                refine z_iadd F dX1_parse_103 ?_
                refine z_norm (fun v_75 zv_75 ev_75 => ?_)
                exact g_iret F hr hlk hH hS hz zv_75 ⟨rfl, hv, rf, yf⟩ dX1_parse_104
  exact cut_32_15 (((17 - 0) + 1 : Int).toNat) 0 I_11 R J AI_5 H locs ls ⟨by decide, by decide⟩ hv hRq rf yf hh htb (by omega) (by omega) hH hS (lv_sub hl [0, 1, 2, 3] rfl)

def rmX6_plan : Room := { frames := 9, cells := 0, slots := 0, locals := 208 }
theorem hdX6_plan : yX6_plan.cls = RX6 ∧ yX6_plan.cls ≠ "java/lang/invoke/MethodHandle" ∧ yX6_plan.cls ≠ "java/lang/invoke/VarHandle" ∧ (parseMethodDescriptor yX6_plan.desc).map (fun d => d.parameters.length) = some 0 := by decide +kernel
set_option maxHeartbeats 4000000 in
set_option maxRecDepth 100000 in
/-- plan -/
theorem c_X6_plan (l : Launch) (g : gG) (gh : gGh) (pA bA nA : Nat) (I : gI) (R : gR) (J : gJ) (AI : gI) (AJ : gJ) (AR : gR) (x : Nat) (hv : gInv g gh R AR I AI) (hx : xS g gh R AR x pA bA nA) (h37 : gh 42 0 ≠ 1) : gMet l g yX6_plan wsX6_plan rmX6_plan [.ref x] (I, R, J, AI, AJ, AR) (gQi g (fun (z : Int) (w : gS) => AR = w.2.2.2.2.2 ∧ (gInv g gh (w.2.1) AR (w.1) (w.2.2.2.1)) ∧ (∃ p1 b1 n1, xS g gh (w.2.1) AR x p1 b1 n1) ∧ (((w.1) x 1).toInt = 0) ∧ (∀ b, gO g b 7 → (w.2.1) b = R b))) := by
  refine gStart (cc := cX6_plan) (maxL := 3) (ret := (some (.int))) (by decide) rfl (Nat.le_of_ble_eq_true rfl) ?_
  intro p e s m below meth c ls F hr hlk hH hz hS hl
  have hl : lv_has ls 3 [(0, .ref x)] := hl
  have hS : va_S (gA g) s.heap s.heap [] := hS
  obtain ⟨H, hHe⟩ : ∃ H : Heap, H = s.heap := ⟨_, rfl⟩
  obtain ⟨locs, hlo⟩ : ∃ k : List Loc, k = [] := ⟨_, rfl⟩
  have hH : gH g I R J AI AJ AR H := by rw [hHe]; exact hH
  have hS : va_S (gA g) s.heap H locs := by rw [hHe, hlo]; exact hS
  suffices hw : W p l e rmX6_plan s m ([.ref x] : List Value).toArray below meth c H locs 0 0 (MQ below (gQi g (fun (z : Int) (w : gS) => AR = w.2.2.2.2.2 ∧ (gInv g gh (w.2.1) AR (w.1) (w.2.2.2.1)) ∧ (∃ p1 b1 n1, xS g gh (w.2.1) AR x p1 b1 n1) ∧ (((w.1) x 1).toInt = 0) ∧ (∀ b, gO g b 7 → (w.2.1) b = R b))) ([.ref x] : List Value).toArray s 0 0 (gA g)) (F0 m 0 ls []) by
    rw [hHe, hlo] at hw; exact hw
  clear hHe hlo
  obtain ⟨q, hRq, hq⟩ := (hv.2.2.2.2.2.1 _ (gR_x2 hv hx.1).2).2.1
  have r7 : ∀ b, gO g b 7 → R b = R b := fun _ _ => rfl
  have iX6 : ∀ w ∈ u_ws RX6 TX6 18, w ∈ wsX6_plan := (by decide +kernel)
  have iX2 : ∀ w ∈ u_ws RX2 TX2 3, w ∈ wsX6_plan := (by decide +kernel)
  have k77 : Cond.fieldLink RX6 77 (TX6 1).1 (TX6 1).2.1 (TX6 1).2.2.1 ∈ wsX6_plan := List.mem_of_getElem? (i := 1) rfl
  have k16 : Cond.fieldLink RX6 16 (TX6 2).1 (TX6 2).2.1 (TX6 2).2.2.1 ∈ wsX6_plan := List.mem_of_getElem? (i := 2) rfl
  have k9 : Cond.fieldLink RX6 9 (TX6 0).1 (TX6 0).2.1 (TX6 0).2.2.1 ∈ wsX6_plan := List.mem_of_getElem? (i := 3) rfl
  have k23 : Cond.fieldLink RX6 23 (TX6 3).1 (TX6 3).2.1 (TX6 3).2.2.1 ∈ wsX6_plan := List.mem_of_getElem? (i := 4) rfl
  have k96 : Cond.fieldLink RX6 96 (TX2 1).1 (TX2 1).2.1 (TX2 1).2.2.1 ∈ wsX6_plan := List.mem_of_getElem? (i := 5) rfl
  refine lv_aload_n F.1 F.2.1 dX6_plan_0 rfl (lv_at hl 0 rfl) ?_
  refine g_getI (ci := 6) (k := 1) F hH rfl (by decide) iX6 hx.1 (by decide) rfl k77 dX6_plan_1 ?_
  have b_1 := gI_x hv hx.1
  refine lv_istore_n (lv' := [(1, .int (iI ((I x 1).toInt))), (0, .ref x)]) F.1 F.2.1 dX6_plan_4 rfl hl (by decide) rfl (fun ls hl => ?_)
  refine lv_aload_n F.1 F.2.1 dX6_plan_5 rfl (lv_at hl 1 rfl) ?_
  refine z_iconst F dX6_plan_6 ?_
  refine g_putI (ci := 6) (k := 1) F hH hS rfl (by decide) iX6 hx.1 (by decide) tyX6 tyX6_ok nmX6 rfl rfl rfl k77 dX6_plan_7 (fun H locs hH hS => ?_)
  obtain ⟨I_2, eI_2⟩ : ∃ qQ, qQ = gup2 I x 1 (iI (0)) := ⟨_, rfl⟩
  rw [← eI_2] at hH
  have kI_2 : ∀ b, b ≠ x → I_2 b = I b := fun b hb => by rw [eI_2]; exact funext fun j => gup2_a _ _ hb
  have x1 : (I_2 x 1).toInt = 0 := by rw [eI_2, gup2_s]; exact iI_val ⟨by decide, by decide⟩
  have hv : gInv g gh R AR I_2 AI := by rw [eI_2]; exact gInv_x1 hv hx.1 (by decide) (by decide)
  refine lv_iload_n F.1 F.2.1 dX6_plan_10 rfl (lv_at hl 0 rfl) ?_
  refine z_sipush F dX6_plan_11 (by decide) ?_
  refine z_icmp_le (tgt := 19) F dX6_plan_14 (by decide) (zr_t _) ⟨by decide, by decide⟩ (fun c_3 => ?_) (fun c_3 => ?_)
  · refine lv_aload_n F.1 F.2.1 dX6_plan_19 rfl (lv_at hl 1 rfl) ?_
    obtain ⟨r_4a, r_4b⟩ := gR_x2 hv hx.1
    refine g_getR (ci := 6) (k := 2) F hH rfl (by decide) iX6 hx.1 (by decide) rfl (b := gh 21 0) r_4a k16 dX6_plan_20 ?_
    refine lv_aload_n F.1 F.2.1 dX6_plan_23 rfl (lv_at hl 1 rfl) ?_
    obtain ⟨r_5a, r_5b⟩ := gR_x0 hv hx.1
    refine g_getR (ci := 6) (k := 0) F hH rfl (by decide) iX6 hx.1 (by decide) rfl (b := gh 28 0) r_5a k9 dX6_plan_24 ?_
    refine lv_iload_n F.1 F.2.1 dX6_plan_27 rfl (lv_at hl 0 rfl) ?_
    refine g_calli (g_runV (As := [.ref (gh 28 0), .int (iI ((I x 1).toInt))]) (rest := []) (ci := 1) F hl.1 hH hS hz (c_X1_parse l g gh q I_2 R J AI AJ AR (gh 21 0) (gh 28 0) ((I x 1).toInt) (zr_t _) hv r_4b hRq hq r_5b (by omega)) (cwV 2 F.2.2.2.2.1 gX6_plan_X1_parse rfl rfl rfl hdX1_parse ⟨Nat.le_of_ble_eq_true rfl, Nat.le_of_ble_eq_true rfl⟩) r_4b (by decide) rfl rfl rfl (Nat.le_of_ble_eq_true rfl) dX6_plan_28 ⟨Nat.zero_le _, Nat.zero_le _⟩) hS (fun v_12 I_6 R_7 J_8 AI_9 AJ_10 AR_11 H locs zv_12 hp_13 hH hS => ?_)
    dsimp only at hp_13
    obtain ⟨rfl, hv, rfq, yfq⟩ := hp_13
    have x1 : (I_6 x 1).toInt = 0 := by rw [yfq x 6 hx.1 (by decide) (by decide) (by decide) (by decide)]; exact x1
    have hx := xS_R hx (fun k => rfq x k (Or.inl (gO_ne hx.1 (gR_x2 hv hx.1).2 (by decide))))
    have r7 : ∀ b, gO g b 7 → R_7 b = R b := fun b hb => (funext fun k => rfq b k (Or.inl (gO_ne hb (gR_x2 hv hx.1).2 (by decide)))).trans (r7 b hb)
    have hRq : R_7 (gh 21 0) 1 = some q := by rw [rfq _ 1 (Or.inr (by decide))]; exact hRq
    refine lv_istore_n (lv' := [(2, .int (iI v_12)), (1, .int (iI ((I x 1).toInt))), (0, .ref x)]) F.1 F.2.1 dX6_plan_31 rfl hl (by decide) rfl (fun ls hl => ?_)
    refine lv_iload_n F.1 F.2.1 dX6_plan_32 rfl (lv_at hl 0 rfl) ?_
    refine z_if_eq (tgt := 41) F dX6_plan_33 (by decide) zv_12 (fun c_14 => ?_) (fun c_14 => ?_)
    · refine lv_aload_n F.1 F.2.1 dX6_plan_41 rfl (lv_at hl 2 rfl) ?_
      refine lv_aload_n F.1 F.2.1 dX6_plan_42 rfl (lv_at hl 2 rfl) ?_
      obtain ⟨r_15a, r_15b⟩ := gR_x2 hv hx.1
      refine g_getR (ci := 6) (k := 2) F hH rfl (by decide) iX6 hx.1 (by decide) rfl (b := gh 21 0) r_15a k16 dX6_plan_43 ?_
      refine lv_aload_n F.1 F.2.1 dX6_plan_46 rfl (lv_at hl 2 rfl) ?_
      refine g_getR (ci := 6) (k := 3) F hH rfl (by decide) iX6 hx.1 (by decide) rfl (b := pA) hx.2.1 k23 dX6_plan_47 ?_
      have b_16 := gI_plan hv hx.2.2.1
      refine g_callr (g_runV (As := [.ref pA]) (rest := [.ref x]) (ci := 1) F hl.1 hH hS hz (c_X1_exchangePlan l g gh q I_6 R_7 J_8 AI_9 AJ_10 AR (gh 21 0) pA hv r_15b hx.2.2.1 hRq hq) (cwV 1 F.2.2.2.2.1 gX6_plan_X1_exchangePlan rfl rfl rfl hdX1_exchangePlan ⟨Nat.le_of_ble_eq_true rfl, Nat.le_of_ble_eq_true rfl⟩) r_15b (by decide) rfl rfl rfl (Nat.le_of_ble_eq_true rfl) dX6_plan_50 ⟨Nat.zero_le _, Nat.zero_le _⟩) hS (fun v_23 I_17 R_18 J_19 AI_20 AJ_21 AR_22 H locs hp_24 hH hS => ?_)
      dsimp only at hp_24
      obtain ⟨rfl, rfl, rfl, rfl, rfl, hv, fx, qx, rx1⟩ := hp_24
      have r7 : ∀ b, gO g b 7 → R_18 b = R b := fun b hb => (fx b (gO_ne hb (gR_x2 hv hx.1).2 (by decide))).trans (r7 b hb)
      subst qx
      have hx : xS g gh R_18 AR x pA bA nA := xS_R hx (fun k => by rw [fx x (gO_ne hx.1 (gR_x2 hv hx.1).2 (by decide))])
      refine g_putR (ci := 6) (k := 3) F hH hS rfl (by decide) iX6 hx.1 (by decide) tyX6 tyX6_ok nmX6 rfl (ty := tyX6 3) rfl rfl rfl rfl k23 dX6_plan_53 (fun H locs hH hS => ?_)
      obtain ⟨R_25, eR_25⟩ : ∃ qQ, qQ = gup2 R_18 x 3 (some (q)) := ⟨_, rfl⟩
      rw [← eR_25] at hH
      have kR_25 : ∀ b, b ≠ x → R_25 b = R_18 b := fun b hb => by rw [eR_25]; exact funext fun j => gup2_a _ _ hb
      have r7 : ∀ b, gO g b 7 → R_25 b = R b := fun b hb => (show R_25 b = R_18 b by rw [eR_25]; exact funext fun j => gup2_a _ _ (gO_ne hb hx.1 (by decide))).trans (r7 b hb)
      have hv : gInv g gh R_25 AR I_6 AI_9 := by rw [eR_25]; exact gInv_Rx hv hx.1 (Or.inl ⟨rfl, hq⟩)
      have hx : xS g gh R_25 AR x q bA nA := ⟨hx.1, by rw [eR_25, gup2_s], hq, by rw [eR_25, gup2_k _ _ (by decide)]; exact hx.2.2.2.1, hx.2.2.2.2.1, by rw [eR_25, gup2_k _ _ (by decide)]; exact hx.2.2.2.2.2.1, hx.2.2.2.2.2.2⟩
      refine lv_aload_n F.1 F.2.1 dX6_plan_56 rfl (lv_at hl 2 rfl) ?_
      have b_26 := gI_x hv hx.1
      refine g_callv (g_runV (As := []) (rest := []) (ci := 6) F hl.1 hH hS hz (c_X6_startAnew l g gh q bA nA I_6 R_25 J_8 AI_9 AJ_10 AR x hv hx h37) (cwV 0 F.2.2.2.2.1 gX6_plan_X6_startAnew rfl rfl rfl hdX6_startAnew ⟨Nat.le_of_ble_eq_true rfl, Nat.le_of_ble_eq_true rfl⟩) hx.1 (by decide) rfl rfl rfl (Nat.le_of_ble_eq_true rfl) dX6_plan_57 ⟨Nat.zero_le _, Nat.zero_le _⟩) hS (fun I_27 R_28 J_29 AI_30 AJ_31 AR_32 H locs hp_33 hH hS => ?_)
      dsimp only at hp_33
      obtain ⟨rfl, rfl, rfl, rfl, rfl, hv, xfq, q_34⟩ := hp_33
      have x1 : (I_27 x 1).toInt = 0 := by rw [xfq.2]; exact x1
      refine lv_aload_n F.1 F.2.1 dX6_plan_60 rfl (lv_at hl 2 rfl) ?_
      refine g_getR (ci := 6) (k := 3) F hH rfl (by decide) iX6 hx.1 (by decide) rfl (b := q) hx.2.1 k23 dX6_plan_61 ?_
      refine g_getI (ci := 2) (k := 1) F hH rfl (by decide) iX2 hx.2.2.1 (by decide) rfl k96 dX6_plan_64 ?_
      have b_35 := gI_plan hv hx.2.2.1
      exact g_iret F hr hlk hH hS hz (zr_t _) ⟨rfl, hv, ⟨_, _, _, hx⟩, x1, r7⟩ dX6_plan_67
    · refine z_bipush F dX6_plan_36 (by decide) ?_
      refine lv_iload_n F.1 F.2.1 dX6_plan_38 rfl (lv_at hl 0 rfl) ?_
      refine z_isub F dX6_plan_39 ?_
      refine z_norm (fun v_36 zv_36 ev_36 => ?_)
      exact g_iret F hr hlk hH hS hz zv_36 ⟨rfl, hv, ⟨_, _, _, hx⟩, x1, r7⟩ dX6_plan_40
  · refine z_iconst F dX6_plan_17 ?_
    exact g_iret F hr hlk hH hS hz ⟨by decide, by decide⟩ ⟨rfl, hv, ⟨_, _, _, hx⟩, x1, r7⟩ dX6_plan_18
