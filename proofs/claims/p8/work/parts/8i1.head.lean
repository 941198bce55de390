def rmX1_readHeadh : Room := { frames := 3, cells := 0, slots := 0, locals := 64 }
set_option maxHeartbeats 4000000 in
set_option maxRecDepth 100000 in
/-- the head of a line -/
theorem c_X1_readHeadh (l : Launch) (g : gG) (gh : gGh) (q : Nat) (b : tTx) (n : Nat) (tl : Int) (nr : Nat) (nt : Nat → Nat) (cl : Nat → Int) (h : Nat) (tb : Int) (I : gI) (R : gR) (J : gJ) (AI : gI) (AJ : gJ) (AR : gR) (a : Nat) (hv : gInv g gh R AR I AI) (h1 : gO g a 1) (hh : (I a 3).toInt < (I (gh 22 0) 4).toInt) (hRq : R a 1 = some q) (hq : gO g q 2) (hP : pH gh AR I J AI AJ a q b n tl nr nt cl h) (htb2 : (I q 2).toInt = tb) : gMet l g yX1_readHead wsX1_readHead rmX1_readHeadh [.ref a] (I, R, J, AI, AJ, AR) (gQi g (fun (z : Int) (w : gS) => AI = w.2.2.2.1 ∧ AJ = w.2.2.2.2.1 ∧ AR = w.2.2.2.2.2 ∧ (gInv g gh (w.2.1) AR (w.1) AI) ∧ (∀ b k, b ≠ a ∨ k ≠ 2 → (w.2.1) b k = R b k) ∧ (∀ b c, gO g b c → c ≠ 0 → c ≠ 1 → (w.1) b = I b) ∧ (((w.1) a 3).toInt < (I (gh 22 0) 4).toInt) ∧ (z = 0 → ∃ ln, pS g gh (w.2.1) (w.1) a q ln ∧ (I q 1).toInt ≤ 15 ∧ ((w.1) ln 0).toInt = (sHd b n nr nt tb h).2.2 ∧ ((w.1) ln 8).toInt = 0 ∧ (w.2.2.1) ln 1 = pN b n (h + 1) ∧ ((w.1) ln 3).toInt = -1 ∧ ((w.1) ln 4).toInt = -1) ∧ (0 ≤ z ∧ z ≤ 6) ∧ (z = (sHd b n nr nt tb h).1) ∧ (pH gh AR (w.1) (w.2.2.1) AI AJ a q b n tl nr nt cl (sHd b n nr nt tb h).2.1) ∧ (∀ y, gO g y 0 → gh 4 y ≠ q → (w.1) y = I y ∧ (w.2.2.1) y = J y) ∧ (∀ y, gO g y 0 → (gh 5 y : Int) ≠ (nr : Int) → (w.1) y = I y))) := by
  refine gStart (cc := cX1_readHead) (maxL := 3) (ret := (some (.int))) (by decide) rfl (Nat.le_of_ble_eq_true rfl) ?_
  intro p e s m below meth c ls F hr hlk hH hz hS hl
  have hl : lv_has ls 3 [(0, .ref a)] := hl
  have hS : va_S (gA g) s.heap s.heap [] := hS
  obtain ⟨H, hHe⟩ : ∃ H : Heap, H = s.heap := ⟨_, rfl⟩
  obtain ⟨locs, hlo⟩ : ∃ k : List Loc, k = [] := ⟨_, rfl⟩
  have hH : gH g I R J AI AJ AR H := by rw [hHe]; exact hH
  have hS : va_S (gA g) s.heap H locs := by rw [hHe, hlo]; exact hS
  suffices hw : W p l e rmX1_readHeadh s m ([.ref a] : List Value).toArray below meth c H locs 0 0 (MQ below (gQi g (fun (z : Int) (w : gS) => AI = w.2.2.2.1 ∧ AJ = w.2.2.2.2.1 ∧ AR = w.2.2.2.2.2 ∧ (gInv g gh (w.2.1) AR (w.1) AI) ∧ (∀ b k, b ≠ a ∨ k ≠ 2 → (w.2.1) b k = R b k) ∧ (∀ b c, gO g b c → c ≠ 0 → c ≠ 1 → (w.1) b = I b) ∧ (((w.1) a 3).toInt < (I (gh 22 0) 4).toInt) ∧ (z = 0 → ∃ ln, pS g gh (w.2.1) (w.1) a q ln ∧ (I q 1).toInt ≤ 15 ∧ ((w.1) ln 0).toInt = (sHd b n nr nt tb h).2.2 ∧ ((w.1) ln 8).toInt = 0 ∧ (w.2.2.1) ln 1 = pN b n (h + 1) ∧ ((w.1) ln 3).toInt = -1 ∧ ((w.1) ln 4).toInt = -1) ∧ (0 ≤ z ∧ z ≤ 6) ∧ (z = (sHd b n nr nt tb h).1) ∧ (pH gh AR (w.1) (w.2.2.1) AI AJ a q b n tl nr nt cl (sHd b n nr nt tb h).2.1) ∧ (∀ y, gO g y 0 → gh 4 y ≠ q → (w.1) y = I y ∧ (w.2.2.1) y = J y) ∧ (∀ y, gO g y 0 → (gh 5 y : Int) ≠ (nr : Int) → (w.1) y = I y))) ([.ref a] : List Value).toArray s 0 0 (gA g)) (F0 m 0 ls []) by
    rw [hHe, hlo] at hw; exact hw
  clear hHe hlo
  have fl : ∀ y, gO g y 0 → gh 4 y ≠ q → I y = I y ∧ J y = J y := fun _ _ _ => ⟨rfl, rfl⟩
  have hnl := pH_l hP
  have fl2 : ∀ y, gO g y 0 → (gh 5 y : Int) ≠ (nr : Int) → I y = I y := fun _ _ _ => rfl
  have iX2 : ∀ w ∈ u_ws RX2 TX2 3, w ∈ wsX1_readHead := (by decide +kernel)
  have iX1 : ∀ w ∈ u_ws RX1 TX1 4, w ∈ wsX1_readHead := (by decide +kernel)
  have k21 : Cond.fieldLink RX1 21 (TX1 1).1 (TX1 1).2.1 (TX1 1).2.2.1 ∈ wsX1_readHead := List.mem_of_getElem? (i := 1) rfl
  have k37 : Cond.fieldLink RX1 37 (TX2 1).1 (TX2 1).2.1 (TX2 1).2.2.1 ∈ wsX1_readHead := List.mem_of_getElem? (i := 2) rfl
  have k41 : Cond.fieldLink RX1 41 (TX2 2).1 (TX2 2).2.1 (TX2 2).2.2.1 ∈ wsX1_readHead := List.mem_of_getElem? (i := 3) rfl
  have k25 : Cond.fieldLink RX1 25 (TX2 0).1 (TX2 0).2.1 (TX2 0).2.2.1 ∈ wsX1_readHead := List.mem_of_getElem? (i := 4) rfl
  have k29 : Cond.fieldLink RX1 29 (TX1 2).1 (TX1 2).2.1 (TX1 2).2.2.1 ∈ wsX1_readHead := List.mem_of_getElem? (i := 5) rfl
  refine lv_aload_n F.1 F.2.1 dX1_readHead_0 rfl (lv_at hl 0 rfl) ?_
  refine z_iconst F dX1_readHead_1 ?_
  refine g_calli (g_runV (As := [.int (iI 0)]) (rest := []) (ci := 1) F hl.1 hH hS hz (c_X1_isWordg l g gh q b n tl nr nt cl h I R J AI AJ AR a 0 ⟨by decide, by decide⟩ hv h1 (by first | exact hp.2.2.2.2.2.2.2 | exact hh | omega) hP) (cwV 1 F.2.2.2.2.1 gX1_readHead_X1_isWord rfl rfl rfl hdX1_isWord ⟨Nat.le_of_ble_eq_true rfl, Nat.le_of_ble_eq_true rfl⟩) h1 (by decide) rfl rfl rfl (Nat.le_of_ble_eq_true rfl) dX1_readHead_2 ⟨Nat.zero_le _, Nat.zero_le _⟩) hS (fun v_7 I_1 R_2 J_3 AI_4 AJ_5 AR_6 H locs zv_7 hp_8 hH hS => ?_)
  dsimp only at hp_8
  obtain ⟨rfl, rfl, rfl, rfl, rfl, rfl, q_9, q_10⟩ := hp_8
  refine lv_istore_n (lv' := [(1, .int (iI v_7)), (0, .ref a)]) F.1 F.2.1 dX1_readHead_5 rfl hl (by decide) rfl (fun ls hl => ?_)
  refine lv_iload_n F.1 F.2.1 dX1_readHead_6 rfl (lv_at hl 0 rfl) ?_
  refine z_if_ne (tgt := 21) F dX1_readHead_7 (by decide) zv_7 (fun c_11 => ?_) (fun c_11 => ?_)
  · have t_12 := tIz_1 q_10 (by omega)
    refine lv_aload_n F.1 F.2.1 dX1_readHead_21 rfl (lv_at hl 1 rfl) ?_
    refine g_getR (ci := 1) (k := 1) F hH rfl (by decide) iX1 h1 (by decide) rfl (b := q) hRq k21 dX1_readHead_22 ?_
    refine g_getI (ci := 2) (k := 1) F hH rfl (by decide) iX2 hq (by decide) rfl k37 dX1_readHead_25 ?_
    have b_13 := gI_plan hv hq
    refine z_bipush F dX1_readHead_28 (by decide) ?_
    refine z_icmp_lt (tgt := 35) F dX1_readHead_30 (by decide) (zr_t _) ⟨by decide, by decide⟩ (fun c_14 => ?_) (fun c_14 => ?_)
    · refine lv_iload_n F.1 F.2.1 dX1_readHead_35 rfl (lv_at hl 0 rfl) ?_
      refine z_if_eq (tgt := 59) F dX1_readHead_36 (by decide) zv_7 (fun c_15 => ?_) (fun c_15 => ?_)
      · exact absurd trivial (by omega)
      · have t_16 := tIz_1 q_10 (by omega)
        refine lv_aload_n F.1 F.2.1 dX1_readHead_39 rfl (lv_at hl 1 rfl) ?_
        refine g_getR (ci := 1) (k := 1) F hH rfl (by decide) iX1 h1 (by decide) rfl (b := q) hRq k21 dX1_readHead_40 ?_
        refine g_getI (ci := 2) (k := 1) F hH rfl (by decide) iX2 hq (by decide) rfl k37 dX1_readHead_43 ?_
        refine lv_aload_n F.1 F.2.1 dX1_readHead_46 rfl (lv_at hl 1 rfl) ?_
        refine g_getR (ci := 1) (k := 1) F hH rfl (by decide) iX1 h1 (by decide) rfl (b := q) hRq k21 dX1_readHead_47 ?_
        refine g_getI (ci := 2) (k := 2) F hH rfl (by decide) iX2 hq (by decide) rfl k41 dX1_readHead_50 ?_
        refine z_icmp_le (tgt := 59) F dX1_readHead_53 (by decide) (zr_t _) (zr_t _) (fun c_17 => ?_) (fun c_17 => ?_)
        · refine lv_aload_n F.1 F.2.1 dX1_readHead_59 rfl (lv_at hl 1 rfl) ?_
          refine g_callv (g_runV (As := []) (rest := []) (ci := 1) F hl.1 hH hS hz (c_X1_stepg l g gh q b n tl nr nt cl h I R J AI AJ AR a hv h1 (by first | exact hp.2.2.2.2.2.2.2 | exact hh | omega) hP (by first | exact hp.2.2.1 | exact hq) (by omega)) (cwV 0 F.2.2.2.2.1 gX1_readHead_X1_step rfl rfl rfl hdX1_step ⟨Nat.le_of_ble_eq_true rfl, Nat.le_of_ble_eq_true rfl⟩) h1 (by decide) rfl rfl rfl (Nat.le_of_ble_eq_true rfl) dX1_readHead_60 ⟨Nat.zero_le _, Nat.zero_le _⟩) hS (fun I_18 R_19 J_20 AI_21 AJ_22 AR_23 H locs hp_24 hH hS => ?_)
          dsimp only at hp_24
          obtain ⟨rfl, rfl, rfl, rfl, rfl, hv, fs, hs, hP⟩ := hp_24
          have hP : pH gh AR I_18 J AI AJ a q b n tl nr nt cl (h + 1) := hP
          have fl : ∀ y, gO g y 0 → gh 4 y ≠ q → I_18 y = I y ∧ J y = J y := fun y hy h4 => ⟨(fs y (gO_ne hy h1 (by decide))).trans (fl y hy h4).1, (fl y hy h4).2⟩
          have fl2 : ∀ y, gO g y 0 → (gh 5 y : Int) ≠ (nr : Int) → I_18 y = I y := fun y hy h5 => (fs y (gO_ne hy h1 (by decide))).trans (fl2 y hy h5)
          have cf : ∀ b c, gO g b c → c ≠ 0 → c ≠ 1 → I_18 b = I b := fun b c hb h0 h1' => fs b (gO_ne hb h1 h1')
          have hq1 : (I_18 q 1).toInt = (I q 1).toInt := by rw [cf q 2 hq (by decide) (by decide)]
          have ht1 : I_18 (gh 22 0) = I (gh 22 0) := cf _ 5 (gR_pr0 hv h1).2 (by decide) (by decide)
          refine lv_aload_n F.1 F.2.1 dX1_readHead_63 rfl (lv_at hl 1 rfl) ?_
          refine lv_aload_n F.1 F.2.1 dX1_readHead_64 rfl (lv_at hl 1 rfl) ?_
          refine g_getR (ci := 1) (k := 1) F hH rfl (by decide) iX1 h1 (by decide) rfl (b := q) hRq k21 dX1_readHead_65 ?_
          obtain ⟨r_25a, r_25b⟩ := gR_lines hv hq
          refine g_getR (ci := 2) (k := 0) F hH rfl (by decide) iX2 hq (by decide) rfl (b := gh 6 q) r_25a k25 dX1_readHead_68 ?_
          refine lv_aload_n F.1 F.2.1 dX1_readHead_71 rfl (lv_at hl 1 rfl) ?_
          refine g_getR (ci := 1) (k := 1) F hH rfl (by decide) iX1 h1 (by decide) rfl (b := q) hRq k21 dX1_readHead_72 ?_
          refine g_getI (ci := 2) (k := 1) F hH rfl (by decide) iX2 hq (by decide) rfl k37 dX1_readHead_75 ?_
          have b_26 := gI_plan hv hq
          have hx78 : 0 ≤ ((I_18 q 1).toInt) ∧ ((I_18 q 1).toInt) < ((16 : Nat) : Int) ∧ ((I_18 q 1).toInt) ≤ 2147483647 := ⟨by omega, by omega, by omega⟩
          obtain ⟨y_27, y_27a, y_27b, y_27c, y_27d⟩ := gA_lines hv hq (z := (I_18 q 1).toInt) (by omega) (by omega)
          refine g_aldL F hH r_25b hx78.1 hx78.2.1 hx78.2.2 (b := y_27) y_27a dX1_readHead_78 ?_
          refine g_putR (ci := 1) (k := 2) F hH hS rfl (by decide) iX1 h1 (by decide) tyX1 tyX1_ok nmX1 rfl (ty := tyX1 2) rfl rfl rfl rfl k29 dX1_readHead_79 (fun H locs hH hS => ?_)
          obtain ⟨R_28, eR_28⟩ : ∃ qQ, qQ = gup2 R a 2 (some (y_27)) := ⟨_, rfl⟩
          rw [← eR_28] at hH
          have kR_28 : ∀ b, b ≠ a → R_28 b = R b := fun b hb => by rw [eR_28]; exact funext fun j => gup2_a _ _ hb
          have hv : gInv g gh R_28 AR I_18 AI := by rw [eR_28]; exact gInv_Rline hv h1 y_27b
          have hRq : R_28 a 1 = some q := by rw [eR_28, gup2_k _ _ (by decide)]; exact hRq
          have hRl : R_28 a 2 = some y_27 := by rw [eR_28, gup2_s]
          have rf : ∀ b k, b ≠ a ∨ k ≠ 2 → R_28 b k = R b k := fun b k h => by rw [eR_28]; rcases h with h | h; exact gup2_a _ _ h; exact gup2_k _ _ h
          refine lv_aload_n F.1 F.2.1 dX1_readHead_82 rfl (lv_at hl 1 rfl) ?_
          refine g_getR (ci := 1) (k := 2) F hH rfl (by decide) iX1 h1 (by decide) rfl (b := y_27) hRl k29 dX1_readHead_83 ?_
          refine z_iconst F dX1_readHead_86 ?_
          have b_29 := gI_line hv y_27b
          unfold vLineI at b_29
          refine g_callv (g_runV (As := [.int (iI 0)]) (rest := []) (ci := 0) F hl.1 hH hS hz (c_X0_clearg l g gh I_18 R_28 J AI AJ AR y_27 0 ⟨by decide, by decide⟩ hv y_27b rfl) (cwV 1 F.2.2.2.2.1 gX1_readHead_X0_clear rfl rfl rfl hdX0_clear ⟨Nat.le_of_ble_eq_true rfl, Nat.le_of_ble_eq_true rfl⟩) y_27b (by decide) rfl rfl rfl (Nat.le_of_ble_eq_true rfl) dX1_readHead_87 ⟨Nat.zero_le _, Nat.zero_le _⟩) hS (fun I_30 R_31 J_32 AI_33 AJ_34 AR_35 H locs hp_36 hH hS => ?_)
          dsimp only at hp_36
          obtain ⟨rfl, rfl, rfl, rfl, rfl, hv, fc, kc, kd34⟩ := hp_36
          have fl : ∀ y, gO g y 0 → gh 4 y ≠ q → I_30 y = I y ∧ J y = J y := fun y hy h4 => ⟨(fc y (fun e => h4 (by rw [e]; exact y_27c))).trans (fl y hy h4).1, (fl y hy h4).2⟩
          have fl2 : ∀ y, gO g y 0 → (gh 5 y : Int) ≠ (nr : Int) → I_30 y = I y := fun y hy h5 => (fc y (fun e => h5 (by rw [e]; have q7 := y_27d; have q8 := pH_l hP; omega))).trans (fl2 y hy h5)
          have hP := pH_g hv h1 hq y_27b y_27c y_27d hP fc
          have cf : ∀ b c, gO g b c → c ≠ 0 → c ≠ 1 → I_30 b = I b := fun b c hb h0 h1' => (fc b (gO_ne hb y_27b h0)).trans (cf b c hb h0 h1')
          have hp : pS g gh R_28 I_30 a q y_27 := ⟨h1, hRq, hq, hRl, y_27b, y_27c, by rw [cf q 2 hq (by decide) (by decide)]; omega, by rw [fc a (gO_ne h1 y_27b (by decide)), cf _ 5 (gR_pr0 hv h1).2 (by decide) (by decide)]; exact hs⟩
          refine lv_aload_n F.1 F.2.1 dX1_readHead_90 rfl (lv_at hl 1 rfl) ?_
          have hpo := hp
          have hPo := hP
          refine g_calli (g_runV (As := []) (rest := []) (ci := 1) F hl.1 hH hS hz (c_X1_readNewNameg l g gh q y_27 b n tl nr nt cl (h + 1) I_30 R_28 J AI AJ AR a hv hp hP) (cwV 0 F.2.2.2.2.1 gX1_readHead_X1_readNewName rfl rfl rfl hdX1_readNewName ⟨Nat.le_of_ble_eq_true rfl, Nat.le_of_ble_eq_true rfl⟩) h1 (by decide) rfl rfl rfl (Nat.le_of_ble_eq_true rfl) dX1_readHead_91 ⟨Nat.zero_le _, Nat.zero_le _⟩) hS (fun v_43 I_37 R_38 J_39 AI_40 AJ_41 AR_42 H locs zv_43 hp_44 hH hS => ?_)
          dsimp only at hp_44
          obtain ⟨r_45, er_45⟩ : ∃ qQ : pR, qQ = sNam b n nr nt (h + 1) := ⟨_, rfl⟩
          rw [← er_45] at hp_44
          obtain ⟨rfl, rfl, rfl, rfl, hv, hp, pfq, flq, q_46, q_47, hP, hx0, hjm, hjy⟩ := hp_44
          have fl : ∀ y, gO g y 0 → gh 4 y ≠ q → I_37 y = I y ∧ J_39 y = J y := fun y hy h4 => ⟨(pfq.1 y (gO_ne hy h1 (by decide)) (fun e => h4 (by rw [e]; exact hp.2.2.2.2.2.1))).trans (fl y hy h4).1, (hjy y (fun e => h4 (by rw [e]; exact hp.2.2.2.2.2.1))).trans (fl y hy h4).2⟩
          have fl2 : ∀ y, gO g y 0 → (gh 5 y : Int) ≠ (nr : Int) → I_37 y = I y := fun y hy h5 => (pfq.1 y (gO_ne hy h1 (by decide)) (fun e => h5 (by rw [e]; have q7 := hpo.2.2.2.2.2.2.1; have q8 := pH_l hPo; omega))).trans (fl2 y hy h5)
          have n8 : (I_37 y_27 8).toInt = 0 := by rw [flq]; exact kc.2
          have cf : ∀ b c, gO g b c → c ≠ 0 → c ≠ 1 → I_37 b = I b := fun b c hb h0 h1' => (pfq.1 b (gO_ne hb h1 h1') (gO_ne hb y_27b h0)).trans (cf b c hb h0 h1')
          have hs : (I_37 a 3).toInt < (I (gh 22 0) 4).toInt := by have := hp.2.2.2.2.2.2.2; rw [cf _ 5 (gR_pr0 hv h1).2 (by decide) (by decide)] at this; exact this
          have n0 : (I_37 y_27 0).toInt = 0 := by rw [flq]; exact kc.1
          have n3 : (I_37 y_27 3).toInt = -1 ∧ (I_37 y_27 4).toInt = -1 := by rw [flq]; exact kd34
          refine lv_istore_n (lv' := [(2, .int (iI v_43)), (1, .int (iI v_7)), (0, .ref a)]) F.1 F.2.1 dX1_readHead_94 rfl hl (by decide) rfl (fun ls hl => ?_)
          refine lv_iload_n F.1 F.2.1 dX1_readHead_95 rfl (lv_at hl 0 rfl) ?_
          refine z_if_ne (tgt := 108) F dX1_readHead_96 (by decide) zv_43 (fun c_48 => ?_) (fun c_48 => ?_)
          · refine lv_iload_n F.1 F.2.1 dX1_readHead_108 rfl (lv_at hl 0 rfl) ?_
            have hfin : sHd b n nr nt tb h = r_45 := by
              unfold sHd
              repeat (first | with_reducible rfl | refine ite_y (by omega) ?_ | refine ite_n (by omega) ?_ | exact er_45.symm | exact thn_x er_45 (by omega) | exact pr_e (by omega) (by omega) (by omega))
            exact g_iret F hr hlk hH hS hz zv_43 ⟨rfl, rfl, rfl, hv, rf, cf, hs, by (try dsimp only); first | exact (fun h => absurd h (by omega)) | exact (fun h0 => ⟨_, hp, by omega, by rw [hfin]; have q9 := hx0 h0; omega, n8, hjm (by omega), n3.1, n3.2⟩), by first | omega | rfl | (dsimp only; omega), by (try dsimp only); rw [hfin]; first | done | omega | rfl, by (try dsimp only); rw [hfin]; exact hP, fl, fl2⟩ dX1_readHead_109
          · have t_49 := hx0 (by omega)
            refine lv_iload_n F.1 F.2.1 dX1_readHead_99 rfl (lv_at hl 1 rfl) ?_
            refine z_if_ne (tgt := 108) F dX1_readHead_100 (by decide) zv_7 (fun c_50 => ?_) (fun c_50 => ?_)
            · have t_51 := tIz_1 q_10 (by omega)
              refine lv_iload_n F.1 F.2.1 dX1_readHead_108 rfl (lv_at hl 0 rfl) ?_
              have hfin : sHd b n nr nt tb h = r_45 := by
                unfold sHd
                repeat (first | with_reducible rfl | refine ite_y (by omega) ?_ | refine ite_n (by omega) ?_ | exact er_45.symm | exact thn_x er_45 (by omega) | exact pr_e (by omega) (by omega) (by omega))
              exact g_iret F hr hlk hH hS hz zv_43 ⟨rfl, rfl, rfl, hv, rf, cf, hs, by (try dsimp only); first | exact (fun h => absurd h (by omega)) | exact (fun h0 => ⟨_, hp, by omega, by rw [hfin]; have q9 := hx0 h0; omega, n8, hjm (by omega), n3.1, n3.2⟩), by first | omega | rfl | (dsimp only; omega), by (try dsimp only); rw [hfin]; first | done | omega | rfl, by (try dsimp only); rw [hfin]; exact hP, fl, fl2⟩ dX1_readHead_109
            · exact absurd trivial (by omega)
        · refine z_bipush F dX1_readHead_56 (by decide) ?_
          have hfin : sHd b n nr nt tb h = (6, h, 0) := by
            unfold sHd
            repeat (first | with_reducible rfl | refine ite_y (by omega) ?_ | refine ite_n (by omega) ?_ | exact pr_e (by omega) (by omega) (by omega))
          exact g_iret F hr hlk hH hS hz ⟨by decide, by decide⟩ ⟨rfl, rfl, rfl, hv, fun _ _ _ => rfl, fun _ _ _ _ _ => rfl, hh, fun h => absurd h (by omega), by first | omega | rfl | (dsimp only; omega), by (try dsimp only); rw [hfin]; first | done | omega | rfl, by (try dsimp only); rw [hfin]; exact hP, fl, fl2⟩ dX1_readHead_58
    · refine z_iconst F dX1_readHead_33 ?_
      have hfin : sHd b n nr nt tb h = (4, h, 0) := by
        unfold sHd
        repeat (first | with_reducible rfl | refine ite_y (by omega) ?_ | refine ite_n (by omega) ?_ | exact pr_e (by omega) (by omega) (by omega))
      exact g_iret F hr hlk hH hS hz ⟨by decide, by decide⟩ ⟨rfl, rfl, rfl, hv, fun _ _ _ => rfl, fun _ _ _ _ _ => rfl, hh, fun h => absurd h (by omega), by first | omega | rfl | (dsimp only; omega), by (try dsimp only); rw [hfin]; first | done | omega | rfl, by (try dsimp only); rw [hfin]; exact hP, fl, fl2⟩ dX1_readHead_34
  · have t_52 := tIz_0 q_10 (by omega)
    refine lv_aload_n F.1 F.2.1 dX1_readHead_10 rfl (lv_at hl 1 rfl) ?_
    refine z_bipush F dX1_readHead_11 (by decide) ?_
    refine g_calli (g_runV (As := [.int (iI 9)]) (rest := []) (ci := 1) F hl.1 hH hS hz (c_X1_isWordg l g gh q b n tl nr nt cl h I R J AI AJ AR a 9 ⟨by decide, by decide⟩ hv h1 (by first | exact hp.2.2.2.2.2.2.2 | exact hh | omega) hP) (cwV 1 F.2.2.2.2.1 gX1_readHead_X1_isWord rfl rfl rfl hdX1_isWord ⟨Nat.le_of_ble_eq_true rfl, Nat.le_of_ble_eq_true rfl⟩) h1 (by decide) rfl rfl rfl (Nat.le_of_ble_eq_true rfl) dX1_readHead_13 ⟨Nat.zero_le _, Nat.zero_le _⟩) hS (fun v_59 I_53 R_54 J_55 AI_56 AJ_57 AR_58 H locs zv_59 hp_60 hH hS => ?_)
    dsimp only at hp_60
    obtain ⟨rfl, rfl, rfl, rfl, rfl, rfl, q_61, q_62⟩ := hp_60
    refine z_if_ne (tgt := 21) F dX1_readHead_16 (by decide) zv_59 (fun c_63 => ?_) (fun c_63 => ?_)
    · have t_64 := tIz_1 q_62 (by omega)
      refine lv_aload_n F.1 F.2.1 dX1_readHead_21 rfl (lv_at hl 1 rfl) ?_
      refine g_getR (ci := 1) (k := 1) F hH rfl (by decide) iX1 h1 (by decide) rfl (b := q) hRq k21 dX1_readHead_22 ?_
      refine g_getI (ci := 2) (k := 1) F hH rfl (by decide) iX2 hq (by decide) rfl k37 dX1_readHead_25 ?_
      have b_65 := gI_plan hv hq
      refine z_bipush F dX1_readHead_28 (by decide) ?_
      refine z_icmp_lt (tgt := 35) F dX1_readHead_30 (by decide) (zr_t _) ⟨by decide, by decide⟩ (fun c_66 => ?_) (fun c_66 => ?_)
      · refine lv_iload_n F.1 F.2.1 dX1_readHead_35 rfl (lv_at hl 0 rfl) ?_
        refine z_if_eq (tgt := 59) F dX1_readHead_36 (by decide) zv_7 (fun c_67 => ?_) (fun c_67 => ?_)
        · have t_68 := tIz_0 q_10 (by omega)
          refine lv_aload_n F.1 F.2.1 dX1_readHead_59 rfl (lv_at hl 1 rfl) ?_
          refine g_callv (g_runV (As := []) (rest := []) (ci := 1) F hl.1 hH hS hz (c_X1_stepg l g gh q b n tl nr nt cl h I R J AI AJ AR a hv h1 (by first | exact hp.2.2.2.2.2.2.2 | exact hh | omega) hP (by first | exact hp.2.2.1 | exact hq) (by omega)) (cwV 0 F.2.2.2.2.1 gX1_readHead_X1_step rfl rfl rfl hdX1_step ⟨Nat.le_of_ble_eq_true rfl, Nat.le_of_ble_eq_true rfl⟩) h1 (by decide) rfl rfl rfl (Nat.le_of_ble_eq_true rfl) dX1_readHead_60 ⟨Nat.zero_le _, Nat.zero_le _⟩) hS (fun I_69 R_70 J_71 AI_72 AJ_73 AR_74 H locs hp_75 hH hS => ?_)
          dsimp only at hp_75
          obtain ⟨rfl, rfl, rfl, rfl, rfl, hv, fs, hs, hP⟩ := hp_75
          have hP : pH gh AR I_69 J AI AJ a q b n tl nr nt cl (h + 1) := hP
          have fl : ∀ y, gO g y 0 → gh 4 y ≠ q → I_69 y = I y ∧ J y = J y := fun y hy h4 => ⟨(fs y (gO_ne hy h1 (by decide))).trans (fl y hy h4).1, (fl y hy h4).2⟩
          have fl2 : ∀ y, gO g y 0 → (gh 5 y : Int) ≠ (nr : Int) → I_69 y = I y := fun y hy h5 => (fs y (gO_ne hy h1 (by decide))).trans (fl2 y hy h5)
          have cf : ∀ b c, gO g b c → c ≠ 0 → c ≠ 1 → I_69 b = I b := fun b c hb h0 h1' => fs b (gO_ne hb h1 h1')
          have hq1 : (I_69 q 1).toInt = (I q 1).toInt := by rw [cf q 2 hq (by decide) (by decide)]
          have ht1 : I_69 (gh 22 0) = I (gh 22 0) := cf _ 5 (gR_pr0 hv h1).2 (by decide) (by decide)
          refine lv_aload_n F.1 F.2.1 dX1_readHead_63 rfl (lv_at hl 1 rfl) ?_
          refine lv_aload_n F.1 F.2.1 dX1_readHead_64 rfl (lv_at hl 1 rfl) ?_
          refine g_getR (ci := 1) (k := 1) F hH rfl (by decide) iX1 h1 (by decide) rfl (b := q) hRq k21 dX1_readHead_65 ?_
          obtain ⟨r_76a, r_76b⟩ := gR_lines hv hq
          refine g_getR (ci := 2) (k := 0) F hH rfl (by decide) iX2 hq (by decide) rfl (b := gh 6 q) r_76a k25 dX1_readHead_68 ?_
          refine lv_aload_n F.1 F.2.1 dX1_readHead_71 rfl (lv_at hl 1 rfl) ?_
          refine g_getR (ci := 1) (k := 1) F hH rfl (by decide) iX1 h1 (by decide) rfl (b := q) hRq k21 dX1_readHead_72 ?_
          refine g_getI (ci := 2) (k := 1) F hH rfl (by decide) iX2 hq (by decide) rfl k37 dX1_readHead_75 ?_
          have b_77 := gI_plan hv hq
          have hx78 : 0 ≤ ((I_69 q 1).toInt) ∧ ((I_69 q 1).toInt) < ((16 : Nat) : Int) ∧ ((I_69 q 1).toInt) ≤ 2147483647 := ⟨by omega, by omega, by omega⟩
          obtain ⟨y_78, y_78a, y_78b, y_78c, y_78d⟩ := gA_lines hv hq (z := (I_69 q 1).toInt) (by omega) (by omega)
          refine g_aldL F hH r_76b hx78.1 hx78.2.1 hx78.2.2 (b := y_78) y_78a dX1_readHead_78 ?_
          refine g_putR (ci := 1) (k := 2) F hH hS rfl (by decide) iX1 h1 (by decide) tyX1 tyX1_ok nmX1 rfl (ty := tyX1 2) rfl rfl rfl rfl k29 dX1_readHead_79 (fun H locs hH hS => ?_)
          obtain ⟨R_79, eR_79⟩ : ∃ qQ, qQ = gup2 R a 2 (some (y_78)) := ⟨_, rfl⟩
          rw [← eR_79] at hH
          have kR_79 : ∀ b, b ≠ a → R_79 b = R b := fun b hb => by rw [eR_79]; exact funext fun j => gup2_a _ _ hb
          have hv : gInv g gh R_79 AR I_69 AI := by rw [eR_79]; exact gInv_Rline hv h1 y_78b
          have hRq : R_79 a 1 = some q := by rw [eR_79, gup2_k _ _ (by decide)]; exact hRq
          have hRl : R_79 a 2 = some y_78 := by rw [eR_79, gup2_s]
          have rf : ∀ b k, b ≠ a ∨ k ≠ 2 → R_79 b k = R b k := fun b k h => by rw [eR_79]; rcases h with h | h; exact gup2_a _ _ h; exact gup2_k _ _ h
          refine lv_aload_n F.1 F.2.1 dX1_readHead_82 rfl (lv_at hl 1 rfl) ?_
          refine g_getR (ci := 1) (k := 2) F hH rfl (by decide) iX1 h1 (by decide) rfl (b := y_78) hRl k29 dX1_readHead_83 ?_
          refine z_iconst F dX1_readHead_86 ?_
          have b_80 := gI_line hv y_78b
          unfold vLineI at b_80
          refine g_callv (g_runV (As := [.int (iI 0)]) (rest := []) (ci := 0) F hl.1 hH hS hz (c_X0_clearg l g gh I_69 R_79 J AI AJ AR y_78 0 ⟨by decide, by decide⟩ hv y_78b rfl) (cwV 1 F.2.2.2.2.1 gX1_readHead_X0_clear rfl rfl rfl hdX0_clear ⟨Nat.le_of_ble_eq_true rfl, Nat.le_of_ble_eq_true rfl⟩) y_78b (by decide) rfl rfl rfl (Nat.le_of_ble_eq_true rfl) dX1_readHead_87 ⟨Nat.zero_le _, Nat.zero_le _⟩) hS (fun I_81 R_82 J_83 AI_84 AJ_85 AR_86 H locs hp_87 hH hS => ?_)
          dsimp only at hp_87
          obtain ⟨rfl, rfl, rfl, rfl, rfl, hv, fc, kc, kd34⟩ := hp_87
          have fl : ∀ y, gO g y 0 → gh 4 y ≠ q → I_81 y = I y ∧ J y = J y := fun y hy h4 => ⟨(fc y (fun e => h4 (by rw [e]; exact y_78c))).trans (fl y hy h4).1, (fl y hy h4).2⟩
          have fl2 : ∀ y, gO g y 0 → (gh 5 y : Int) ≠ (nr : Int) → I_81 y = I y := fun y hy h5 => (fc y (fun e => h5 (by rw [e]; have q7 := y_78d; have q8 := pH_l hP; omega))).trans (fl2 y hy h5)
          have hP := pH_g hv h1 hq y_78b y_78c y_78d hP fc
          have cf : ∀ b c, gO g b c → c ≠ 0 → c ≠ 1 → I_81 b = I b := fun b c hb h0 h1' => (fc b (gO_ne hb y_78b h0)).trans (cf b c hb h0 h1')
          have hp : pS g gh R_79 I_81 a q y_78 := ⟨h1, hRq, hq, hRl, y_78b, y_78c, by rw [cf q 2 hq (by decide) (by decide)]; omega, by rw [fc a (gO_ne h1 y_78b (by decide)), cf _ 5 (gR_pr0 hv h1).2 (by decide) (by decide)]; exact hs⟩
          refine lv_aload_n F.1 F.2.1 dX1_readHead_90 rfl (lv_at hl 1 rfl) ?_
          have hpo := hp
          have hPo := hP
          refine g_calli (g_runV (As := []) (rest := []) (ci := 1) F hl.1 hH hS hz (c_X1_readNewNameg l g gh q y_78 b n tl nr nt cl (h + 1) I_81 R_79 J AI AJ AR a hv hp hP) (cwV 0 F.2.2.2.2.1 gX1_readHead_X1_readNewName rfl rfl rfl hdX1_readNewName ⟨Nat.le_of_ble_eq_true rfl, Nat.le_of_ble_eq_true rfl⟩) h1 (by decide) rfl rfl rfl (Nat.le_of_ble_eq_true rfl) dX1_readHead_91 ⟨Nat.zero_le _, Nat.zero_le _⟩) hS (fun v_94 I_88 R_89 J_90 AI_91 AJ_92 AR_93 H locs zv_94 hp_95 hH hS => ?_)
          dsimp only at hp_95
          obtain ⟨r_96, er_96⟩ : ∃ qQ : pR, qQ = sNam b n nr nt (h + 1) := ⟨_, rfl⟩
          rw [← er_96] at hp_95
          obtain ⟨rfl, rfl, rfl, rfl, hv, hp, pfq, flq, q_97, q_98, hP, hx0, hjm, hjy⟩ := hp_95
          have fl : ∀ y, gO g y 0 → gh 4 y ≠ q → I_88 y = I y ∧ J_90 y = J y := fun y hy h4 => ⟨(pfq.1 y (gO_ne hy h1 (by decide)) (fun e => h4 (by rw [e]; exact hp.2.2.2.2.2.1))).trans (fl y hy h4).1, (hjy y (fun e => h4 (by rw [e]; exact hp.2.2.2.2.2.1))).trans (fl y hy h4).2⟩
          have fl2 : ∀ y, gO g y 0 → (gh 5 y : Int) ≠ (nr : Int) → I_88 y = I y := fun y hy h5 => (pfq.1 y (gO_ne hy h1 (by decide)) (fun e => h5 (by rw [e]; have q7 := hpo.2.2.2.2.2.2.1; have q8 := pH_l hPo; omega))).trans (fl2 y hy h5)
          have n8 : (I_88 y_78 8).toInt = 0 := by rw [flq]; exact kc.2
          have cf : ∀ b c, gO g b c → c ≠ 0 → c ≠ 1 → I_88 b = I b := fun b c hb h0 h1' => (pfq.1 b (gO_ne hb h1 h1') (gO_ne hb y_78b h0)).trans (cf b c hb h0 h1')
          have hs : (I_88 a 3).toInt < (I (gh 22 0) 4).toInt := by have := hp.2.2.2.2.2.2.2; rw [cf _ 5 (gR_pr0 hv h1).2 (by decide) (by decide)] at this; exact this
          have n0 : (I_88 y_78 0).toInt = 0 := by rw [flq]; exact kc.1
          have n3 : (I_88 y_78 3).toInt = -1 ∧ (I_88 y_78 4).toInt = -1 := by rw [flq]; exact kd34
          refine lv_istore_n (lv' := [(2, .int (iI v_94)), (1, .int (iI v_7)), (0, .ref a)]) F.1 F.2.1 dX1_readHead_94 rfl hl (by decide) rfl (fun ls hl => ?_)
          refine lv_iload_n F.1 F.2.1 dX1_readHead_95 rfl (lv_at hl 0 rfl) ?_
          refine z_if_ne (tgt := 108) F dX1_readHead_96 (by decide) zv_94 (fun c_99 => ?_) (fun c_99 => ?_)
          · refine lv_iload_n F.1 F.2.1 dX1_readHead_108 rfl (lv_at hl 0 rfl) ?_
            have hfin : sHd b n nr nt tb h = r_96 := by
              unfold sHd
              repeat (first | with_reducible rfl | refine ite_y (by omega) ?_ | refine ite_n (by omega) ?_ | exact er_96.symm | exact thn_x er_96 (by omega) | exact pr_e (by omega) (by omega) (by omega))
            exact g_iret F hr hlk hH hS hz zv_94 ⟨rfl, rfl, rfl, hv, rf, cf, hs, by (try dsimp only); first | exact (fun h => absurd h (by omega)) | exact (fun h0 => ⟨_, hp, by omega, by rw [hfin]; have q9 := hx0 h0; omega, n8, hjm (by omega), n3.1, n3.2⟩), by first | omega | rfl | (dsimp only; omega), by (try dsimp only); rw [hfin]; first | done | omega | rfl, by (try dsimp only); rw [hfin]; exact hP, fl, fl2⟩ dX1_readHead_109
          · have t_100 := hx0 (by omega)
            refine lv_iload_n F.1 F.2.1 dX1_readHead_99 rfl (lv_at hl 1 rfl) ?_
            refine z_if_ne (tgt := 108) F dX1_readHead_100 (by decide) zv_7 (fun c_101 => ?_) (fun c_101 => ?_)
            · exact absurd trivial (by omega)
            · have t_102 := tIz_0 q_10 (by omega)
              refine lv_aload_n F.1 F.2.1 dX1_readHead_103 rfl (lv_at hl 2 rfl) ?_
              have hpo := hp
              have hPo := hP
              refine g_calli (g_runV (As := []) (rest := []) (ci := 1) F hl.1 hH hS hz (c_X1_readViewKindg l g gh q y_78 b n tl nr nt cl r_96.2.1 I_88 R_79 J_90 AI AJ AR a hv hp n8 hP) (cwV 0 F.2.2.2.2.1 gX1_readHead_X1_readViewKind rfl rfl rfl hdX1_readViewKind ⟨Nat.le_of_ble_eq_true rfl, Nat.le_of_ble_eq_true rfl⟩) h1 (by decide) rfl rfl rfl (Nat.le_of_ble_eq_true rfl) dX1_readHead_104 ⟨Nat.zero_le _, Nat.zero_le _⟩) hS (fun v_109 I_103 R_104 J_105 AI_106 AJ_107 AR_108 H locs zv_109 hp_110 hH hS => ?_)
              dsimp only at hp_110
              obtain ⟨r_111, er_111⟩ : ∃ qQ : pR, qQ = sVk b n r_96.2.1 := ⟨_, rfl⟩
              rw [← er_111] at hp_110
              obtain ⟨rfl, rfl, rfl, rfl, rfl, hv, hp, pgq, q_112, n8v, q_113, hP, hkv, kv34⟩ := hp_110
              have fl : ∀ y, gO g y 0 → gh 4 y ≠ q → I_103 y = I y ∧ J_90 y = J y := fun y hy h4 => ⟨(pgq y (gO_ne hy h1 (by decide)) (fun e => h4 (by rw [e]; exact hp.2.2.2.2.2.1))).trans (fl y hy h4).1, (fl y hy h4).2⟩
              have fl2 : ∀ y, gO g y 0 → (gh 5 y : Int) ≠ (nr : Int) → I_103 y = I y := fun y hy h5 => (pgq y (gO_ne hy h1 (by decide)) (fun e => h5 (by rw [e]; have q7 := hpo.2.2.2.2.2.2.1; have q8 := pH_l hPo; omega))).trans (fl2 y hy h5)
              have cf : ∀ b c, gO g b c → c ≠ 0 → c ≠ 1 → I_103 b = I b := fun b c hb h0 h1' => (pgq b (gO_ne hb h1 h1') (gO_ne hb y_78b h0)).trans (cf b c hb h0 h1')
              have hs : (I_103 a 3).toInt < (I (gh 22 0) 4).toInt := by have := hp.2.2.2.2.2.2.2; rw [cf _ 5 (gR_pr0 hv h1).2 (by decide) (by decide)] at this; exact this
              have n3 : (I_103 y_78 3).toInt = -1 ∧ (I_103 y_78 4).toInt = -1 := ⟨kv34.1.trans n3.1, kv34.2.trans n3.2⟩
              refine lv_istore_n (lv' := [(2, .int (iI v_109)), (1, .int (iI v_7)), (0, .ref a)]) F.1 F.2.1 dX1_readHead_107 rfl hl (by decide) rfl (fun ls hl => ?_)
              refine lv_iload_n F.1 F.2.1 dX1_readHead_108 rfl (lv_at hl 0 rfl) ?_
              have hfin : sHd b n nr nt tb h = r_111 := by
                unfold sHd
                repeat (first | with_reducible rfl | refine ite_y (by omega) ?_ | refine ite_n (by omega) ?_ | exact er_111.symm | exact thn_x er_111 (by omega) | refine thn_y er_96 (by omega) ?_ | exact pr_e (by omega) (by omega) (by omega))
              exact g_iret F hr hlk hH hS hz zv_109 ⟨rfl, rfl, rfl, hv, rf, cf, hs, by (try dsimp only); first | exact (fun h => absurd h (by omega)) | exact (fun h0 => ⟨_, hp, by omega, by rw [hfin]; exact hkv h0, n8v, hjm (by omega), n3.1, n3.2⟩), by first | omega | rfl | (dsimp only; omega), by (try dsimp only); rw [hfin]; first | done | omega | rfl, by (try dsimp only); rw [hfin]; exact hP, fl, fl2⟩ dX1_readHead_109
        · exact absurd trivial (by omega)
      · refine z_iconst F dX1_readHead_33 ?_
        have hfin : sHd b n nr nt tb h = (4, h, 0) := by
          unfold sHd
          repeat (first | with_reducible rfl | refine ite_y (by omega) ?_ | refine ite_n (by omega) ?_ | exact pr_e (by omega) (by omega) (by omega))
        exact g_iret F hr hlk hH hS hz ⟨by decide, by decide⟩ ⟨rfl, rfl, rfl, hv, fun _ _ _ => rfl, fun _ _ _ _ _ => rfl, hh, fun h => absurd h (by omega), by first | omega | rfl | (dsimp only; omega), by (try dsimp only); rw [hfin]; first | done | omega | rfl, by (try dsimp only); rw [hfin]; exact hP, fl, fl2⟩ dX1_readHead_34
    · have t_114 := tIz_0 q_62 (by omega)
      refine z_iconst F dX1_readHead_19 ?_
      have hfin : sHd b n nr nt tb h = (1, h, 0) := by
        unfold sHd
        repeat (first | with_reducible rfl | refine ite_y (by omega) ?_ | refine ite_n (by omega) ?_ | exact pr_e (by omega) (by omega) (by omega))
      exact g_iret F hr hlk hH hS hz ⟨by decide, by decide⟩ ⟨rfl, rfl, rfl, hv, fun _ _ _ => rfl, fun _ _ _ _ _ => rfl, hh, fun h => absurd h (by omega), by first | omega | rfl | (dsimp only; omega), by (try dsimp only); rw [hfin]; first | done | omega | rfl, by (try dsimp only); rw [hfin]; exact hP, fl, fl2⟩ dX1_readHead_20
