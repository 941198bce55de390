def rmX7_gathersf : Room := { frames := 2, cells := 0, slots := 0, locals := 47 }
set_option maxHeartbeats 4000000 in
set_option maxRecDepth 100000 in
/-- a tuple comes -/
theorem c_X7_gathersf (l : Launch) (g : gG) (gh : gGh) (T : Nat → Int32) (n : Nat) (P : Tup → Prop) (S M : Tup → Int32) (t : Tup) (I : gI) (R : gR) (J : gJ) (AI : gI) (AJ : gJ) (AR : gR) (mo : Nat) (cn : Int) (rd : Int) (zcn : zr cn) (zrd : zr rd) (hv : mInv g gh R I AI) (hm : gO g mo 7) (hT : AI (gh 50 0) = T) (h0 : (I mo 26).toInt ≤ 1599) (hw : isW (AI (gh 75 0)) n P S M) (hn : (I mo 26).toInt = (n : Int)) (ht : ∀ j, j < 4 → (AI (gh 77 0)) j = tg t j) : gMet l g yX7_gathers tsX7_gathers rmX7_gathersf [.ref mo, .int (iI cn), .int (iI rd)] (I, R, J, AI, AJ, AR) (gQi g (fun (z : Int) (w : gS) => R = w.2.1 ∧ J = w.2.2.1 ∧ AJ = w.2.2.2.2.1 ∧ AR = w.2.2.2.2.2 ∧ (mInv g gh R (w.1) (w.2.2.2.1)) ∧ ((w.2.2.2.1) (gh 50 0) = T) ∧ (wF mo I (w.1)) ∧ ((z = 0 ∧ ((w.1) mo 26).toInt = (I mo 26).toInt) ∨ (z = 1 ∧ ((w.1) mo 26).toInt = (I mo 26).toInt + 1)) ∧ ((z = 0 ∧ P t ∧ ((w.1) mo 26).toInt = (n : Int) ∧ isW ((w.2.2.2.1) (gh 75 0)) n P (sAdd S t (iI cn)) M) ∨ (z = 1 ∧ ¬ P t ∧ ((w.1) mo 26).toInt = (n : Int) + 1 ∧ isW ((w.2.2.2.1) (gh 75 0)) (n + 1) (pAdd P t) (tUp S t (iI cn)) (tUp M t (iI rd)))) ∧ (∀ b, b ≠ gh 75 0 → (w.2.2.2.1) b = AI b))) := by
  refine gStart (cc := cX7_gathers) (maxL := 5) (ret := (some (.boolean))) (by decide) rfl (Nat.le_of_ble_eq_true rfl) ?_
  intro p e s m below meth c ls F hr hlk hH hz hS hl
  have hl : lv_has ls 5 [(0, .ref mo), (1, .int (iI cn)), (2, .int (iI rd))] := hl
  have hS : va_S (gA g) s.heap s.heap [] := hS
  obtain ⟨H, hHe⟩ : ∃ H : Heap, H = s.heap := ⟨_, rfl⟩
  obtain ⟨locs, hlo⟩ : ∃ k : List Loc, k = [] := ⟨_, rfl⟩
  have hH : gH g I R J AI AJ AR H := by rw [hHe]; exact hH
  have hS : va_S (gA g) s.heap H locs := by rw [hHe, hlo]; exact hS
  suffices hw : W p l e rmX7_gathersf s m ([.ref mo, .int (iI cn), .int (iI rd)] : List Value).toArray below meth c H locs 0 0 (MQ below (gQi g (fun (z : Int) (w : gS) => R = w.2.1 ∧ J = w.2.2.1 ∧ AJ = w.2.2.2.2.1 ∧ AR = w.2.2.2.2.2 ∧ (mInv g gh R (w.1) (w.2.2.2.1)) ∧ ((w.2.2.2.1) (gh 50 0) = T) ∧ (wF mo I (w.1)) ∧ ((z = 0 ∧ ((w.1) mo 26).toInt = (I mo 26).toInt) ∨ (z = 1 ∧ ((w.1) mo 26).toInt = (I mo 26).toInt + 1)) ∧ ((z = 0 ∧ P t ∧ ((w.1) mo 26).toInt = (n : Int) ∧ isW ((w.2.2.2.1) (gh 75 0)) n P (sAdd S t (iI cn)) M) ∨ (z = 1 ∧ ¬ P t ∧ ((w.1) mo 26).toInt = (n : Int) + 1 ∧ isW ((w.2.2.2.1) (gh 75 0)) (n + 1) (pAdd P t) (tUp S t (iI cn)) (tUp M t (iI rd)))) ∧ (∀ b, b ≠ gh 75 0 → (w.2.2.2.1) b = AI b))) ([.ref mo, .int (iI cn), .int (iI rd)] : List Value).toArray s 0 0 (gA g)) (F0 m 0 ls []) by
    rw [hHe, hlo] at hw; exact hw
  clear hHe hlo
  have wf : wF mo I I := wF_r
  have iX7 : ∀ w ∈ u_ws RX7 TX7 32, w ∈ tsX7_gathers := fun w h => List.mem_cons_of_mem _ (inTB7 w h)
  have k269 : Cond.fieldLink RX7 269 (TX7 26).1 (TX7 26).2.1 (TX7 26).2.2.1 ∈ tsX7_gathers := List.mem_cons_of_mem _ fl_269
  have k42 : Cond.fieldLink RX7 42 (TX7 25).1 (TX7 25).2.1 (TX7 25).2.2.1 ∈ tsX7_gathers := List.mem_cons_of_mem _ fl_42
  have k45 : Cond.fieldLink RX7 45 (TX7 27).1 (TX7 27).2.1 (TX7 27).2.2.1 ∈ tsX7_gathers := List.mem_cons_of_mem _ fl_45
  refine lv_aload_n F.1 F.2.1 dX7_gathers_0 rfl (lv_at hl 0 rfl) ?_
  have b_1 := mJ hv hm
  unfold mNum1 at b_1
  refine g_calli (g_runV (As := []) (rest := []) (ci := 7) F hl.1 hH hS hz (c_X7_placeOff l g gh T n P S M t I R J AI AJ AR mo hv hm hT hw (by omega) ht) (cwV 0 F.2.2.2.2.1 (good_up gT_X7_placeOf) rfl rfl rfl hdX7_placeOf ⟨Nat.le_of_ble_eq_true rfl, Nat.le_of_ble_eq_true rfl⟩) hm (by decide) rfl rfl rfl (Nat.le_of_ble_eq_true rfl) dX7_gathers_1 ⟨Nat.zero_le _, Nat.zero_le _⟩) hS (fun v_8 I_2 R_3 J_4 AI_5 AJ_6 AR_7 H locs zv_8 hp_9 hH hS => ?_)
  dsimp only at hp_9
  obtain ⟨rfl, rfl, rfl, rfl, rfl, rfl, q_10, qpl⟩ := hp_9
  refine lv_istore_n (lv' := [(3, .int (iI v_8)), (0, .ref mo), (1, .int (iI cn)), (2, .int (iI rd))]) F.1 F.2.1 dX7_gathers_4 rfl hl (by decide) rfl (fun ls hl => ?_)
  refine lv_iload_n F.1 F.2.1 dX7_gathers_5 rfl (lv_at hl 0 rfl) ?_
  refine lv_aload_n F.1 F.2.1 dX7_gathers_6 rfl (lv_at hl 1 rfl) ?_
  refine g_getI (ci := 7) (k := 26) F hH rfl (by decide) iX7 hm (by decide) rfl k269 dX7_gathers_7 ?_
  refine z_icmp_ge (tgt := 49) F dX7_gathers_10 (by decide) zv_8 (zr_t _) (fun c_11 => ?_) (fun c_11 => ?_)
  · have hat := lo_at hw.1 qpl (fun h9 => by first | omega | (intro h8; omega))
    have fW : ∀ b, b ≠ gh 75 0 → AI b = AI b := fun _ _ => rfl
    refine z_bipush F dX7_gathers_49 (by decide) ?_
    refine lv_aload_n F.1 F.2.1 dX7_gathers_51 rfl (lv_at hl 1 rfl) ?_
    refine g_getI (ci := 7) (k := 26) F hH rfl (by decide) iX7 hm (by decide) rfl k269 dX7_gathers_52 ?_
    refine z_imul F dX7_gathers_55 ?_
    refine z_iconst F dX7_gathers_56 ?_
    refine z_isub F dX7_gathers_57 ?_
    refine lv_istore (lv' := [(4, .int (iI ((6 * ((I mo 26).toInt)) - 1))), (3, .int (iI v_8)), (0, .ref mo), (1, .int (iI cn)), (2, .int (iI rd))]) F.1 F.2.1 dX7_gathers_58 hl (by decide) rfl (fun ls hl => ?_)
    have cut_60_12 : ∀ (NN : Nat) (i : Int) (AI_12 : gI) (H : Heap) (locs : List Loc) (ls : Array Slot), zr i → (mInv g gh R I AI_12) → (AI_12 (gh 50 0) = T) → (6 * v_8 - 1 ≤ i ∧ i ≤ 6 * (I mo 26).toInt - 1) → (∀ b, b ≠ gh 75 0 → AI_12 b = AI b) → (shW (AI (gh 75 0)) (AI_12 (gh 75 0)) n i) → (i + 1) < ((NN : Nat) : Int) → gH g I R J AI_12 AJ AR H → va_S (gA g) s.heap H locs → lv_has ls 5 [(4, .int (iI i)), (3, .int (iI v_8)), (0, .ref mo), (1, .int (iI cn)), (2, .int (iI rd))] → W p l e rmX7_gathersf s m ([.ref mo, .int (iI cn), .int (iI rd)] : List Value).toArray below meth c H locs 0 0 (MQ below (gQi g (fun (z : Int) (w : gS) => R = w.2.1 ∧ J = w.2.2.1 ∧ AJ = w.2.2.2.2.1 ∧ AR = w.2.2.2.2.2 ∧ (mInv g gh R (w.1) (w.2.2.2.1)) ∧ ((w.2.2.2.1) (gh 50 0) = T) ∧ (wF mo I (w.1)) ∧ ((z = 0 ∧ ((w.1) mo 26).toInt = (I mo 26).toInt) ∨ (z = 1 ∧ ((w.1) mo 26).toInt = (I mo 26).toInt + 1)) ∧ ((z = 0 ∧ P t ∧ ((w.1) mo 26).toInt = (n : Int) ∧ isW ((w.2.2.2.1) (gh 75 0)) n P (sAdd S t (iI cn)) M) ∨ (z = 1 ∧ ¬ P t ∧ ((w.1) mo 26).toInt = (n : Int) + 1 ∧ isW ((w.2.2.2.1) (gh 75 0)) (n + 1) (pAdd P t) (tUp S t (iI cn)) (tUp M t (iI rd)))) ∧ (∀ b, b ≠ gh 75 0 → (w.2.2.2.1) b = AI b))) ([.ref mo, .int (iI cn), .int (iI rd)] : List Value).toArray s 0 0 (gA g)) (F0 m 60 ls []) := by
      intro NN60
      induction NN60 with
      | zero =>
        intro i AI_12 H locs ls zi hv hT hi fW hsh hm60 hH hS hl
        exact absurd hm60 (by omega)
      | succ NN60 ih60 =>
        intro i AI_12 H locs ls zi hv hT hi fW hsh hm60 hH hS hl
        refine lv_iload F.1 F.2.1 dX7_gathers_60 (lv_at hl 0 rfl) ?_
        refine z_bipush F dX7_gathers_62 (by decide) ?_
        refine lv_iload_n F.1 F.2.1 dX7_gathers_64 rfl (lv_at hl 1 rfl) ?_
        refine z_imul F dX7_gathers_65 ?_
        refine z_icmp_lt (tgt := 92) F dX7_gathers_66 (by decide) zi ⟨by omega, by omega⟩ (fun c_14 => ?_) (fun c_14 => ?_)
        · refine z_iconst F dX7_gathers_92 ?_
          refine lv_istore (lv' := [(4, .int (iI 0)), (3, .int (iI v_8)), (0, .ref mo), (1, .int (iI cn)), (2, .int (iI rd))]) F.1 F.2.1 dX7_gathers_93 hl (by decide) rfl (fun ls hl => ?_)
          have cut_95_15 : ∀ (NN : Nat) (i : Int) (AI_15 : gI) (H : Heap) (locs : List Loc) (ls : Array Slot), zr i → (mInv g gh R I AI_15) → (AI_15 (gh 50 0) = T) → (0 ≤ i ∧ i ≤ 4) → (∀ b, b ≠ gh 75 0 → AI_15 b = AI b) → (wrW (AI (gh 75 0)) (AI_15 (gh 75 0)) v_8.toNat n t i) → (4 - i) < ((NN : Nat) : Int) → gH g I R J AI_15 AJ AR H → va_S (gA g) s.heap H locs → lv_has ls 5 [(4, .int (iI i)), (3, .int (iI v_8)), (0, .ref mo), (1, .int (iI cn)), (2, .int (iI rd))] → W p l e rmX7_gathersf s m ([.ref mo, .int (iI cn), .int (iI rd)] : List Value).toArray below meth c H locs 0 0 (MQ below (gQi g (fun (z : Int) (w : gS) => R = w.2.1 ∧ J = w.2.2.1 ∧ AJ = w.2.2.2.2.1 ∧ AR = w.2.2.2.2.2 ∧ (mInv g gh R (w.1) (w.2.2.2.1)) ∧ ((w.2.2.2.1) (gh 50 0) = T) ∧ (wF mo I (w.1)) ∧ ((z = 0 ∧ ((w.1) mo 26).toInt = (I mo 26).toInt) ∨ (z = 1 ∧ ((w.1) mo 26).toInt = (I mo 26).toInt + 1)) ∧ ((z = 0 ∧ P t ∧ ((w.1) mo 26).toInt = (n : Int) ∧ isW ((w.2.2.2.1) (gh 75 0)) n P (sAdd S t (iI cn)) M) ∨ (z = 1 ∧ ¬ P t ∧ ((w.1) mo 26).toInt = (n : Int) + 1 ∧ isW ((w.2.2.2.1) (gh 75 0)) (n + 1) (pAdd P t) (tUp S t (iI cn)) (tUp M t (iI rd)))) ∧ (∀ b, b ≠ gh 75 0 → (w.2.2.2.1) b = AI b))) ([.ref mo, .int (iI cn), .int (iI rd)] : List Value).toArray s 0 0 (gA g)) (F0 m 95 ls []) := by
            intro NN95
            induction NN95 with
            | zero =>
              intro i AI_15 H locs ls zi hv hT hi2 fW hwr hm95 hH hS hl
              exact absurd hm95 (by omega)
            | succ NN95 ih95 =>
              intro i AI_15 H locs ls zi hv hT hi2 fW hwr hm95 hH hS hl
              refine lv_iload F.1 F.2.1 dX7_gathers_95 (lv_at hl 0 rfl) ?_
              refine z_iconst F dX7_gathers_97 ?_
              refine z_icmp_ge (tgt := 126) F dX7_gathers_98 (by decide) zi ⟨by decide, by decide⟩ (fun c_17 => ?_) (fun c_17 => ?_)
              · refine lv_aload_n F.1 F.2.1 dX7_gathers_126 rfl (lv_at hl 2 rfl) ?_
                obtain ⟨r_18a, r_18b⟩ : R mo 25 = some (gh 75 0) ∧ gAr g (gh 75 0) 9 9600 := mR hv hm (q := (25, 9600)) (by decide)
                refine g_getR (ci := 7) (k := 25) F hH rfl (by decide) iX7 hm (by decide) rfl (b := gh 75 0) r_18a k42 dX7_gathers_127 ?_
                refine z_bipush F dX7_gathers_130 (by decide) ?_
                refine lv_iload_n F.1 F.2.1 dX7_gathers_132 rfl (lv_at hl 1 rfl) ?_
                refine z_imul F dX7_gathers_133 ?_
                refine z_iconst F dX7_gathers_134 ?_
                refine z_iadd F dX7_gathers_135 ?_
                refine lv_iload_n F.1 F.2.1 dX7_gathers_136 rfl (lv_at hl 3 rfl) ?_
                have hx137 : 0 ≤ ((6 * v_8) + 4) ∧ ((6 * v_8) + 4) < ((9600 : Nat) : Int) ∧ ((6 * v_8) + 4) ≤ 2147483647 := ⟨by omega, by omega, by omega⟩
                refine g_iast F hH hS r_18b hx137.1 hx137.2.1 hx137.2.2 dX7_gathers_137 (fun H locs hH hS => ?_)
                obtain ⟨AI_19, eAI_19⟩ : ∃ qQ, qQ = gup2 AI_15 (gh 75 0) (((6 * v_8) + 4)).toNat (iI (cn)) := ⟨_, rfl⟩
                rw [← eAI_19] at hH
                have kAI_19 : ∀ b, b ≠ (gh 75 0) → AI_19 b = AI_15 b := fun b hb => by rw [eAI_19]; exact funext fun j => gup2_a _ _ hb
                have hvO := hv
                have t_20 : AI_19 (gh 50 0) = AI_15 (gh 50 0) := mK hv hm (p := (0, 640)) (q := (25, 9600)) (by decide) (by decide) (by decide) kAI_19
                have hv : mInv g gh R I AI_19 := mInv_a hv hm (q := (25, 9600)) (by decide) (by decide) kAI_19
                have hT : AI_19 (gh 50 0) = T := t_20.trans hT
                have fW : ∀ b, b ≠ gh 75 0 → AI_19 b = AI b := fun b hb => (kAI_19 b hb).trans (fW b hb)
                have w1 : ∀ j, j ≠ 6 * v_8.toNat + 4 → AI_19 (gh 75 0) j = AI_15 (gh 75 0) j := fun j hj => by rw [eAI_19, gup2_k _ _ (by omega)]
                have w1b : AI_19 (gh 75 0) (6 * v_8.toNat + 4) = iI cn := by rw [eAI_19, gup2_e _ _ (by omega)]
                refine lv_aload_n F.1 F.2.1 dX7_gathers_138 rfl (lv_at hl 2 rfl) ?_
                refine g_getR (ci := 7) (k := 25) F hH rfl (by decide) iX7 hm (by decide) rfl (b := gh 75 0) r_18a k42 dX7_gathers_139 ?_
                refine z_bipush F dX7_gathers_142 (by decide) ?_
                refine lv_iload_n F.1 F.2.1 dX7_gathers_144 rfl (lv_at hl 1 rfl) ?_
                refine z_imul F dX7_gathers_145 ?_
                refine z_iconst F dX7_gathers_146 ?_
                refine z_iadd F dX7_gathers_147 ?_
                refine lv_iload_n F.1 F.2.1 dX7_gathers_148 rfl (lv_at hl 4 rfl) ?_
                have hx149 : 0 ≤ ((6 * v_8) + 5) ∧ ((6 * v_8) + 5) < ((9600 : Nat) : Int) ∧ ((6 * v_8) + 5) ≤ 2147483647 := ⟨by omega, by omega, by omega⟩
                refine g_iast F hH hS r_18b hx149.1 hx149.2.1 hx149.2.2 dX7_gathers_149 (fun H locs hH hS => ?_)
                obtain ⟨AI_21, eAI_21⟩ : ∃ qQ, qQ = gup2 AI_19 (gh 75 0) (((6 * v_8) + 5)).toNat (iI (rd)) := ⟨_, rfl⟩
                rw [← eAI_21] at hH
                have kAI_21 : ∀ b, b ≠ (gh 75 0) → AI_21 b = AI_19 b := fun b hb => by rw [eAI_21]; exact funext fun j => gup2_a _ _ hb
                have hvO := hv
                have t_22 : AI_21 (gh 50 0) = AI_19 (gh 50 0) := mK hv hm (p := (0, 640)) (q := (25, 9600)) (by decide) (by decide) (by decide) kAI_21
                have hv : mInv g gh R I AI_21 := mInv_a hv hm (q := (25, 9600)) (by decide) (by decide) kAI_21
                have hT : AI_21 (gh 50 0) = T := t_22.trans hT
                have fW : ∀ b, b ≠ gh 75 0 → AI_21 b = AI b := fun b hb => (kAI_21 b hb).trans (fW b hb)
                have hins := wrW_e hwr (by omega) w1 w1b (f2 := AI_21 (gh 75 0)) (fun j hj => by rw [eAI_21, gup2_k _ _ (by omega)]) (by rw [eAI_21, gup2_e _ _ (by omega)])
                have hnew := isW_ins hw hat hins
                refine lv_aload_n F.1 F.2.1 dX7_gathers_150 rfl (lv_at hl 2 rfl) ?_
                refine lv_dup F.1 F.2.1 dX7_gathers_151 rfl ?_
                refine g_getI (ci := 7) (k := 26) F hH rfl (by decide) iX7 hm (by decide) rfl k269 dX7_gathers_152 ?_
                refine z_iconst F dX7_gathers_155 ?_
                refine z_iadd F dX7_gathers_156 ?_
                refine g_putI (ci := 7) (k := 26) F hH hS rfl (by decide) iX7 hm (by decide) tyX7 tyX7_ok nmX7 rfl rfl rfl k269 dX7_gathers_157 (fun H locs hH hS => ?_)
                obtain ⟨I_23, eI_23⟩ : ∃ qQ, qQ = gup2 I mo 26 (iI (((I mo 26).toInt) + 1)) := ⟨_, rfl⟩
                rw [← eI_23] at hH
                have kI_23 : ∀ b, b ≠ mo → I_23 b = I b := fun b hb => by rw [eI_23]; exact funext fun j => gup2_a _ _ hb
                have w_24 : (I_23 mo 26).toInt = ((I mo 26).toInt) + 1 := by rw [eI_23, gup2_s]; exact iI_val ⟨by omega, by omega⟩
                have hv : mInv g gh R I_23 AI_21 := by rw [eI_23]; exact mP26 hv hm (by omega) (by omega)
                have wf : wF mo I I_23 := wF_t wf (by rw [eI_23]; exact wF_p)
                have u_25_2 : (I_23 mo 2).toInt = (I mo 2).toInt := by rw [wf 2 (by decide)]
                have u_25_5 : (I_23 mo 5).toInt = (I mo 5).toInt := by rw [wf 5 (by decide)]
                have u_25_14 : (I_23 mo 14).toInt = (I mo 14).toInt := by rw [wf 14 (by decide)]
                have u_25_16 : (I_23 mo 16).toInt = (I mo 16).toInt := by rw [wf 16 (by decide)]
                have u_25_24 : (I_23 mo 24).toInt = (I mo 24).toInt := by rw [wf 24 (by decide)]
                refine z_iconst F dX7_gathers_160 ?_
                exact g_zret F hr hlk hH hS hz (by omega) ⟨rfl, rfl, rfl, rfl, hv, hT, wf, by first | omega | rfl | (dsimp only; omega), Or.inr ⟨rfl, hnew.1, by (try dsimp only); omega, hnew.2⟩, fW⟩ dX7_gathers_161
              · refine lv_aload_n F.1 F.2.1 dX7_gathers_101 rfl (lv_at hl 2 rfl) ?_
                obtain ⟨r_26a, r_26b⟩ : R mo 25 = some (gh 75 0) ∧ gAr g (gh 75 0) 9 9600 := mR hv hm (q := (25, 9600)) (by decide)
                refine g_getR (ci := 7) (k := 25) F hH rfl (by decide) iX7 hm (by decide) rfl (b := gh 75 0) r_26a k42 dX7_gathers_102 ?_
                refine z_bipush F dX7_gathers_105 (by decide) ?_
                refine lv_iload_n F.1 F.2.1 dX7_gathers_107 rfl (lv_at hl 1 rfl) ?_
                refine z_imul F dX7_gathers_108 ?_
                refine lv_iload F.1 F.2.1 dX7_gathers_109 (lv_at hl 0 rfl) ?_
                refine z_iadd F dX7_gathers_111 ?_
                refine lv_aload_n F.1 F.2.1 dX7_gathers_112 rfl (lv_at hl 2 rfl) ?_
                obtain ⟨r_27a, r_27b⟩ : R mo 27 = some (gh 77 0) ∧ gAr g (gh 77 0) 9 4 := mR hv hm (q := (27, 4)) (by decide)
                refine g_getR (ci := 7) (k := 27) F hH rfl (by decide) iX7 hm (by decide) rfl (b := gh 77 0) r_27a k45 dX7_gathers_113 ?_
                refine lv_iload F.1 F.2.1 dX7_gathers_116 (lv_at hl 0 rfl) ?_
                have hx118 : 0 ≤ i ∧ i < ((4 : Nat) : Int) ∧ i ≤ 2147483647 := ⟨by omega, by omega, by omega⟩
                refine g_iald F hH r_27b hx118.1 hx118.2.1 hx118.2.2 dX7_gathers_118 ?_
                refine z_name (fun v_28 ev_28 => ?_)
                have zv_28 : zr v_28 := by rw [ev_28]; exact zr_t _
                have hx119 : 0 ≤ ((6 * v_8) + i) ∧ ((6 * v_8) + i) < ((9600 : Nat) : Int) ∧ ((6 * v_8) + i) ≤ 2147483647 := ⟨by omega, by omega, by omega⟩
                refine g_iast F hH hS r_26b hx119.1 hx119.2.1 hx119.2.2 dX7_gathers_119 (fun H locs hH hS => ?_)
                obtain ⟨AI_29, eAI_29⟩ : ∃ qQ, qQ = gup2 AI_15 (gh 75 0) (((6 * v_8) + i)).toNat (iI (v_28)) := ⟨_, rfl⟩
                rw [← eAI_29] at hH
                have kAI_29 : ∀ b, b ≠ (gh 75 0) → AI_29 b = AI_15 b := fun b hb => by rw [eAI_29]; exact funext fun j => gup2_a _ _ hb
                have hvO := hv
                have t_30 : AI_29 (gh 50 0) = AI_15 (gh 50 0) := mK hv hm (p := (0, 640)) (q := (25, 9600)) (by decide) (by decide) (by decide) kAI_29
                have hv : mInv g gh R I AI_29 := mInv_a hv hm (q := (25, 9600)) (by decide) (by decide) kAI_29
                have hT : AI_29 (gh 50 0) = T := t_30.trans hT
                have hwr := wrW_s hwr (by omega) (f'' := AI_29 (gh 75 0)) (fun j hj => by rw [eAI_29, gup2_k _ _ (by omega)]) (by rw [eAI_29, gup2_e _ _ (by omega), ev_28, iI_self, fW _ (show gh 77 0 ≠ gh 75 0 from mNe hv hm (p := (27, 4)) (q := (25, 9600)) (by decide) (by decide) (by decide))]; exact ht _ (by omega))
                have fW : ∀ b, b ≠ gh 75 0 → AI_29 b = AI b := fun b hb => (kAI_29 b hb).trans (fW b hb)
                refine z_iinc (lv' := [(4, .int (iI (i + 1))), (3, .int (iI v_8)), (0, .ref mo), (1, .int (iI cn)), (2, .int (iI rd))]) F dX7_gathers_120 hl (k := 0) rfl (by decide) rfl (fun ls hl => ?_)
                refine z_goto (tgt := 95) F dX7_gathers_123 (by decide) ?_
                exact ih95 (i + 1) AI_29 H locs ls ⟨by omega, by omega⟩ hv hT (by omega) fW hwr (by omega) hH hS (lv_sub hl [0, 1, 2, 3, 4] rfl)
          exact cut_95_15 (((4 - 0) + 1 : Int).toNat) 0 AI_12 H locs ls ⟨by decide, by decide⟩ hv hT (by omega) fW (wrW_0 hsh (by omega)) (by omega) hH hS (lv_sub hl [0, 1, 2, 3, 4] rfl)
        · refine lv_aload_n F.1 F.2.1 dX7_gathers_69 rfl (lv_at hl 2 rfl) ?_
          obtain ⟨r_31a, r_31b⟩ : R mo 25 = some (gh 75 0) ∧ gAr g (gh 75 0) 9 9600 := mR hv hm (q := (25, 9600)) (by decide)
          refine g_getR (ci := 7) (k := 25) F hH rfl (by decide) iX7 hm (by decide) rfl (b := gh 75 0) r_31a k42 dX7_gathers_70 ?_
          refine lv_iload F.1 F.2.1 dX7_gathers_73 (lv_at hl 0 rfl) ?_
          refine z_bipush F dX7_gathers_75 (by decide) ?_
          refine z_iadd F dX7_gathers_77 ?_
          refine lv_aload_n F.1 F.2.1 dX7_gathers_78 rfl (lv_at hl 2 rfl) ?_
          refine g_getR (ci := 7) (k := 25) F hH rfl (by decide) iX7 hm (by decide) rfl (b := gh 75 0) r_31a k42 dX7_gathers_79 ?_
          refine lv_iload F.1 F.2.1 dX7_gathers_82 (lv_at hl 0 rfl) ?_
          have hx84 : 0 ≤ i ∧ i < ((9600 : Nat) : Int) ∧ i ≤ 2147483647 := ⟨by omega, by omega, by omega⟩
          refine g_iald F hH r_31b hx84.1 hx84.2.1 hx84.2.2 dX7_gathers_84 ?_
          refine z_name (fun v_32 ev_32 => ?_)
          have zv_32 : zr v_32 := by rw [ev_32]; exact zr_t _
          have hx85 : 0 ≤ (i + 6) ∧ (i + 6) < ((9600 : Nat) : Int) ∧ (i + 6) ≤ 2147483647 := ⟨by omega, by omega, by omega⟩
          refine g_iast F hH hS r_31b hx85.1 hx85.2.1 hx85.2.2 dX7_gathers_85 (fun H locs hH hS => ?_)
          obtain ⟨AI_33, eAI_33⟩ : ∃ qQ, qQ = gup2 AI_12 (gh 75 0) ((i + 6)).toNat (iI (v_32)) := ⟨_, rfl⟩
          rw [← eAI_33] at hH
          have kAI_33 : ∀ b, b ≠ (gh 75 0) → AI_33 b = AI_12 b := fun b hb => by rw [eAI_33]; exact funext fun j => gup2_a _ _ hb
          have hvO := hv
          have t_34 : AI_33 (gh 50 0) = AI_12 (gh 50 0) := mK hv hm (p := (0, 640)) (q := (25, 9600)) (by decide) (by decide) (by decide) kAI_33
          have hv : mInv g gh R I AI_33 := mInv_a hv hm (q := (25, 9600)) (by decide) (by decide) kAI_33
          have hT : AI_33 (gh 50 0) = T := t_34.trans hT
          have fW : ∀ b, b ≠ gh 75 0 → AI_33 b = AI b := fun b hb => (kAI_33 b hb).trans (fW b hb)
          have hsh := shW_s hsh (by omega) (f'' := AI_33 (gh 75 0)) (fun j hj => by rw [eAI_33, gup2_k _ _ hj]) (by rw [eAI_33, gup2_s, ev_32, iI_self])
          refine z_iinc (lv' := [(4, .int (iI (i + (-1)))), (3, .int (iI v_8)), (0, .ref mo), (1, .int (iI cn)), (2, .int (iI rd))]) F dX7_gathers_86 hl (k := 0) rfl (by decide) rfl (fun ls hl => ?_)
          refine z_goto (tgt := 60) F dX7_gathers_89 (by decide) ?_
          exact ih60 (i + (-1)) AI_33 H locs ls ⟨by omega, by omega⟩ hv hT (by omega) fW (by rw [show i + (-1) = i - 1 by omega]; exact hsh) (by omega) hH hS (lv_sub hl [0, 1, 2, 3, 4] rfl)
    exact cut_60_12 (((((6 * ((I mo 26).toInt)) - 1) + 1) + 1 : Int).toNat) ((6 * ((I mo 26).toInt)) - 1) AI H locs ls ⟨by omega, by omega⟩ hv hT (by omega) fW (by rw [show 6 * (I mo 26).toInt - 1 = 6 * (n : Int) - 1 by omega]; exact shW_0) (by omega) hH hS (lv_sub hl [0, 1, 2, 3, 4] rfl)
  · refine lv_aload_n F.1 F.2.1 dX7_gathers_13 rfl (lv_at hl 1 rfl) ?_
    obtain ⟨r_35a, r_35b⟩ : R mo 25 = some (gh 75 0) ∧ gAr g (gh 75 0) 9 9600 := mR hv hm (q := (25, 9600)) (by decide)
    refine g_getR (ci := 7) (k := 25) F hH rfl (by decide) iX7 hm (by decide) rfl (b := gh 75 0) r_35a k42 dX7_gathers_14 ?_
    refine z_bipush F dX7_gathers_17 (by decide) ?_
    refine lv_iload_n F.1 F.2.1 dX7_gathers_19 rfl (lv_at hl 0 rfl) ?_
    refine z_imul F dX7_gathers_20 ?_
    refine lv_aload_n F.1 F.2.1 dX7_gathers_21 rfl (lv_at hl 1 rfl) ?_
    obtain ⟨r_36a, r_36b⟩ : R mo 27 = some (gh 77 0) ∧ gAr g (gh 77 0) 9 4 := mR hv hm (q := (27, 4)) (by decide)
    refine g_getR (ci := 7) (k := 27) F hH rfl (by decide) iX7 hm (by decide) rfl (b := gh 77 0) r_36a k45 dX7_gathers_22 ?_
    refine z_iconst F dX7_gathers_25 ?_
    refine g_calli (g_runS (As := [.ref (gh 75 0), .int (iI (6 * v_8)), .ref (gh 77 0), .int (iI 0)]) (rest := []) F hl.1 hH hS hz (c_X7_comparef l g 9600 4 I R J AI AJ AR (gh 75 0) (6 * v_8) (gh 77 0) 0 ⟨by omega, by omega⟩ ⟨by decide, by decide⟩ r_35b r_36b (by omega) (by omega) (by omega) (by omega)) (va_cwS 4 F.2.2.2.2.1 (good_up gT_X7_compare) rfl rfl rfl hdX7_compare.2 ⟨Nat.le_of_ble_eq_true rfl, Nat.le_of_ble_eq_true rfl⟩) rfl rfl (Nat.le_of_ble_eq_true rfl) dX7_gathers_26 ⟨Nat.zero_le _, Nat.zero_le _⟩) hS (fun v_43 I_37 R_38 J_39 AI_40 AJ_41 AR_42 H locs zv_43 hp_44 hH hS => ?_)
    dsimp only at hp_44
    obtain ⟨rfl, rfl, rfl, rfl, rfl, rfl, q_45, qc⟩ := hp_44
    have qk : v_43 = tc (tup (AI (gh 75 0)) v_8.toNat) t := by rw [qc, ry6_n (by omega)]; exact tc_kv (key_tu ht)
    refine z_if_ne (tgt := 49) F dX7_gathers_29 (by decide) zv_43 (fun c_46 => ?_) (fun c_46 => ?_)
    · have hat := lo_at hw.1 qpl (fun h9 => by first | omega | (intro h8; omega))
      have fW : ∀ b, b ≠ gh 75 0 → AI b = AI b := fun _ _ => rfl
      refine z_bipush F dX7_gathers_49 (by decide) ?_
      refine lv_aload_n F.1 F.2.1 dX7_gathers_51 rfl (lv_at hl 1 rfl) ?_
      refine g_getI (ci := 7) (k := 26) F hH rfl (by decide) iX7 hm (by decide) rfl k269 dX7_gathers_52 ?_
      refine z_imul F dX7_gathers_55 ?_
      refine z_iconst F dX7_gathers_56 ?_
      refine z_isub F dX7_gathers_57 ?_
      refine lv_istore (lv' := [(4, .int (iI ((6 * ((I mo 26).toInt)) - 1))), (3, .int (iI v_8)), (0, .ref mo), (1, .int (iI cn)), (2, .int (iI rd))]) F.1 F.2.1 dX7_gathers_58 hl (by decide) rfl (fun ls hl => ?_)
      have cut_60_47 : ∀ (NN : Nat) (i : Int) (AI_47 : gI) (H : Heap) (locs : List Loc) (ls : Array Slot), zr i → (mInv g gh R I AI_47) → (AI_47 (gh 50 0) = T) → (6 * v_8 - 1 ≤ i ∧ i ≤ 6 * (I mo 26).toInt - 1) → (∀ b, b ≠ gh 75 0 → AI_47 b = AI b) → (shW (AI (gh 75 0)) (AI_47 (gh 75 0)) n i) → (i + 1) < ((NN : Nat) : Int) → gH g I R J AI_47 AJ AR H → va_S (gA g) s.heap H locs → lv_has ls 5 [(4, .int (iI i)), (3, .int (iI v_8)), (0, .ref mo), (1, .int (iI cn)), (2, .int (iI rd))] → W p l e rmX7_gathersf s m ([.ref mo, .int (iI cn), .int (iI rd)] : List Value).toArray below meth c H locs 0 0 (MQ below (gQi g (fun (z : Int) (w : gS) => R = w.2.1 ∧ J = w.2.2.1 ∧ AJ = w.2.2.2.2.1 ∧ AR = w.2.2.2.2.2 ∧ (mInv g gh R (w.1) (w.2.2.2.1)) ∧ ((w.2.2.2.1) (gh 50 0) = T) ∧ (wF mo I (w.1)) ∧ ((z = 0 ∧ ((w.1) mo 26).toInt = (I mo 26).toInt) ∨ (z = 1 ∧ ((w.1) mo 26).toInt = (I mo 26).toInt + 1)) ∧ ((z = 0 ∧ P t ∧ ((w.1) mo 26).toInt = (n : Int) ∧ isW ((w.2.2.2.1) (gh 75 0)) n P (sAdd S t (iI cn)) M) ∨ (z = 1 ∧ ¬ P t ∧ ((w.1) mo 26).toInt = (n : Int) + 1 ∧ isW ((w.2.2.2.1) (gh 75 0)) (n + 1) (pAdd P t) (tUp S t (iI cn)) (tUp M t (iI rd)))) ∧ (∀ b, b ≠ gh 75 0 → (w.2.2.2.1) b = AI b))) ([.ref mo, .int (iI cn), .int (iI rd)] : List Value).toArray s 0 0 (gA g)) (F0 m 60 ls []) := by
        intro NN60
        induction NN60 with
        | zero =>
          intro i AI_47 H locs ls zi hv hT hi fW hsh hm60 hH hS hl
          exact absurd hm60 (by omega)
        | succ NN60 ih60 =>
          intro i AI_47 H locs ls zi hv hT hi fW hsh hm60 hH hS hl
          refine lv_iload F.1 F.2.1 dX7_gathers_60 (lv_at hl 0 rfl) ?_
          refine z_bipush F dX7_gathers_62 (by decide) ?_
          refine lv_iload_n F.1 F.2.1 dX7_gathers_64 rfl (lv_at hl 1 rfl) ?_
          refine z_imul F dX7_gathers_65 ?_
          refine z_icmp_lt (tgt := 92) F dX7_gathers_66 (by decide) zi ⟨by omega, by omega⟩ (fun c_49 => ?_) (fun c_49 => ?_)
          · refine z_iconst F dX7_gathers_92 ?_
            refine lv_istore (lv' := [(4, .int (iI 0)), (3, .int (iI v_8)), (0, .ref mo), (1, .int (iI cn)), (2, .int (iI rd))]) F.1 F.2.1 dX7_gathers_93 hl (by decide) rfl (fun ls hl => ?_)
            have cut_95_50 : ∀ (NN : Nat) (i : Int) (AI_50 : gI) (H : Heap) (locs : List Loc) (ls : Array Slot), zr i → (mInv g gh R I AI_50) → (AI_50 (gh 50 0) = T) → (0 ≤ i ∧ i ≤ 4) → (∀ b, b ≠ gh 75 0 → AI_50 b = AI b) → (wrW (AI (gh 75 0)) (AI_50 (gh 75 0)) v_8.toNat n t i) → (4 - i) < ((NN : Nat) : Int) → gH g I R J AI_50 AJ AR H → va_S (gA g) s.heap H locs → lv_has ls 5 [(4, .int (iI i)), (3, .int (iI v_8)), (0, .ref mo), (1, .int (iI cn)), (2, .int (iI rd))] → W p l e rmX7_gathersf s m ([.ref mo, .int (iI cn), .int (iI rd)] : List Value).toArray below meth c H locs 0 0 (MQ below (gQi g (fun (z : Int) (w : gS) => R = w.2.1 ∧ J = w.2.2.1 ∧ AJ = w.2.2.2.2.1 ∧ AR = w.2.2.2.2.2 ∧ (mInv g gh R (w.1) (w.2.2.2.1)) ∧ ((w.2.2.2.1) (gh 50 0) = T) ∧ (wF mo I (w.1)) ∧ ((z = 0 ∧ ((w.1) mo 26).toInt = (I mo 26).toInt) ∨ (z = 1 ∧ ((w.1) mo 26).toInt = (I mo 26).toInt + 1)) ∧ ((z = 0 ∧ P t ∧ ((w.1) mo 26).toInt = (n : Int) ∧ isW ((w.2.2.2.1) (gh 75 0)) n P (sAdd S t (iI cn)) M) ∨ (z = 1 ∧ ¬ P t ∧ ((w.1) mo 26).toInt = (n : Int) + 1 ∧ isW ((w.2.2.2.1) (gh 75 0)) (n + 1) (pAdd P t) (tUp S t (iI cn)) (tUp M t (iI rd)))) ∧ (∀ b, b ≠ gh 75 0 → (w.2.2.2.1) b = AI b))) ([.ref mo, .int (iI cn), .int (iI rd)] : List Value).toArray s 0 0 (gA g)) (F0 m 95 ls []) := by
              intro NN95
              induction NN95 with
              | zero =>
                intro i AI_50 H locs ls zi hv hT hi2 fW hwr hm95 hH hS hl
                exact absurd hm95 (by omega)
              | succ NN95 ih95 =>
                intro i AI_50 H locs ls zi hv hT hi2 fW hwr hm95 hH hS hl
                refine lv_iload F.1 F.2.1 dX7_gathers_95 (lv_at hl 0 rfl) ?_
                refine z_iconst F dX7_gathers_97 ?_
                refine z_icmp_ge (tgt := 126) F dX7_gathers_98 (by decide) zi ⟨by decide, by decide⟩ (fun c_52 => ?_) (fun c_52 => ?_)
                · refine lv_aload_n F.1 F.2.1 dX7_gathers_126 rfl (lv_at hl 2 rfl) ?_
                  refine g_getR (ci := 7) (k := 25) F hH rfl (by decide) iX7 hm (by decide) rfl (b := gh 75 0) r_35a k42 dX7_gathers_127 ?_
                  refine z_bipush F dX7_gathers_130 (by decide) ?_
                  refine lv_iload_n F.1 F.2.1 dX7_gathers_132 rfl (lv_at hl 1 rfl) ?_
                  refine z_imul F dX7_gathers_133 ?_
                  refine z_iconst F dX7_gathers_134 ?_
                  refine z_iadd F dX7_gathers_135 ?_
                  refine lv_iload_n F.1 F.2.1 dX7_gathers_136 rfl (lv_at hl 3 rfl) ?_
                  have hx137 : 0 ≤ ((6 * v_8) + 4) ∧ ((6 * v_8) + 4) < ((9600 : Nat) : Int) ∧ ((6 * v_8) + 4) ≤ 2147483647 := ⟨by omega, by omega, by omega⟩
                  refine g_iast F hH hS r_35b hx137.1 hx137.2.1 hx137.2.2 dX7_gathers_137 (fun H locs hH hS => ?_)
                  obtain ⟨AI_53, eAI_53⟩ : ∃ qQ, qQ = gup2 AI_50 (gh 75 0) (((6 * v_8) + 4)).toNat (iI (cn)) := ⟨_, rfl⟩
                  rw [← eAI_53] at hH
                  have kAI_53 : ∀ b, b ≠ (gh 75 0) → AI_53 b = AI_50 b := fun b hb => by rw [eAI_53]; exact funext fun j => gup2_a _ _ hb
                  have hvO := hv
                  have t_54 : AI_53 (gh 50 0) = AI_50 (gh 50 0) := mK hv hm (p := (0, 640)) (q := (25, 9600)) (by decide) (by decide) (by decide) kAI_53
                  have hv : mInv g gh R I AI_53 := mInv_a hv hm (q := (25, 9600)) (by decide) (by decide) kAI_53
                  have hT : AI_53 (gh 50 0) = T := t_54.trans hT
                  have fW : ∀ b, b ≠ gh 75 0 → AI_53 b = AI b := fun b hb => (kAI_53 b hb).trans (fW b hb)
                  have w1 : ∀ j, j ≠ 6 * v_8.toNat + 4 → AI_53 (gh 75 0) j = AI_50 (gh 75 0) j := fun j hj => by rw [eAI_53, gup2_k _ _ (by omega)]
                  have w1b : AI_53 (gh 75 0) (6 * v_8.toNat + 4) = iI cn := by rw [eAI_53, gup2_e _ _ (by omega)]
                  refine lv_aload_n F.1 F.2.1 dX7_gathers_138 rfl (lv_at hl 2 rfl) ?_
                  refine g_getR (ci := 7) (k := 25) F hH rfl (by decide) iX7 hm (by decide) rfl (b := gh 75 0) r_35a k42 dX7_gathers_139 ?_
                  refine z_bipush F dX7_gathers_142 (by decide) ?_
                  refine lv_iload_n F.1 F.2.1 dX7_gathers_144 rfl (lv_at hl 1 rfl) ?_
                  refine z_imul F dX7_gathers_145 ?_
                  refine z_iconst F dX7_gathers_146 ?_
                  refine z_iadd F dX7_gathers_147 ?_
                  refine lv_iload_n F.1 F.2.1 dX7_gathers_148 rfl (lv_at hl 4 rfl) ?_
                  have hx149 : 0 ≤ ((6 * v_8) + 5) ∧ ((6 * v_8) + 5) < ((9600 : Nat) : Int) ∧ ((6 * v_8) + 5) ≤ 2147483647 := ⟨by omega, by omega, by omega⟩
                  refine g_iast F hH hS r_35b hx149.1 hx149.2.1 hx149.2.2 dX7_gathers_149 (fun H locs hH hS => ?_)
                  obtain ⟨AI_55, eAI_55⟩ : ∃ qQ, qQ = gup2 AI_53 (gh 75 0) (((6 * v_8) + 5)).toNat (iI (rd)) := ⟨_, rfl⟩
                  rw [← eAI_55] at hH
                  have kAI_55 : ∀ b, b ≠ (gh 75 0) → AI_55 b = AI_53 b := fun b hb => by rw [eAI_55]; exact funext fun j => gup2_a _ _ hb
                  have hvO := hv
                  have t_56 : AI_55 (gh 50 0) = AI_53 (gh 50 0) := mK hv hm (p := (0, 640)) (q := (25, 9600)) (by decide) (by decide) (by decide) kAI_55
                  have hv : mInv g gh R I AI_55 := mInv_a hv hm (q := (25, 9600)) (by decide) (by decide) kAI_55
                  have hT : AI_55 (gh 50 0) = T := t_56.trans hT
                  have fW : ∀ b, b ≠ gh 75 0 → AI_55 b = AI b := fun b hb => (kAI_55 b hb).trans (fW b hb)
                  have hins := wrW_e hwr (by omega) w1 w1b (f2 := AI_55 (gh 75 0)) (fun j hj => by rw [eAI_55, gup2_k _ _ (by omega)]) (by rw [eAI_55, gup2_e _ _ (by omega)])
                  have hnew := isW_ins hw hat hins
                  refine lv_aload_n F.1 F.2.1 dX7_gathers_150 rfl (lv_at hl 2 rfl) ?_
                  refine lv_dup F.1 F.2.1 dX7_gathers_151 rfl ?_
                  refine g_getI (ci := 7) (k := 26) F hH rfl (by decide) iX7 hm (by decide) rfl k269 dX7_gathers_152 ?_
                  refine z_iconst F dX7_gathers_155 ?_
                  refine z_iadd F dX7_gathers_156 ?_
                  refine g_putI (ci := 7) (k := 26) F hH hS rfl (by decide) iX7 hm (by decide) tyX7 tyX7_ok nmX7 rfl rfl rfl k269 dX7_gathers_157 (fun H locs hH hS => ?_)
                  obtain ⟨I_57, eI_57⟩ : ∃ qQ, qQ = gup2 I mo 26 (iI (((I mo 26).toInt) + 1)) := ⟨_, rfl⟩
                  rw [← eI_57] at hH
                  have kI_57 : ∀ b, b ≠ mo → I_57 b = I b := fun b hb => by rw [eI_57]; exact funext fun j => gup2_a _ _ hb
                  have w_58 : (I_57 mo 26).toInt = ((I mo 26).toInt) + 1 := by rw [eI_57, gup2_s]; exact iI_val ⟨by omega, by omega⟩
                  have hv : mInv g gh R I_57 AI_55 := by rw [eI_57]; exact mP26 hv hm (by omega) (by omega)
                  have wf : wF mo I I_57 := wF_t wf (by rw [eI_57]; exact wF_p)
                  have u_59_2 : (I_57 mo 2).toInt = (I mo 2).toInt := by rw [wf 2 (by decide)]
                  have u_59_5 : (I_57 mo 5).toInt = (I mo 5).toInt := by rw [wf 5 (by decide)]
                  have u_59_14 : (I_57 mo 14).toInt = (I mo 14).toInt := by rw [wf 14 (by decide)]
                  have u_59_16 : (I_57 mo 16).toInt = (I mo 16).toInt := by rw [wf 16 (by decide)]
                  have u_59_24 : (I_57 mo 24).toInt = (I mo 24).toInt := by rw [wf 24 (by decide)]
                  refine z_iconst F dX7_gathers_160 ?_
                  exact g_zret F hr hlk hH hS hz (by omega) ⟨rfl, rfl, rfl, rfl, hv, hT, wf, by first | omega | rfl | (dsimp only; omega), Or.inr ⟨rfl, hnew.1, by (try dsimp only); omega, hnew.2⟩, fW⟩ dX7_gathers_161
                · refine lv_aload_n F.1 F.2.1 dX7_gathers_101 rfl (lv_at hl 2 rfl) ?_
                  refine g_getR (ci := 7) (k := 25) F hH rfl (by decide) iX7 hm (by decide) rfl (b := gh 75 0) r_35a k42 dX7_gathers_102 ?_
                  refine z_bipush F dX7_gathers_105 (by decide) ?_
                  refine lv_iload_n F.1 F.2.1 dX7_gathers_107 rfl (lv_at hl 1 rfl) ?_
                  refine z_imul F dX7_gathers_108 ?_
                  refine lv_iload F.1 F.2.1 dX7_gathers_109 (lv_at hl 0 rfl) ?_
                  refine z_iadd F dX7_gathers_111 ?_
                  refine lv_aload_n F.1 F.2.1 dX7_gathers_112 rfl (lv_at hl 2 rfl) ?_
                  refine g_getR (ci := 7) (k := 27) F hH rfl (by decide) iX7 hm (by decide) rfl (b := gh 77 0) r_36a k45 dX7_gathers_113 ?_
                  refine lv_iload F.1 F.2.1 dX7_gathers_116 (lv_at hl 0 rfl) ?_
                  have hx118 : 0 ≤ i ∧ i < ((4 : Nat) : Int) ∧ i ≤ 2147483647 := ⟨by omega, by omega, by omega⟩
                  refine g_iald F hH r_36b hx118.1 hx118.2.1 hx118.2.2 dX7_gathers_118 ?_
                  refine z_name (fun v_60 ev_60 => ?_)
                  have zv_60 : zr v_60 := by rw [ev_60]; exact zr_t _
                  have hx119 : 0 ≤ ((6 * v_8) + i) ∧ ((6 * v_8) + i) < ((9600 : Nat) : Int) ∧ ((6 * v_8) + i) ≤ 2147483647 := ⟨by omega, by omega, by omega⟩
                  refine g_iast F hH hS r_35b hx119.1 hx119.2.1 hx119.2.2 dX7_gathers_119 (fun H locs hH hS => ?_)
                  obtain ⟨AI_61, eAI_61⟩ : ∃ qQ, qQ = gup2 AI_50 (gh 75 0) (((6 * v_8) + i)).toNat (iI (v_60)) := ⟨_, rfl⟩
                  rw [← eAI_61] at hH
                  have kAI_61 : ∀ b, b ≠ (gh 75 0) → AI_61 b = AI_50 b := fun b hb => by rw [eAI_61]; exact funext fun j => gup2_a _ _ hb
                  have hvO := hv
                  have t_62 : AI_61 (gh 50 0) = AI_50 (gh 50 0) := mK hv hm (p := (0, 640)) (q := (25, 9600)) (by decide) (by decide) (by decide) kAI_61
                  have hv : mInv g gh R I AI_61 := mInv_a hv hm (q := (25, 9600)) (by decide) (by decide) kAI_61
                  have hT : AI_61 (gh 50 0) = T := t_62.trans hT
                  have hwr := wrW_s hwr (by omega) (f'' := AI_61 (gh 75 0)) (fun j hj => by rw [eAI_61, gup2_k _ _ (by omega)]) (by rw [eAI_61, gup2_e _ _ (by omega), ev_60, iI_self, fW _ (show gh 77 0 ≠ gh 75 0 from mNe hv hm (p := (27, 4)) (q := (25, 9600)) (by decide) (by decide) (by decide))]; exact ht _ (by omega))
                  have fW : ∀ b, b ≠ gh 75 0 → AI_61 b = AI b := fun b hb => (kAI_61 b hb).trans (fW b hb)
                  refine z_iinc (lv' := [(4, .int (iI (i + 1))), (3, .int (iI v_8)), (0, .ref mo), (1, .int (iI cn)), (2, .int (iI rd))]) F dX7_gathers_120 hl (k := 0) rfl (by decide) rfl (fun ls hl => ?_)
                  refine z_goto (tgt := 95) F dX7_gathers_123 (by decide) ?_
                  exact ih95 (i + 1) AI_61 H locs ls ⟨by omega, by omega⟩ hv hT (by omega) fW hwr (by omega) hH hS (lv_sub hl [0, 1, 2, 3, 4] rfl)
            exact cut_95_50 (((4 - 0) + 1 : Int).toNat) 0 AI_47 H locs ls ⟨by decide, by decide⟩ hv hT (by omega) fW (wrW_0 hsh (by omega)) (by omega) hH hS (lv_sub hl [0, 1, 2, 3, 4] rfl)
          · refine lv_aload_n F.1 F.2.1 dX7_gathers_69 rfl (lv_at hl 2 rfl) ?_
            refine g_getR (ci := 7) (k := 25) F hH rfl (by decide) iX7 hm (by decide) rfl (b := gh 75 0) r_35a k42 dX7_gathers_70 ?_
            refine lv_iload F.1 F.2.1 dX7_gathers_73 (lv_at hl 0 rfl) ?_
            refine z_bipush F dX7_gathers_75 (by decide) ?_
            refine z_iadd F dX7_gathers_77 ?_
            refine lv_aload_n F.1 F.2.1 dX7_gathers_78 rfl (lv_at hl 2 rfl) ?_
            refine g_getR (ci := 7) (k := 25) F hH rfl (by decide) iX7 hm (by decide) rfl (b := gh 75 0) r_35a k42 dX7_gathers_79 ?_
            refine lv_iload F.1 F.2.1 dX7_gathers_82 (lv_at hl 0 rfl) ?_
            have hx84 : 0 ≤ i ∧ i < ((9600 : Nat) : Int) ∧ i ≤ 2147483647 := ⟨by omega, by omega, by omega⟩
            refine g_iald F hH r_35b hx84.1 hx84.2.1 hx84.2.2 dX7_gathers_84 ?_
            refine z_name (fun v_63 ev_63 => ?_)
            have zv_63 : zr v_63 := by rw [ev_63]; exact zr_t _
            have hx85 : 0 ≤ (i + 6) ∧ (i + 6) < ((9600 : Nat) : Int) ∧ (i + 6) ≤ 2147483647 := ⟨by omega, by omega, by omega⟩
            refine g_iast F hH hS r_35b hx85.1 hx85.2.1 hx85.2.2 dX7_gathers_85 (fun H locs hH hS => ?_)
            obtain ⟨AI_64, eAI_64⟩ : ∃ qQ, qQ = gup2 AI_47 (gh 75 0) ((i + 6)).toNat (iI (v_63)) := ⟨_, rfl⟩
            rw [← eAI_64] at hH
            have kAI_64 : ∀ b, b ≠ (gh 75 0) → AI_64 b = AI_47 b := fun b hb => by rw [eAI_64]; exact funext fun j => gup2_a _ _ hb
            have hvO := hv
            have t_65 : AI_64 (gh 50 0) = AI_47 (gh 50 0) := mK hv hm (p := (0, 640)) (q := (25, 9600)) (by decide) (by decide) (by decide) kAI_64
            have hv : mInv g gh R I AI_64 := mInv_a hv hm (q := (25, 9600)) (by decide) (by decide) kAI_64
            have hT : AI_64 (gh 50 0) = T := t_65.trans hT
            have fW : ∀ b, b ≠ gh 75 0 → AI_64 b = AI b := fun b hb => (kAI_64 b hb).trans (fW b hb)
            have hsh := shW_s hsh (by omega) (f'' := AI_64 (gh 75 0)) (fun j hj => by rw [eAI_64, gup2_k _ _ hj]) (by rw [eAI_64, gup2_s, ev_63, iI_self])
            refine z_iinc (lv' := [(4, .int (iI (i + (-1)))), (3, .int (iI v_8)), (0, .ref mo), (1, .int (iI cn)), (2, .int (iI rd))]) F dX7_gathers_86 hl (k := 0) rfl (by decide) rfl (fun ls hl => ?_)
            refine z_goto (tgt := 60) F dX7_gathers_89 (by decide) ?_
            exact ih60 (i + (-1)) AI_64 H locs ls ⟨by omega, by omega⟩ hv hT (by omega) fW (by rw [show i + (-1) = i - 1 by omega]; exact hsh) (by omega) hH hS (lv_sub hl [0, 1, 2, 3, 4] rfl)
      exact cut_60_47 (((((6 * ((I mo 26).toInt)) - 1) + 1) + 1 : Int).toNat) ((6 * ((I mo 26).toInt)) - 1) AI H locs ls ⟨by omega, by omega⟩ hv hT (by omega) fW (by rw [show 6 * (I mo 26).toInt - 1 = 6 * (n : Int) - 1 by omega]; exact shW_0) (by omega) hH hS (lv_sub hl [0, 1, 2, 3, 4] rfl)
    · refine lv_aload_n F.1 F.2.1 dX7_gathers_32 rfl (lv_at hl 1 rfl) ?_
      refine g_getR (ci := 7) (k := 25) F hH rfl (by decide) iX7 hm (by decide) rfl (b := gh 75 0) r_35a k42 dX7_gathers_33 ?_
      refine z_bipush F dX7_gathers_36 (by decide) ?_
      refine lv_iload_n F.1 F.2.1 dX7_gathers_38 rfl (lv_at hl 0 rfl) ?_
      refine z_imul F dX7_gathers_39 ?_
      refine z_iconst F dX7_gathers_40 ?_
      refine z_iadd F dX7_gathers_41 ?_
      refine lv_dup2_11 F.1 F.2.1 dX7_gathers_42 rfl rfl ?_
      have hx43 : 0 ≤ ((6 * v_8) + 4) ∧ ((6 * v_8) + 4) < ((9600 : Nat) : Int) ∧ ((6 * v_8) + 4) ≤ 2147483647 := ⟨by omega, by omega, by omega⟩
      refine g_iald F hH r_35b hx43.1 hx43.2.1 hx43.2.2 dX7_gathers_43 ?_
      refine z_name (fun v_66 ev_66 => ?_)
      have zv_66 : zr v_66 := by rw [ev_66]; exact zr_t _
      have hek := tc_0.mp (show tc (tup (AI (gh 75 0)) v_8.toNat) t = 0 by omega)
      have hrow := hw.2.1 v_8.toNat (by omega)
      rw [hek] at hrow
      have q43 : iI v_66 = S t := by rw [ev_66, iI_self, ← hrow.2.1]; congr 1; omega
      refine lv_iload_n F.1 F.2.1 dX7_gathers_44 rfl (lv_at hl 2 rfl) ?_
      refine z_iadd F dX7_gathers_45 ?_
      have hx46 : 0 ≤ ((6 * v_8) + 4) ∧ ((6 * v_8) + 4) < ((9600 : Nat) : Int) ∧ ((6 * v_8) + 4) ≤ 2147483647 := ⟨by omega, by omega, by omega⟩
      refine g_iast F hH hS r_35b hx46.1 hx46.2.1 hx46.2.2 dX7_gathers_46 (fun H locs hH hS => ?_)
      obtain ⟨AI_67, eAI_67⟩ : ∃ qQ, qQ = gup2 AI (gh 75 0) (((6 * v_8) + 4)).toNat (iI (v_66 + cn)) := ⟨_, rfl⟩
      rw [← eAI_67] at hH
      have kAI_67 : ∀ b, b ≠ (gh 75 0) → AI_67 b = AI b := fun b hb => by rw [eAI_67]; exact funext fun j => gup2_a _ _ hb
      have hvO := hv
      have t_68 : AI_67 (gh 50 0) = AI (gh 50 0) := mK hv hm (p := (0, 640)) (q := (25, 9600)) (by decide) (by decide) (by decide) kAI_67
      have hv : mInv g gh R I AI_67 := mInv_a hv hm (q := (25, 9600)) (by decide) (by decide) kAI_67
      have hT : AI_67 (gh 50 0) = T := t_68.trans hT
      have hset : isW (AI_67 (gh 75 0)) n P (sAdd S t (iI cn)) M := by rw [sAdd_up]; exact isW_set hw (by omega) hek (fun j hj => by rw [eAI_67, gup2_k _ _ (by omega)]) (by rw [eAI_67, gup2_e _ _ (by omega), ← iI_add, q43])
      have fW : ∀ b, b ≠ gh 75 0 → AI_67 b = AI b := fun b hb => kAI_67 b hb
      refine z_iconst F dX7_gathers_47 ?_
      exact g_zret F hr hlk hH hS hz (by omega) ⟨rfl, rfl, rfl, rfl, hv, hT, wf, by first | omega | rfl | (dsimp only; omega), Or.inl ⟨rfl, hrow.1, by omega, hset⟩, fW⟩ dX7_gathers_48

def rmX7_takesf : Room := { frames := 0, cells := 0, slots := 0, locals := 0 }
set_option maxHeartbeats 4000000 in
set_option maxRecDepth 100000 in
/-- takes a tuple -/
theorem c_X7_takesf (l : Launch) (g : gG) (gh : gGh) (T : Nat → Int32) (I : gI) (R : gR) (J : gJ) (AI : gI) (AJ : gJ) (AR : gR) (mo : Nat) (fm : Int) (zfm : zr fm) (hv : mInv g gh R I AI) (hm : gO g mo 7) (hT : AI (gh 50 0) = T) (h0 : 0 ≤ fm ∧ fm + 4 ≤ 126720) : gMet l g yX7_takes tsX7_takes rmX7_takesf [.ref mo, .int (iI fm)] (I, R, J, AI, AJ, AR) (gQv g (fun w : gS => I = w.1 ∧ R = w.2.1 ∧ J = w.2.2.1 ∧ AJ = w.2.2.2.2.1 ∧ AR = w.2.2.2.2.2 ∧ (mInv g gh R I (w.2.2.2.1)) ∧ ((w.2.2.2.1) (gh 50 0) = T) ∧ (∀ b, b ≠ gh 77 0 → (w.2.2.2.1) b = AI b) ∧ (∀ j, j < 4 → (w.2.2.2.1) (gh 77 0) j = (AI (gh 56 0)) (fm.toNat + j)))) := by
  refine gStart (cc := cX7_takes) (maxL := 3) (ret := none) (by decide) rfl (Nat.le_of_ble_eq_true rfl) ?_
  intro p e s m below meth c ls F hr hlk hH hz hS hl
  have hl : lv_has ls 3 [(0, .ref mo), (1, .int (iI fm))] := hl
  have hS : va_S (gA g) s.heap s.heap [] := hS
  obtain ⟨H, hHe⟩ : ∃ H : Heap, H = s.heap := ⟨_, rfl⟩
  obtain ⟨locs, hlo⟩ : ∃ k : List Loc, k = [] := ⟨_, rfl⟩
  have hH : gH g I R J AI AJ AR H := by rw [hHe]; exact hH
  have hS : va_S (gA g) s.heap H locs := by rw [hHe, hlo]; exact hS
  suffices hw : W p l e rmX7_takesf s m ([.ref mo, .int (iI fm)] : List Value).toArray below meth c H locs 0 0 (MQ below (gQv g (fun w : gS => I = w.1 ∧ R = w.2.1 ∧ J = w.2.2.1 ∧ AJ = w.2.2.2.2.1 ∧ AR = w.2.2.2.2.2 ∧ (mInv g gh R I (w.2.2.2.1)) ∧ ((w.2.2.2.1) (gh 50 0) = T) ∧ (∀ b, b ≠ gh 77 0 → (w.2.2.2.1) b = AI b) ∧ (∀ j, j < 4 → (w.2.2.2.1) (gh 77 0) j = (AI (gh 56 0)) (fm.toNat + j)))) ([.ref mo, .int (iI fm)] : List Value).toArray s 0 0 (gA g)) (F0 m 0 ls []) by
    rw [hHe, hlo] at hw; exact hw
  clear hHe hlo
  have iX7 : ∀ w ∈ u_ws RX7 TX7 32, w ∈ tsX7_takes := fun w h => List.mem_cons_of_mem _ (inTB7 w h)
  have k45 : Cond.fieldLink RX7 45 (TX7 27).1 (TX7 27).2.1 (TX7 27).2.2.1 ∈ tsX7_takes := List.mem_cons_of_mem _ fl_45
  have k24 : Cond.fieldLink RX7 24 (TX7 6).1 (TX7 6).2.1 (TX7 6).2.2.1 ∈ tsX7_takes := List.mem_cons_of_mem _ fl_24
  refine z_iconst F dX7_takes_0 ?_
  refine lv_istore_n (lv' := [(2, .int (iI 0)), (0, .ref mo), (1, .int (iI fm))]) F.1 F.2.1 dX7_takes_1 rfl hl (by decide) rfl (fun ls hl => ?_)
  have cut_2_1 : ∀ (NN : Nat) (i : Int) (AI_1 : gI) (H : Heap) (locs : List Loc) (ls : Array Slot), zr i → (mInv g gh R I AI_1) → (AI_1 (gh 50 0) = T) → (0 ≤ i ∧ i ≤ 4) → (∀ b, b ≠ gh 77 0 → AI_1 b = AI b) → (∀ j : Nat, (j : Int) < i → AI_1 (gh 77 0) j = (AI (gh 56 0)) (fm.toNat + j)) → (4 - i) < ((NN : Nat) : Int) → gH g I R J AI_1 AJ AR H → va_S (gA g) s.heap H locs → lv_has ls 3 [(2, .int (iI i)), (0, .ref mo), (1, .int (iI fm))] → W p l e rmX7_takesf s m ([.ref mo, .int (iI fm)] : List Value).toArray below meth c H locs 0 0 (MQ below (gQv g (fun w : gS => I = w.1 ∧ R = w.2.1 ∧ J = w.2.2.1 ∧ AJ = w.2.2.2.2.1 ∧ AR = w.2.2.2.2.2 ∧ (mInv g gh R I (w.2.2.2.1)) ∧ ((w.2.2.2.1) (gh 50 0) = T) ∧ (∀ b, b ≠ gh 77 0 → (w.2.2.2.1) b = AI b) ∧ (∀ j, j < 4 → (w.2.2.2.1) (gh 77 0) j = (AI (gh 56 0)) (fm.toNat + j)))) ([.ref mo, .int (iI fm)] : List Value).toArray s 0 0 (gA g)) (F0 m 2 ls []) := by
    intro NN2
    induction NN2 with
    | zero =>
      intro i AI_1 H locs ls zi hv hT hi fW hta hm2 hH hS hl
      exact absurd hm2 (by omega)
    | succ NN2 ih2 =>
      intro i AI_1 H locs ls zi hv hT hi fW hta hm2 hH hS hl
      refine lv_iload_n F.1 F.2.1 dX7_takes_2 rfl (lv_at hl 0 rfl) ?_
      refine z_iconst F dX7_takes_3 ?_
      refine z_icmp_ge (tgt := 27) F dX7_takes_4 (by decide) zi ⟨by decide, by decide⟩ (fun c_3 => ?_) (fun c_3 => ?_)
      · exact g_vret F hr hlk hH hS hz ⟨rfl, rfl, rfl, rfl, rfl, hv, hT, fW, fun j hj => hta j (by omega)⟩ dX7_takes_27
      · refine lv_aload_n F.1 F.2.1 dX7_takes_7 rfl (lv_at hl 1 rfl) ?_
        obtain ⟨r_4a, r_4b⟩ : R mo 27 = some (gh 77 0) ∧ gAr g (gh 77 0) 9 4 := mR hv hm (q := (27, 4)) (by decide)
        refine g_getR (ci := 7) (k := 27) F hH rfl (by decide) iX7 hm (by decide) rfl (b := gh 77 0) r_4a k45 dX7_takes_8 ?_
        refine lv_iload_n F.1 F.2.1 dX7_takes_11 rfl (lv_at hl 0 rfl) ?_
        refine lv_aload_n F.1 F.2.1 dX7_takes_12 rfl (lv_at hl 1 rfl) ?_
        obtain ⟨r_5a, r_5b⟩ : R mo 6 = some (gh 56 0) ∧ gAr g (gh 56 0) 9 126720 := mR hv hm (q := (6, 126720)) (by decide)
        refine g_getR (ci := 7) (k := 6) F hH rfl (by decide) iX7 hm (by decide) rfl (b := gh 56 0) r_5a k24 dX7_takes_13 ?_
        refine lv_iload_n F.1 F.2.1 dX7_takes_16 rfl (lv_at hl 2 rfl) ?_
        refine lv_iload_n F.1 F.2.1 dX7_takes_17 rfl (lv_at hl 0 rfl) ?_
        refine z_iadd F dX7_takes_18 ?_
        have hx19 : 0 ≤ (fm + i) ∧ (fm + i) < ((126720 : Nat) : Int) ∧ (fm + i) ≤ 2147483647 := ⟨by omega, by omega, by omega⟩
        refine g_iald F hH r_5b hx19.1 hx19.2.1 hx19.2.2 dX7_takes_19 ?_
        refine z_name (fun v_6 ev_6 => ?_)
        have zv_6 : zr v_6 := by rw [ev_6]; exact zr_t _
        have hx20 : 0 ≤ i ∧ i < ((4 : Nat) : Int) ∧ i ≤ 2147483647 := ⟨by omega, by omega, by omega⟩
        refine g_iast F hH hS r_4b hx20.1 hx20.2.1 hx20.2.2 dX7_takes_20 (fun H locs hH hS => ?_)
        obtain ⟨AI_7, eAI_7⟩ : ∃ qQ, qQ = gup2 AI_1 (gh 77 0) (i).toNat (iI (v_6)) := ⟨_, rfl⟩
        rw [← eAI_7] at hH
        have kAI_7 : ∀ b, b ≠ (gh 77 0) → AI_7 b = AI_1 b := fun b hb => by rw [eAI_7]; exact funext fun j => gup2_a _ _ hb
        have hvO := hv
        have t_8 : AI_7 (gh 50 0) = AI_1 (gh 50 0) := mK hv hm (p := (0, 640)) (q := (27, 4)) (by decide) (by decide) (by decide) kAI_7
        have hv : mInv g gh R I AI_7 := mInv_a hv hm (q := (27, 4)) (by decide) (by decide) kAI_7
        have hT : AI_7 (gh 50 0) = T := t_8.trans hT
        have hta : ∀ j : Nat, (j : Int) < i + 1 → AI_7 (gh 77 0) j = (AI (gh 56 0)) (fm.toNat + j) := fun j hj => by
          by_cases e9 : (j : Int) = i
          · rw [eAI_7, gup2_e _ _ (by omega), ev_6, iI_self, fW _ (show gh 56 0 ≠ gh 77 0 from mNe hv hm (p := (6, 126720)) (q := (27, 4)) (by decide) (by decide) (by decide))]; congr 1; omega
          · rw [eAI_7, gup2_k _ _ (by omega)]; exact hta j (by omega)
        have fW : ∀ b, b ≠ gh 77 0 → AI_7 b = AI b := fun b hb => (kAI_7 b hb).trans (fW b hb)
        refine z_iinc (lv' := [(2, .int (iI (i + 1))), (0, .ref mo), (1, .int (iI fm))]) F dX7_takes_21 hl (k := 0) rfl (by decide) rfl (fun ls hl => ?_)
        refine z_goto (tgt := 2) F dX7_takes_24 (by decide) ?_
        exact ih2 (i + 1) AI_7 H locs ls ⟨by omega, by omega⟩ hv hT (by omega) fW hta (by omega) hH hS (lv_sub hl [0, 1, 2] rfl)
  exact cut_2_1 (((4 - 0) + 1 : Int).toNat) 0 AI H locs ls ⟨by decide, by decide⟩ hv hT (by omega) (fun _ _ => rfl) (fun j hj => absurd hj (by omega)) (by omega) hH hS (lv_sub hl [0, 1, 2] rfl)
