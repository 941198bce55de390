def rmX7_column_f : Room := { frames := 2, cells := 0, slots := 0, locals := 43 }
set_option maxHeartbeats 4000000 in
set_option maxRecDepth 100000 in
/-- column -/
theorem c_X7_column_f (l : Launch) (g : gG) (gh : gGh) (T : Nat → Int32) (nr : Nat) (I : gI) (R : gR) (J : gJ) (AI : gI) (AJ : gJ) (AR : gR) (mo : Nat) (rr : Int) (cl : Int) (wh : Int) (zrr : zr rr) (zcl : zr cl) (zwh : zr wh) (hv : mInv g gh R I AI) (hm : gO g mo 7) (hT : AI (gh 50 0) = T) (hmr : (I mo 2).toInt = (nr : Int)) : gMet l g yX7_column_ tsX7_column_ rmX7_column_f [.ref mo, .int (iI rr), .int (iI cl), .int (iI wh)] (I, R, J, AI, AJ, AR) (gQi g (fun (z : Int) (w : gS) => R = w.2.1 ∧ J = w.2.2.1 ∧ AI = w.2.2.2.1 ∧ AJ = w.2.2.2.2.1 ∧ AR = w.2.2.2.2.2 ∧ (mInv g gh R (w.1) AI) ∧ (nF mo I (w.1)) ∧ ((((w.1) mo 17).toInt = 1 ∧ z = 0 ∧ ¬ clM T nr (rfM gh AI 0 rr.toNat).1 rr cl wh) ∨ (((w.1) mo 17).toInt = 0 ∧ clM T nr (rfM gh AI 0 rr.toNat).1 rr cl wh ∧ clP (rfM gh AI 0 rr.toNat).2 (rfM gh AI 0 rr.toNat).1 cl wh z)))) := by
  refine gStart (cc := cX7_column_) (maxL := 11) (ret := (some (.int))) (by decide) rfl (Nat.le_of_ble_eq_true rfl) ?_
  intro p e s m below meth c ls F hr hlk hH hz hS hl
  have hl : lv_has ls 11 [(0, .ref mo), (1, .int (iI rr)), (2, .int (iI cl)), (3, .int (iI wh))] := hl
  have hS : va_S (gA g) s.heap s.heap [] := hS
  obtain ⟨H, hHe⟩ : ∃ H : Heap, H = s.heap := ⟨_, rfl⟩
  obtain ⟨locs, hlo⟩ : ∃ k : List Loc, k = [] := ⟨_, rfl⟩
  have hH : gH g I R J AI AJ AR H := by rw [hHe]; exact hH
  have hS : va_S (gA g) s.heap H locs := by rw [hHe, hlo]; exact hS
  suffices hw : W p l e rmX7_column_f s m ([.ref mo, .int (iI rr), .int (iI cl), .int (iI wh)] : List Value).toArray below meth c H locs 0 0 (MQ below (gQi g (fun (z : Int) (w : gS) => R = w.2.1 ∧ J = w.2.2.1 ∧ AI = w.2.2.2.1 ∧ AJ = w.2.2.2.2.1 ∧ AR = w.2.2.2.2.2 ∧ (mInv g gh R (w.1) AI) ∧ (nF mo I (w.1)) ∧ ((((w.1) mo 17).toInt = 1 ∧ z = 0 ∧ ¬ clM T nr (rfM gh AI 0 rr.toNat).1 rr cl wh) ∨ (((w.1) mo 17).toInt = 0 ∧ clM T nr (rfM gh AI 0 rr.toNat).1 rr cl wh ∧ clP (rfM gh AI 0 rr.toNat).2 (rfM gh AI 0 rr.toNat).1 cl wh z)))) ([.ref mo, .int (iI rr), .int (iI cl), .int (iI wh)] : List Value).toArray s 0 0 (gA g)) (F0 m 0 ls []) by
    rw [hHe, hlo] at hw; exact hw
  clear hHe hlo
  have nf : nF mo I I := nF_r
  have hb0 := mJ hv hm
  unfold mNum1 at hb0
  have iX7 : ∀ w ∈ u_ws RX7 TX7 32, w ∈ tsX7_column_ := fun w h => List.mem_cons_of_mem _ (inTB7 w h)
  have k60 : Cond.fieldLink RX7 60 (TX7 17).1 (TX7 17).2.1 (TX7 17).2.2.1 ∈ tsX7_column_ := List.mem_cons_of_mem _ fl_60
  have k24 : Cond.fieldLink RX7 24 (TX7 6).1 (TX7 6).2.1 (TX7 6).2.2.1 ∈ tsX7_column_ := List.mem_cons_of_mem _ fl_24
  refine lv_aload_n F.1 F.2.1 dX7_column__0 rfl (lv_at hl 0 rfl) ?_
  have cut_52_0 : ∀ (th : Int) (H : Heap) (locs : List Loc) (ls : Array Slot), zr th → ((th = 0 ∧ 0 ≤ rr ∧ rr ≤ 15 ∧ 0 ≤ cl ∧ cl ≤ 3) ∨ th = 1) → ((th = 0 ∧ clM T nr (rfM gh AI 0 rr.toNat).1 rr cl wh) ∨ (th = 1 ∧ ¬ clM T nr (rfM gh AI 0 rr.toNat).1 rr cl wh)) → gH g I R J AI AJ AR H → va_S (gA g) s.heap H locs → lv_has ls 11 [(0, .ref mo), (1, .int (iI rr)), (2, .int (iI cl)), (3, .int (iI wh))] → W p l e rmX7_column_f s m ([.ref mo, .int (iI rr), .int (iI cl), .int (iI wh)] : List Value).toArray below meth c H locs 0 0 (MQ below (gQi g (fun (z : Int) (w : gS) => R = w.2.1 ∧ J = w.2.2.1 ∧ AI = w.2.2.2.1 ∧ AJ = w.2.2.2.2.1 ∧ AR = w.2.2.2.2.2 ∧ (mInv g gh R (w.1) AI) ∧ (nF mo I (w.1)) ∧ ((((w.1) mo 17).toInt = 1 ∧ z = 0 ∧ ¬ clM T nr (rfM gh AI 0 rr.toNat).1 rr cl wh) ∨ (((w.1) mo 17).toInt = 0 ∧ clM T nr (rfM gh AI 0 rr.toNat).1 rr cl wh ∧ clP (rfM gh AI 0 rr.toNat).2 (rfM gh AI 0 rr.toNat).1 cl wh z)))) ([.ref mo, .int (iI rr), .int (iI cl), .int (iI wh)] : List Value).toArray s 0 0 (gA g)) (F0 m 52 ls [.int (iI th), .ref mo]) := by
    intro th H locs ls zth hth hcm hH hS hl
    refine g_putI (ci := 7) (k := 17) F hH hS rfl (by decide) iX7 hm (by decide) tyX7 tyX7_ok nmX7 rfl rfl rfl k60 dX7_column__52 (fun H locs hH hS => ?_)
    obtain ⟨I_2, eI_2⟩ : ∃ qQ, qQ = gup2 I mo 17 (iI (th)) := ⟨_, rfl⟩
    rw [← eI_2] at hH
    have kI_2 : ∀ b, b ≠ mo → I_2 b = I b := fun b hb => by rw [eI_2]; exact funext fun j => gup2_a _ _ hb
    have w_3 : (I_2 mo 17).toInt = th := by rw [eI_2, gup2_s]; exact iI_val zth
    have hv : mInv g gh R I_2 AI := by rw [eI_2]; exact mP17 hv hm
    have nf : nF mo I I_2 := nF_t nf (by rw [eI_2]; exact nF_p (by decide))
    have u_4_2 : (I_2 mo 2).toInt = (I mo 2).toInt := by rw [nf 2 (by decide) (by decide) (by decide) (by decide) (by decide)]
    have u_4_5 : (I_2 mo 5).toInt = (I mo 5).toInt := by rw [nf 5 (by decide) (by decide) (by decide) (by decide) (by decide)]
    have u_4_14 : (I_2 mo 14).toInt = (I mo 14).toInt := by rw [nf 14 (by decide) (by decide) (by decide) (by decide) (by decide)]
    have u_4_16 : (I_2 mo 16).toInt = (I mo 16).toInt := by rw [nf 16 (by decide) (by decide) (by decide) (by decide) (by decide)]
    have u_4_24 : (I_2 mo 24).toInt = (I mo 24).toInt := by rw [nf 24 (by decide) (by decide) (by decide) (by decide) (by decide)]
    refine lv_aload_n F.1 F.2.1 dX7_column__55 rfl (lv_at hl 0 rfl) ?_
    refine g_getI (ci := 7) (k := 17) F hH rfl (by decide) iX7 hm (by decide) rfl k60 dX7_column__56 ?_
    refine z_iconst F dX7_column__59 ?_
    refine z_icmp_ne (tgt := 65) F dX7_column__60 (by decide) (zr_t _) ⟨by decide, by decide⟩ (fun c_5 => ?_) (fun c_5 => ?_)
    · refine lv_ldcw (v := iI (2147483647)) F.1 F.2.1 F.2.2.2.1 (F.2.2.2.2.1 _ (List.mem_cons_of_mem _ cc_388)) dX7_column__65 ?_
      refine lv_istore (lv' := [(4, .int (iI 2147483647)), (0, .ref mo), (1, .int (iI rr)), (2, .int (iI cl)), (3, .int (iI wh))]) F.1 F.2.1 dX7_column__68 hl (by decide) rfl (fun ls hl => ?_)
      refine lv_ldcw (v := iI (-2147483648)) F.1 F.2.1 F.2.2.2.1 (F.2.2.2.2.1 _ (List.mem_cons_of_mem _ cc_389)) dX7_column__70 ?_
      refine lv_istore (lv' := [(5, .int (iI (-2147483648))), (4, .int (iI 2147483647)), (0, .ref mo), (1, .int (iI rr)), (2, .int (iI cl)), (3, .int (iI wh))]) F.1 F.2.1 dX7_column__73 hl (by decide) rfl (fun ls hl => ?_)
      refine z_iconst F dX7_column__75 ?_
      refine lv_istore (lv' := [(6, .int (iI 0)), (5, .int (iI (-2147483648))), (4, .int (iI 2147483647)), (0, .ref mo), (1, .int (iI rr)), (2, .int (iI cl)), (3, .int (iI wh))]) F.1 F.2.1 dX7_column__76 hl (by decide) rfl (fun ls hl => ?_)
      refine z_iconst F dX7_column__78 ?_
      refine lv_istore (lv' := [(7, .int (iI 0)), (6, .int (iI 0)), (5, .int (iI (-2147483648))), (4, .int (iI 2147483647)), (0, .ref mo), (1, .int (iI rr)), (2, .int (iI cl)), (3, .int (iI wh))]) F.1 F.2.1 dX7_column__79 hl (by decide) rfl (fun ls hl => ?_)
      have cut_81_5 : ∀ (NN : Nat) (le mst un i : Int) (H : Heap) (locs : List Loc) (ls : Array Slot), zr le → zr mst → zr un → zr i → (0 ≤ un ∧ un ≤ i ∧ i ≤ 120) → (leI (rfM gh AI 0 rr.toNat).2 cl.toNat i.toNat le) → (moI (rfM gh AI 0 rr.toNat).2 cl.toNat i.toNat mst) → (un = ((unC (rfM gh AI 0 rr.toNat).2 cl.toNat i.toNat : Nat) : Int) ∧ i ≤ (((rfM gh AI 0 rr.toNat).1 : Nat) : Int)) → (120 - i) < ((NN : Nat) : Int) → gH g I_2 R J AI AJ AR H → va_S (gA g) s.heap H locs → lv_has ls 11 [(7, .int (iI i)), (6, .int (iI un)), (5, .int (iI mst)), (4, .int (iI le)), (0, .ref mo), (1, .int (iI rr)), (2, .int (iI cl)), (3, .int (iI wh))] → W p l e rmX7_column_f s m ([.ref mo, .int (iI rr), .int (iI cl), .int (iI wh)] : List Value).toArray below meth c H locs 0 0 (MQ below (gQi g (fun (z : Int) (w : gS) => R = w.2.1 ∧ J = w.2.2.1 ∧ AI = w.2.2.2.1 ∧ AJ = w.2.2.2.2.1 ∧ AR = w.2.2.2.2.2 ∧ (mInv g gh R (w.1) AI) ∧ (nF mo I (w.1)) ∧ ((((w.1) mo 17).toInt = 1 ∧ z = 0 ∧ ¬ clM T nr (rfM gh AI 0 rr.toNat).1 rr cl wh) ∨ (((w.1) mo 17).toInt = 0 ∧ clM T nr (rfM gh AI 0 rr.toNat).1 rr cl wh ∧ clP (rfM gh AI 0 rr.toNat).2 (rfM gh AI 0 rr.toNat).1 cl wh z)))) ([.ref mo, .int (iI rr), .int (iI cl), .int (iI wh)] : List Value).toArray s 0 0 (gA g)) (F0 m 81 ls []) := by
        intro NN81
        induction NN81 with
        | zero =>
          intro le mst un i H locs ls zle zmst zun zi hi hle hmo hun hm81 hH hS hl
          exact absurd hm81 (by omega)
        | succ NN81 ih81 =>
          intro le mst un i H locs ls zle zmst zun zi hi hle hmo hun hm81 hH hS hl
          refine lv_iload F.1 F.2.1 dX7_column__81 (lv_at hl 0 rfl) ?_
          refine lv_aload_n F.1 F.2.1 dX7_column__83 rfl (lv_at hl 4 rfl) ?_
          refine z_iconst F dX7_column__84 ?_
          refine lv_iload_n F.1 F.2.1 dX7_column__85 rfl (lv_at hl 5 rfl) ?_
          have b_7 := mJ hv hm
          unfold mNum1 at b_7
          refine g_calli (g_runV (As := [.int (iI 0), .int (iI rr)]) (rest := [.int (iI i)]) (ci := 7) F hl.1 hH hS hz (c_X7_sizeOf l g gh T I_2 R J AI AJ AR mo 0 rr ⟨by decide, by decide⟩ zrr hv hm hT (by omega) (by omega)) (cwV 2 F.2.2.2.2.1 (good_up gT_X7_sizeOf) rfl rfl rfl hdX7_sizeOf ⟨Nat.le_of_ble_eq_true rfl, Nat.le_of_ble_eq_true rfl⟩) hm (by decide) rfl rfl rfl (Nat.le_of_ble_eq_true rfl) dX7_column__86 ⟨Nat.zero_le _, Nat.zero_le _⟩) hS (fun v_14 I_8 R_9 J_10 AI_11 AJ_12 AR_13 H locs zv_14 hp_15 hH hS => ?_)
          dsimp only at hp_15
          obtain ⟨rfl, rfl, rfl, rfl, rfl, rfl, q_16, qsz86⟩ := hp_15
          have hs86 : v_14 = (((rfM gh AI 0 rr.toNat).1 : Nat) : Int) := by rw [rfM_1 (by omega), qsz86]; unfold tI; have h8 := (mSz hv hm (z := 16 * 0 + rr) (by omega) (by omega)).1; omega
          refine z_icmp_ge (tgt := 194) F dX7_column__89 (by decide) zi zv_14 (fun c_17 => ?_) (fun c_17 => ?_)
          · refine lv_iload_n F.1 F.2.1 dX7_column__194 rfl (lv_at hl 7 rfl) ?_
            refine z_if_ne (tgt := 203) F dX7_column__195 (by decide) zwh (fun c_18 => ?_) (fun c_18 => ?_)
            · refine lv_iload_n F.1 F.2.1 dX7_column__203 rfl (lv_at hl 7 rfl) ?_
              refine z_iconst F dX7_column__204 ?_
              refine z_icmp_ne (tgt := 213) F dX7_column__205 (by decide) zwh ⟨by decide, by decide⟩ (fun c_19 => ?_) (fun c_19 => ?_)
              · refine lv_iload F.1 F.2.1 dX7_column__213 (lv_at hl 1 rfl) ?_
                exact g_iret F hr hlk hH hS hz zun ⟨rfl, rfl, rfl, rfl, rfl, hv, nf, Or.inr ⟨by (try dsimp only); omega, (hcm.resolve_right (fun h9 => by have h8 := h9.1; omega)).2, Or.inr (Or.inr ⟨by have h9 := (hcm.resolve_right (fun h9 => by have h8 := h9.1; omega)).2.2.2.1; omega, by rw [← show i.toNat = (rfM gh AI 0 rr.toNat).1 by omega]; omega⟩)⟩⟩ dX7_column__215
              · refine lv_iload F.1 F.2.1 dX7_column__208 (lv_at hl 2 rfl) ?_
                refine z_goto (tgt := 215) F dX7_column__210 (by decide) ?_
                exact g_iret F hr hlk hH hS hz zmst ⟨rfl, rfl, rfl, rfl, rfl, hv, nf, Or.inr ⟨by (try dsimp only); omega, (hcm.resolve_right (fun h9 => by have h8 := h9.1; omega)).2, Or.inr (Or.inl ⟨by omega, by rw [← show i.toNat = (rfM gh AI 0 rr.toNat).1 by omega]; exact moI_e hmo (by have h9 := (hcm.resolve_right (fun h9 => by have h8 := h9.1; omega)).2.2.2.2; omega)⟩)⟩⟩ dX7_column__215
            · refine lv_iload F.1 F.2.1 dX7_column__198 (lv_at hl 3 rfl) ?_
              refine z_goto (tgt := 215) F dX7_column__200 (by decide) ?_
              exact g_iret F hr hlk hH hS hz zle ⟨rfl, rfl, rfl, rfl, rfl, hv, nf, Or.inr ⟨by (try dsimp only); omega, (hcm.resolve_right (fun h9 => by have h8 := h9.1; omega)).2, Or.inl ⟨by omega, by rw [← show i.toNat = (rfM gh AI 0 rr.toNat).1 by omega]; exact leI_e hle (by have h9 := (hcm.resolve_right (fun h9 => by have h8 := h9.1; omega)).2.2.2.2; omega)⟩⟩⟩ dX7_column__215
          · refine lv_aload_n F.1 F.2.1 dX7_column__92 rfl (lv_at hl 4 rfl) ?_
            obtain ⟨r_20a, r_20b⟩ : R mo 6 = some (gh 56 0) ∧ gAr g (gh 56 0) 9 126720 := mR hv hm (q := (6, 126720)) (by decide)
            refine g_getR (ci := 7) (k := 6) F hH rfl (by decide) iX7 hm (by decide) rfl (b := gh 56 0) r_20a k24 dX7_column__93 ?_
            refine z_iconst F dX7_column__96 ?_
            refine lv_iload_n F.1 F.2.1 dX7_column__97 rfl (lv_at hl 5 rfl) ?_
            refine lv_iload F.1 F.2.1 dX7_column__98 (lv_at hl 0 rfl) ?_
            refine g_calli (g_runS (As := [.int (iI 0), .int (iI rr), .int (iI i)]) (rest := [.ref (gh 56 0)]) F hl.1 hH hS hz (c_X7_spot l g  I_2 R J AI AJ AR 0 rr i ⟨by decide, by decide⟩ zrr zi (by omega) (by omega) (by omega)) (va_cwS 3 F.2.2.2.2.1 (good_up gT_X7_spot) rfl rfl rfl hdX7_spot.2 ⟨Nat.le_of_ble_eq_true rfl, Nat.le_of_ble_eq_true rfl⟩) rfl rfl (Nat.le_of_ble_eq_true rfl) dX7_column__100 ⟨Nat.zero_le _, Nat.zero_le _⟩) hS (fun v_27 I_21 R_22 J_23 AI_24 AJ_25 AR_26 H locs zv_27 hp_28 hH hS => ?_)
            dsimp only at hp_28
            obtain ⟨rfl, rfl, rfl, rfl, rfl, rfl, q_29⟩ := hp_28
            refine lv_iload_n F.1 F.2.1 dX7_column__103 rfl (lv_at hl 6 rfl) ?_
            refine z_iadd F dX7_column__104 ?_
            have hx105 : 0 ≤ (v_27 + cl) ∧ (v_27 + cl) < ((126720 : Nat) : Int) ∧ (v_27 + cl) ≤ 2147483647 := ⟨by omega, by omega, by omega⟩
            refine g_iald F hH r_20b hx105.1 hx105.2.1 hx105.2.2 dX7_column__105 ?_
            refine z_name (fun v_30 ev_30 => ?_)
            have zv_30 : zr v_30 := by rw [ev_30]; exact zr_t _
            have c105 : v_30 = cvM (rfM gh AI 0 rr.toNat).2 cl.toNat i.toNat := by unfold cvM; rw [rfM_2 (by omega) (by omega), ev_30]; congr 2; omega
            refine lv_istore (lv' := [(8, .int (iI v_30)), (7, .int (iI i)), (6, .int (iI un)), (5, .int (iI mst)), (4, .int (iI le)), (0, .ref mo), (1, .int (iI rr)), (2, .int (iI cl)), (3, .int (iI wh))]) F.1 F.2.1 dX7_column__106 hl (by decide) rfl (fun ls hl => ?_)
            have cut_119_30 : ∀ (le2 : Int) (H : Heap) (locs : List Loc) (ls : Array Slot), zr le2 → (leI (rfM gh AI 0 rr.toNat).2 cl.toNat (i.toNat + 1) le2) → gH g I_2 R J AI AJ AR H → va_S (gA g) s.heap H locs → lv_has ls 11 [(8, .int (iI v_30)), (7, .int (iI i)), (6, .int (iI un)), (5, .int (iI mst)), (4, .int (iI le2)), (0, .ref mo), (1, .int (iI rr)), (2, .int (iI cl)), (3, .int (iI wh))] → W p l e rmX7_column_f s m ([.ref mo, .int (iI rr), .int (iI cl), .int (iI wh)] : List Value).toArray below meth c H locs 0 0 (MQ below (gQi g (fun (z : Int) (w : gS) => R = w.2.1 ∧ J = w.2.2.1 ∧ AI = w.2.2.2.1 ∧ AJ = w.2.2.2.2.1 ∧ AR = w.2.2.2.2.2 ∧ (mInv g gh R (w.1) AI) ∧ (nF mo I (w.1)) ∧ ((((w.1) mo 17).toInt = 1 ∧ z = 0 ∧ ¬ clM T nr (rfM gh AI 0 rr.toNat).1 rr cl wh) ∨ (((w.1) mo 17).toInt = 0 ∧ clM T nr (rfM gh AI 0 rr.toNat).1 rr cl wh ∧ clP (rfM gh AI 0 rr.toNat).2 (rfM gh AI 0 rr.toNat).1 cl wh z)))) ([.ref mo, .int (iI rr), .int (iI cl), .int (iI wh)] : List Value).toArray s 0 0 (gA g)) (F0 m 119 ls []) := by
              intro le2 H locs ls zle2 hle2 hH hS hl
              have cut_130_31 : ∀ (ms2 : Int) (H : Heap) (locs : List Loc) (ls : Array Slot), zr ms2 → (moI (rfM gh AI 0 rr.toNat).2 cl.toNat (i.toNat + 1) ms2) → gH g I_2 R J AI AJ AR H → va_S (gA g) s.heap H locs → lv_has ls 11 [(8, .int (iI v_30)), (7, .int (iI i)), (6, .int (iI un)), (5, .int (iI ms2)), (4, .int (iI le2)), (0, .ref mo), (1, .int (iI rr)), (2, .int (iI cl)), (3, .int (iI wh))] → W p l e rmX7_column_f s m ([.ref mo, .int (iI rr), .int (iI cl), .int (iI wh)] : List Value).toArray below meth c H locs 0 0 (MQ below (gQi g (fun (z : Int) (w : gS) => R = w.2.1 ∧ J = w.2.2.1 ∧ AI = w.2.2.2.1 ∧ AJ = w.2.2.2.2.1 ∧ AR = w.2.2.2.2.2 ∧ (mInv g gh R (w.1) AI) ∧ (nF mo I (w.1)) ∧ ((((w.1) mo 17).toInt = 1 ∧ z = 0 ∧ ¬ clM T nr (rfM gh AI 0 rr.toNat).1 rr cl wh) ∨ (((w.1) mo 17).toInt = 0 ∧ clM T nr (rfM gh AI 0 rr.toNat).1 rr cl wh ∧ clP (rfM gh AI 0 rr.toNat).2 (rfM gh AI 0 rr.toNat).1 cl wh z)))) ([.ref mo, .int (iI rr), .int (iI cl), .int (iI wh)] : List Value).toArray s 0 0 (gA g)) (F0 m 130 ls []) := by
                intro ms2 H locs ls zms2 hmo2 hH hS hl
                refine z_iconst F dX7_column__130 ?_
                refine lv_istore (lv' := [(9, .int (iI 1)), (8, .int (iI v_30)), (7, .int (iI i)), (6, .int (iI un)), (5, .int (iI ms2)), (4, .int (iI le2)), (0, .ref mo), (1, .int (iI rr)), (2, .int (iI cl)), (3, .int (iI wh))]) F.1 F.2.1 dX7_column__131 hl (by decide) rfl (fun ls hl => ?_)
                refine z_iconst F dX7_column__133 ?_
                refine lv_istore (lv' := [(10, .int (iI 0)), (9, .int (iI 1)), (8, .int (iI v_30)), (7, .int (iI i)), (6, .int (iI un)), (5, .int (iI ms2)), (4, .int (iI le2)), (0, .ref mo), (1, .int (iI rr)), (2, .int (iI cl)), (3, .int (iI wh))]) F.1 F.2.1 dX7_column__134 hl (by decide) rfl (fun ls hl => ?_)
                have cut_136_32 : ∀ (NN : Nat) (is jj : Int) (H : Heap) (locs : List Loc) (ls : Array Slot), zr is → zr jj → (0 ≤ jj ∧ jj ≤ i) → (unI (rfM gh AI 0 rr.toNat).2 cl.toNat i.toNat is jj) → (i - jj) < ((NN : Nat) : Int) → gH g I_2 R J AI AJ AR H → va_S (gA g) s.heap H locs → lv_has ls 11 [(10, .int (iI jj)), (9, .int (iI is)), (8, .int (iI v_30)), (7, .int (iI i)), (6, .int (iI un)), (5, .int (iI ms2)), (4, .int (iI le2)), (0, .ref mo), (1, .int (iI rr)), (2, .int (iI cl)), (3, .int (iI wh))] → W p l e rmX7_column_f s m ([.ref mo, .int (iI rr), .int (iI cl), .int (iI wh)] : List Value).toArray below meth c H locs 0 0 (MQ below (gQi g (fun (z : Int) (w : gS) => R = w.2.1 ∧ J = w.2.2.1 ∧ AI = w.2.2.2.1 ∧ AJ = w.2.2.2.2.1 ∧ AR = w.2.2.2.2.2 ∧ (mInv g gh R (w.1) AI) ∧ (nF mo I (w.1)) ∧ ((((w.1) mo 17).toInt = 1 ∧ z = 0 ∧ ¬ clM T nr (rfM gh AI 0 rr.toNat).1 rr cl wh) ∨ (((w.1) mo 17).toInt = 0 ∧ clM T nr (rfM gh AI 0 rr.toNat).1 rr cl wh ∧ clP (rfM gh AI 0 rr.toNat).2 (rfM gh AI 0 rr.toNat).1 cl wh z)))) ([.ref mo, .int (iI rr), .int (iI cl), .int (iI wh)] : List Value).toArray s 0 0 (gA g)) (F0 m 136 ls []) := by
                  intro NN136
                  induction NN136 with
                  | zero =>
                    intro is jj H locs ls zis zjj hj hui hm136 hH hS hl
                    exact absurd hm136 (by omega)
                  | succ NN136 ih136 =>
                    intro is jj H locs ls zis zjj hj hui hm136 hH hS hl
                    refine lv_iload F.1 F.2.1 dX7_column__136 (lv_at hl 0 rfl) ?_
                    refine lv_iload F.1 F.2.1 dX7_column__138 (lv_at hl 3 rfl) ?_
                    refine z_icmp_ge (tgt := 180) F dX7_column__140 (by decide) zjj zi (fun c_34 => ?_) (fun c_34 => ?_)
                    · refine lv_iload F.1 F.2.1 dX7_column__180 (lv_at hl 1 rfl) ?_
                      refine z_if_eq (tgt := 188) F dX7_column__182 (by decide) zis (fun c_35 => ?_) (fun c_35 => ?_)
                      · have hi01 := unI_r hui
                        have hue := unI_e hui (by omega)
                        rw [show i.toNat + 1 = (i + 1).toNat by omega] at hue
                        refine z_iinc (lv' := [(7, .int (iI (i + 1))), (10, .int (iI jj)), (9, .int (iI is)), (8, .int (iI v_30)), (6, .int (iI un)), (5, .int (iI ms2)), (4, .int (iI le2)), (0, .ref mo), (1, .int (iI rr)), (2, .int (iI cl)), (3, .int (iI wh))]) F dX7_column__188 hl (k := 3) rfl (by decide) rfl (fun ls hl => ?_)
                        refine z_goto (tgt := 81) F dX7_column__191 (by decide) ?_
                        exact ih81 le2 ms2 un (i + 1) H locs ls zle2 zms2 zun ⟨by omega, by omega⟩ (by omega) (by rw [show (i + 1).toNat = i.toNat + 1 by omega]; exact hle2) (by rw [show (i + 1).toNat = i.toNat + 1 by omega]; exact hmo2) ⟨by omega, by omega⟩ (by omega) hH hS (lv_sub hl [0, 4, 5, 6, 7, 8, 9, 10] rfl)
                      · refine z_iinc (lv' := [(6, .int (iI (un + 1))), (10, .int (iI jj)), (9, .int (iI is)), (8, .int (iI v_30)), (7, .int (iI i)), (5, .int (iI ms2)), (4, .int (iI le2)), (0, .ref mo), (1, .int (iI rr)), (2, .int (iI cl)), (3, .int (iI wh))]) F dX7_column__185 hl (k := 4) rfl (by decide) rfl (fun ls hl => ?_)
                        have hi01 := unI_r hui
                        have hue := unI_e hui (by omega)
                        rw [show i.toNat + 1 = (i + 1).toNat by omega] at hue
                        refine z_iinc (lv' := [(7, .int (iI (i + 1))), (6, .int (iI (un + 1))), (10, .int (iI jj)), (9, .int (iI is)), (8, .int (iI v_30)), (5, .int (iI ms2)), (4, .int (iI le2)), (0, .ref mo), (1, .int (iI rr)), (2, .int (iI cl)), (3, .int (iI wh))]) F dX7_column__188 hl (k := 4) rfl (by decide) rfl (fun ls hl => ?_)
                        refine z_goto (tgt := 81) F dX7_column__191 (by decide) ?_
                        exact ih81 le2 ms2 (un + 1) (i + 1) H locs ls zle2 zms2 ⟨by omega, by omega⟩ ⟨by omega, by omega⟩ (by omega) (by rw [show (i + 1).toNat = i.toNat + 1 by omega]; exact hle2) (by rw [show (i + 1).toNat = i.toNat + 1 by omega]; exact hmo2) ⟨by omega, by omega⟩ (by omega) hH hS (lv_sub hl [0, 1, 5, 6, 7, 8, 9, 10] rfl)
                    · refine lv_iload F.1 F.2.1 dX7_column__143 (lv_at hl 1 rfl) ?_
                      refine z_if_eq (tgt := 171) F dX7_column__145 (by decide) zis (fun c_36 => ?_) (fun c_36 => ?_)
                      · refine z_iconst F dX7_column__171 ?_
                        refine lv_istore (lv' := [(9, .int (iI 0)), (10, .int (iI jj)), (8, .int (iI v_30)), (7, .int (iI i)), (6, .int (iI un)), (5, .int (iI ms2)), (4, .int (iI le2)), (0, .ref mo), (1, .int (iI rr)), (2, .int (iI cl)), (3, .int (iI wh))]) F.1 F.2.1 dX7_column__172 hl (by decide) rfl (fun ls hl => ?_)
                        refine z_iinc (lv' := [(10, .int (iI (jj + 1))), (9, .int (iI 0)), (8, .int (iI v_30)), (7, .int (iI i)), (6, .int (iI un)), (5, .int (iI ms2)), (4, .int (iI le2)), (0, .ref mo), (1, .int (iI rr)), (2, .int (iI cl)), (3, .int (iI wh))]) F dX7_column__174 hl (k := 1) rfl (by decide) rfl (fun ls hl => ?_)
                        refine z_goto (tgt := 136) F dX7_column__177 (by decide) ?_
                        exact ih136 0 (jj + 1) H locs ls ⟨by decide, by decide⟩ ⟨by omega, by omega⟩ (by omega) (unI_z hui (by omega)) (by omega) hH hS (lv_sub hl [0, 1, 2, 3, 4, 5, 6, 7, 8, 9, 10] rfl)
                      · refine lv_aload_n F.1 F.2.1 dX7_column__148 rfl (lv_at hl 7 rfl) ?_
                        refine g_getR (ci := 7) (k := 6) F hH rfl (by decide) iX7 hm (by decide) rfl (b := gh 56 0) r_20a k24 dX7_column__149 ?_
                        refine z_iconst F dX7_column__152 ?_
                        refine lv_iload_n F.1 F.2.1 dX7_column__153 rfl (lv_at hl 8 rfl) ?_
                        refine lv_iload F.1 F.2.1 dX7_column__154 (lv_at hl 0 rfl) ?_
                        refine g_calli (g_runS (As := [.int (iI 0), .int (iI rr), .int (iI jj)]) (rest := [.ref (gh 56 0)]) F hl.1 hH hS hz (c_X7_spot l g  I_2 R J AI AJ AR 0 rr jj ⟨by decide, by decide⟩ zrr zjj (by omega) (by omega) (by omega)) (va_cwS 3 F.2.2.2.2.1 (good_up gT_X7_spot) rfl rfl rfl hdX7_spot.2 ⟨Nat.le_of_ble_eq_true rfl, Nat.le_of_ble_eq_true rfl⟩) rfl rfl (Nat.le_of_ble_eq_true rfl) dX7_column__156 ⟨Nat.zero_le _, Nat.zero_le _⟩) hS (fun v_43 I_37 R_38 J_39 AI_40 AJ_41 AR_42 H locs zv_43 hp_44 hH hS => ?_)
                        dsimp only at hp_44
                        obtain ⟨rfl, rfl, rfl, rfl, rfl, rfl, q_45⟩ := hp_44
                        refine lv_iload_n F.1 F.2.1 dX7_column__159 rfl (lv_at hl 9 rfl) ?_
                        refine z_iadd F dX7_column__160 ?_
                        have hx161 : 0 ≤ (v_43 + cl) ∧ (v_43 + cl) < ((126720 : Nat) : Int) ∧ (v_43 + cl) ≤ 2147483647 := ⟨by omega, by omega, by omega⟩
                        refine g_iald F hH r_20b hx161.1 hx161.2.1 hx161.2.2 dX7_column__161 ?_
                        refine z_name (fun v_46 ev_46 => ?_)
                        have zv_46 : zr v_46 := by rw [ev_46]; exact zr_t _
                        have c161 : v_46 = cvM (rfM gh AI 0 rr.toNat).2 cl.toNat jj.toNat := by unfold cvM; rw [rfM_2 (by omega) (by omega), ev_46]; congr 2; omega
                        refine lv_iload F.1 F.2.1 dX7_column__162 (lv_at hl 2 rfl) ?_
                        refine z_icmp_eq (tgt := 171) F dX7_column__164 (by decide) zv_46 zv_30 (fun c_47 => ?_) (fun c_47 => ?_)
                        · refine z_iconst F dX7_column__171 ?_
                          refine lv_istore (lv' := [(9, .int (iI 0)), (10, .int (iI jj)), (8, .int (iI v_30)), (7, .int (iI i)), (6, .int (iI un)), (5, .int (iI ms2)), (4, .int (iI le2)), (0, .ref mo), (1, .int (iI rr)), (2, .int (iI cl)), (3, .int (iI wh))]) F.1 F.2.1 dX7_column__172 hl (by decide) rfl (fun ls hl => ?_)
                          refine z_iinc (lv' := [(10, .int (iI (jj + 1))), (9, .int (iI 0)), (8, .int (iI v_30)), (7, .int (iI i)), (6, .int (iI un)), (5, .int (iI ms2)), (4, .int (iI le2)), (0, .ref mo), (1, .int (iI rr)), (2, .int (iI cl)), (3, .int (iI wh))]) F dX7_column__174 hl (k := 1) rfl (by decide) rfl (fun ls hl => ?_)
                          refine z_goto (tgt := 136) F dX7_column__177 (by decide) ?_
                          exact ih136 0 (jj + 1) H locs ls ⟨by decide, by decide⟩ ⟨by omega, by omega⟩ (by omega) (unI_n (by omega) (by omega) (by rw [← c161, ← c105]; omega)) (by omega) hH hS (lv_sub hl [0, 1, 2, 3, 4, 5, 6, 7, 8, 9, 10] rfl)
                        · refine z_iconst F dX7_column__167 ?_
                          refine z_goto (tgt := 172) F dX7_column__168 (by decide) ?_
                          refine lv_istore (lv' := [(9, .int (iI 1)), (10, .int (iI jj)), (8, .int (iI v_30)), (7, .int (iI i)), (6, .int (iI un)), (5, .int (iI ms2)), (4, .int (iI le2)), (0, .ref mo), (1, .int (iI rr)), (2, .int (iI cl)), (3, .int (iI wh))]) F.1 F.2.1 dX7_column__172 hl (by decide) rfl (fun ls hl => ?_)
                          refine z_iinc (lv' := [(10, .int (iI (jj + 1))), (9, .int (iI 1)), (8, .int (iI v_30)), (7, .int (iI i)), (6, .int (iI un)), (5, .int (iI ms2)), (4, .int (iI le2)), (0, .ref mo), (1, .int (iI rr)), (2, .int (iI cl)), (3, .int (iI wh))]) F dX7_column__174 hl (k := 1) rfl (by decide) rfl (fun ls hl => ?_)
                          refine z_goto (tgt := 136) F dX7_column__177 (by decide) ?_
                          exact ih136 1 (jj + 1) H locs ls ⟨by decide, by decide⟩ ⟨by omega, by omega⟩ (by omega) (unI_y hui (by omega) (by omega) (by rw [← c161, ← c105]; omega)) (by omega) hH hS (lv_sub hl [0, 1, 2, 3, 4, 5, 6, 7, 8, 9, 10] rfl)
                exact cut_136_32 (((i - 0) + 1 : Int).toNat) 1 0 H locs ls ⟨by decide, by decide⟩ ⟨by decide, by decide⟩ (by omega) unI_0 (by omega) hH hS (lv_sub hl [0, 1, 2, 3, 4, 5, 6, 7, 8, 9, 10] rfl)
              refine lv_iload F.1 F.2.1 dX7_column__119 (lv_at hl 0 rfl) ?_
              refine lv_iload F.1 F.2.1 dX7_column__121 (lv_at hl 3 rfl) ?_
              refine z_icmp_le (tgt := 130) F dX7_column__123 (by decide) zv_30 zmst (fun c_48 => ?_) (fun c_48 => ?_)
              · exact cut_130_31 mst H locs ls zmst (moI_k hmo (by rw [← c105]; omega)) hH hS (lv_sub hl [0, 1, 2, 3, 4, 5, 6, 7, 8] rfl)
              · refine lv_iload F.1 F.2.1 dX7_column__126 (lv_at hl 0 rfl) ?_
                refine lv_istore (lv' := [(5, .int (iI v_30)), (8, .int (iI v_30)), (7, .int (iI i)), (6, .int (iI un)), (4, .int (iI le2)), (0, .ref mo), (1, .int (iI rr)), (2, .int (iI cl)), (3, .int (iI wh))]) F.1 F.2.1 dX7_column__128 hl (by decide) rfl (fun ls hl => ?_)
                exact cut_130_31 v_30 H locs ls zv_30 (by rw [c105]; exact moI_n hmo (by rw [← c105]; omega)) hH hS (lv_sub hl [1, 2, 3, 0, 4, 5, 6, 7, 8] rfl)
            refine lv_iload F.1 F.2.1 dX7_column__108 (lv_at hl 0 rfl) ?_
            refine lv_iload F.1 F.2.1 dX7_column__110 (lv_at hl 4 rfl) ?_
            refine z_icmp_ge (tgt := 119) F dX7_column__112 (by decide) zv_30 zle (fun c_49 => ?_) (fun c_49 => ?_)
            · exact cut_119_30 le H locs ls zle (leI_k hle (by rw [← c105]; omega)) hH hS (lv_sub hl [0, 1, 2, 3, 4, 5, 6, 7, 8] rfl)
            · refine lv_iload F.1 F.2.1 dX7_column__115 (lv_at hl 0 rfl) ?_
              refine lv_istore (lv' := [(4, .int (iI v_30)), (8, .int (iI v_30)), (7, .int (iI i)), (6, .int (iI un)), (5, .int (iI mst)), (0, .ref mo), (1, .int (iI rr)), (2, .int (iI cl)), (3, .int (iI wh))]) F.1 F.2.1 dX7_column__117 hl (by decide) rfl (fun ls hl => ?_)
              exact cut_119_30 v_30 H locs ls zv_30 (by rw [c105]; exact leI_n hle (by rw [← c105]; omega)) hH hS (lv_sub hl [1, 2, 3, 4, 0, 5, 6, 7, 8] rfl)
      exact cut_81_5 (((120 - 0) + 1 : Int).toNat) 2147483647 (-2147483648) 0 0 H locs ls ⟨by decide, by decide⟩ ⟨by decide, by decide⟩ ⟨by decide, by decide⟩ ⟨by decide, by decide⟩ (by omega) leI_0 moI_0 ⟨rfl, by omega⟩ (by omega) hH hS (lv_sub hl [0, 1, 2, 3, 4, 5, 6, 7] rfl)
    · refine z_iconst F dX7_column__63 ?_
      exact g_iret F hr hlk hH hS hz ⟨by decide, by decide⟩ ⟨rfl, rfl, rfl, rfl, rfl, hv, nf, Or.inl ⟨by (try dsimp only); omega, rfl, (hcm.resolve_left (fun h9 => by have h8 := h9.1; omega)).2⟩⟩ dX7_column__64
  refine lv_aload_n F.1 F.2.1 dX7_column__1 rfl (lv_at hl 0 rfl) ?_
  refine lv_iload_n F.1 F.2.1 dX7_column__2 rfl (lv_at hl 1 rfl) ?_
  have b_50 := mJ hv hm
  unfold mNum1 at b_50
  refine g_calli (g_runV (As := [.int (iI rr)]) (rest := [.ref mo]) (ci := 7) F hl.1 hH hS hz (c_X7_isRelationf l g gh T I R J AI AJ AR mo rr zrr hv hm hT) (cwV 1 F.2.2.2.2.1 (good_up gT_X7_isRelation) rfl rfl rfl hdX7_isRelation ⟨Nat.le_of_ble_eq_true rfl, Nat.le_of_ble_eq_true rfl⟩) hm (by decide) rfl rfl rfl (Nat.le_of_ble_eq_true rfl) dX7_column__3 ⟨Nat.zero_le _, Nat.zero_le _⟩) hS (fun v_57 I_51 R_52 J_53 AI_54 AJ_55 AR_56 H locs zv_57 hp_58 hH hS => ?_)
  dsimp only at hp_58
  obtain ⟨rfl, rfl, rfl, rfl, rfl, rfl, q_59, qis⟩ := hp_58
  refine z_if_eq (tgt := 51) F dX7_column__6 (by decide) zv_57 (fun c_60 => ?_) (fun c_60 => ?_)
  · refine z_iconst F dX7_column__51 ?_
    exact cut_52_0 1 H locs ls ⟨by decide, by decide⟩ (by omega) (Or.inr ⟨rfl, fun h9 => by have h8 := h9.1; have h7 := qis (by omega); omega⟩) hH hS (lv_sub hl [0, 1, 2, 3] rfl)
  · refine lv_iload_n F.1 F.2.1 dX7_column__9 rfl (lv_at hl 2 rfl) ?_
    refine z_iconst F dX7_column__10 ?_
    have x := mRow hv hm hT (z := rr) (by omega) (by omega)
    have xa := x.1
    refine lv_aload_n F.1 F.2.1 dX7_column__11 rfl (lv_at hl 0 rfl) ?_
    refine lv_iload_n F.1 F.2.1 dX7_column__12 rfl (lv_at hl 1 rfl) ?_
    refine g_calli (g_runV (As := [.int (iI rr)]) (rest := [.int (iI 0), .int (iI cl), .ref mo]) (ci := 7) F hl.1 hH hS hz (c_X7_columnsOf l g gh T I R J AI AJ AR mo rr zrr hv hm hT (by omega)) (cwV 1 F.2.2.2.2.1 (good_up gT_X7_columnsOf) rfl rfl rfl hdX7_columnsOf ⟨Nat.le_of_ble_eq_true rfl, Nat.le_of_ble_eq_true rfl⟩) hm (by decide) rfl rfl rfl (Nat.le_of_ble_eq_true rfl) dX7_column__13 ⟨Nat.zero_le _, Nat.zero_le _⟩) hS (fun v_67 I_61 R_62 J_63 AI_64 AJ_65 AR_66 H locs zv_67 hp_68 hH hS => ?_)
    dsimp only at hp_68
    obtain ⟨rfl, rfl, rfl, rfl, rfl, rfl, qc13⟩ := hp_68
    refine z_iconst F dX7_column__16 ?_
    refine z_isub F dX7_column__17 ?_
    refine g_calli (g_runS (As := [.int (iI cl), .int (iI 0), .int (iI (v_67 - 1))]) (rest := [.ref mo]) F hl.1 hH hS hz (c_X7_within l g  I R J AI AJ AR cl 0 (v_67 - 1) zcl ⟨by decide, by decide⟩ ⟨by omega, by omega⟩) (va_cwS 3 F.2.2.2.2.1 (good_up gT_X7_within) rfl rfl rfl hdX7_within.2 ⟨Nat.le_of_ble_eq_true rfl, Nat.le_of_ble_eq_true rfl⟩) rfl rfl (Nat.le_of_ble_eq_true rfl) dX7_column__18 ⟨Nat.zero_le _, Nat.zero_le _⟩) hS (fun v_75 I_69 R_70 J_71 AI_72 AJ_73 AR_74 H locs zv_75 hp_76 hH hS => ?_)
    dsimp only at hp_76
    obtain ⟨rfl, rfl, rfl, rfl, rfl, rfl, qw18⟩ := hp_76
    refine z_if_eq (tgt := 51) F dX7_column__21 (by decide) zv_75 (fun c_77 => ?_) (fun c_77 => ?_)
    · refine z_iconst F dX7_column__51 ?_
      exact cut_52_0 1 H locs ls ⟨by decide, by decide⟩ (by omega) (Or.inr ⟨rfl, fun h9 => by have h8 := h9.2.1; rw [← qc13] at h8; omega⟩) hH hS (lv_sub hl [0, 1, 2, 3] rfl)
    · refine lv_iload_n F.1 F.2.1 dX7_column__24 rfl (lv_at hl 3 rfl) ?_
      refine z_iconst F dX7_column__25 ?_
      refine z_iconst F dX7_column__26 ?_
      refine g_calli (g_runS (As := [.int (iI wh), .int (iI 0), .int (iI 2)]) (rest := [.ref mo]) F hl.1 hH hS hz (c_X7_within l g  I R J AI AJ AR wh 0 2 zwh ⟨by decide, by decide⟩ ⟨by decide, by decide⟩) (va_cwS 3 F.2.2.2.2.1 (good_up gT_X7_within) rfl rfl rfl hdX7_within.2 ⟨Nat.le_of_ble_eq_true rfl, Nat.le_of_ble_eq_true rfl⟩) rfl rfl (Nat.le_of_ble_eq_true rfl) dX7_column__27 ⟨Nat.zero_le _, Nat.zero_le _⟩) hS (fun v_84 I_78 R_79 J_80 AI_81 AJ_82 AR_83 H locs zv_84 hp_85 hH hS => ?_)
      dsimp only at hp_85
      obtain ⟨rfl, rfl, rfl, rfl, rfl, rfl, qw27⟩ := hp_85
      refine z_if_eq (tgt := 51) F dX7_column__30 (by decide) zv_84 (fun c_86 => ?_) (fun c_86 => ?_)
      · refine z_iconst F dX7_column__51 ?_
        exact cut_52_0 1 H locs ls ⟨by decide, by decide⟩ (by omega) (Or.inr ⟨rfl, fun h9 => by have h8 := h9.2.2.1; omega⟩) hH hS (lv_sub hl [0, 1, 2, 3] rfl)
      · refine lv_iload_n F.1 F.2.1 dX7_column__33 rfl (lv_at hl 3 rfl) ?_
        refine z_iconst F dX7_column__34 ?_
        refine z_icmp_eq (tgt := 47) F dX7_column__35 (by decide) zwh ⟨by decide, by decide⟩ (fun c_87 => ?_) (fun c_87 => ?_)
        · refine z_iconst F dX7_column__47 ?_
          refine z_goto (tgt := 52) F dX7_column__48 (by decide) ?_
          exact cut_52_0 0 H locs ls ⟨by decide, by decide⟩ (by omega) (Or.inl ⟨rfl, ⟨by omega, by omega⟩, ⟨by omega, by omega⟩, ⟨by omega, by omega⟩, by omega⟩) hH hS (lv_sub hl [0, 1, 2, 3] rfl)
        · refine lv_aload_n F.1 F.2.1 dX7_column__38 rfl (lv_at hl 0 rfl) ?_
          refine z_iconst F dX7_column__39 ?_
          refine lv_iload_n F.1 F.2.1 dX7_column__40 rfl (lv_at hl 1 rfl) ?_
          refine g_calli (g_runV (As := [.int (iI 0), .int (iI rr)]) (rest := [.ref mo]) (ci := 7) F hl.1 hH hS hz (c_X7_sizeOf l g gh T I R J AI AJ AR mo 0 rr ⟨by decide, by decide⟩ zrr hv hm hT (by omega) (by omega)) (cwV 2 F.2.2.2.2.1 (good_up gT_X7_sizeOf) rfl rfl rfl hdX7_sizeOf ⟨Nat.le_of_ble_eq_true rfl, Nat.le_of_ble_eq_true rfl⟩) hm (by decide) rfl rfl rfl (Nat.le_of_ble_eq_true rfl) dX7_column__41 ⟨Nat.zero_le _, Nat.zero_le _⟩) hS (fun v_94 I_88 R_89 J_90 AI_91 AJ_92 AR_93 H locs zv_94 hp_95 hH hS => ?_)
          dsimp only at hp_95
          obtain ⟨rfl, rfl, rfl, rfl, rfl, rfl, q_96, qsz41⟩ := hp_95
          have hs41 : v_94 = (((rfM gh AI 0 rr.toNat).1 : Nat) : Int) := by rw [rfM_1 (by omega), qsz41]; unfold tI; have h8 := (mSz hv hm (z := 16 * 0 + rr) (by omega) (by omega)).1; omega
          refine z_if_le (tgt := 51) F dX7_column__44 (by decide) zv_94 (fun c_97 => ?_) (fun c_97 => ?_)
          · refine z_iconst F dX7_column__51 ?_
            exact cut_52_0 1 H locs ls ⟨by decide, by decide⟩ (by omega) (Or.inr ⟨rfl, fun h9 => by have h8 := h9.2.2.2; omega⟩) hH hS (lv_sub hl [0, 1, 2, 3] rfl)
          · refine z_iconst F dX7_column__47 ?_
            refine z_goto (tgt := 52) F dX7_column__48 (by decide) ?_
            exact cut_52_0 0 H locs ls ⟨by decide, by decide⟩ (by omega) (Or.inl ⟨rfl, ⟨by omega, by omega⟩, ⟨by omega, by omega⟩, ⟨by omega, by omega⟩, by omega⟩) hH hS (lv_sub hl [0, 1, 2, 3] rfl)
