theorem hdX7_moves : yX7_moves.cls = RX7 ∧ yX7_moves.cls ≠ "java/lang/invoke/MethodHandle" ∧ yX7_moves.cls ≠ "java/lang/invoke/VarHandle" ∧ (parseMethodDescriptor yX7_moves.desc).map (fun d => d.parameters.length) = some 2 := by decide +kernel
theorem hdX7_change : yX7_change.cls = RX7 ∧ yX7_change.cls ≠ "java/lang/invoke/MethodHandle" ∧ yX7_change.cls ≠ "java/lang/invoke/VarHandle" ∧ (parseMethodDescriptor yX7_change.desc).map (fun d => d.parameters.length) = some 6 := by decide +kernel
def rmX7_pending : Room := { frames := 1, cells := 0, slots := 0, locals := 22 }
theorem hdX7_pending : yX7_pending.cls = RX7 ∧ yX7_pending.cls ≠ "java/lang/invoke/MethodHandle" ∧ yX7_pending.cls ≠ "java/lang/invoke/VarHandle" ∧ (parseMethodDescriptor yX7_pending.desc).map (fun d => d.parameters.length) = some 2 := by decide +kernel
set_option maxHeartbeats 4000000 in
set_option maxRecDepth 100000 in
/-- pending -/
theorem c_X7_pending (l : Launch) (g : gG) (gh : gGh) (T : Nat → Int32) (I : gI) (R : gR) (J : gJ) (AI : gI) (AJ : gJ) (AR : gR) (mo : Nat) (ip : Int) (wh : Int) (zip : zr ip) (zwh : zr wh) (hv : mInv g gh R I AI) (hm : gO g mo 7) (hT : AI (gh 50 0) = T) : gMet l g yX7_pending tsX7_pending rmX7_pending [.ref mo, .int (iI ip), .int (iI wh)] (I, R, J, AI, AJ, AR) (gQi g (fun (z : Int) (w : gS) => R = w.2.1 ∧ J = w.2.2.1 ∧ AI = w.2.2.2.1 ∧ AJ = w.2.2.2.2.1 ∧ AR = w.2.2.2.2.2 ∧ (mInv g gh R (w.1) AI) ∧ (nF mo I (w.1)))) := by
  refine gStart (cc := cX7_pending) (maxL := 3) (ret := (some (.int))) (by decide) rfl (Nat.le_of_ble_eq_true rfl) ?_
  intro p e s m below meth c ls F hr hlk hH hz hS hl
  have hl : lv_has ls 3 [(0, .ref mo), (1, .int (iI ip)), (2, .int (iI wh))] := hl
  have hS : va_S (gA g) s.heap s.heap [] := hS
  obtain ⟨H, hHe⟩ : ∃ H : Heap, H = s.heap := ⟨_, rfl⟩
  obtain ⟨locs, hlo⟩ : ∃ k : List Loc, k = [] := ⟨_, rfl⟩
  have hH : gH g I R J AI AJ AR H := by rw [hHe]; exact hH
  have hS : va_S (gA g) s.heap H locs := by rw [hHe, hlo]; exact hS
  suffices hw : W p l e rmX7_pending s m ([.ref mo, .int (iI ip), .int (iI wh)] : List Value).toArray below meth c H locs 0 0 (MQ below (gQi g (fun (z : Int) (w : gS) => R = w.2.1 ∧ J = w.2.2.1 ∧ AI = w.2.2.2.1 ∧ AJ = w.2.2.2.2.1 ∧ AR = w.2.2.2.2.2 ∧ (mInv g gh R (w.1) AI) ∧ (nF mo I (w.1)))) ([.ref mo, .int (iI ip), .int (iI wh)] : List Value).toArray s 0 0 (gA g)) (F0 m 0 ls []) by
    rw [hHe, hlo] at hw; exact hw
  clear hHe hlo
  have nf : nF mo I I := nF_r
  have iX7 : ∀ w ∈ u_ws RX7 TX7 32, w ∈ tsX7_pending := fun w h => List.mem_cons_of_mem _ (inTB7 w h)
  have k60 : Cond.fieldLink RX7 60 (TX7 17).1 (TX7 17).2.1 (TX7 17).2.2.1 ∈ tsX7_pending := List.mem_cons_of_mem _ fl_60
  have k266 : Cond.fieldLink RX7 266 (TX7 14).1 (TX7 14).2.1 (TX7 14).2.2.1 ∈ tsX7_pending := List.mem_cons_of_mem _ fl_266
  have k30 : Cond.fieldLink RX7 30 (TX7 11).1 (TX7 11).2.1 (TX7 11).2.2.1 ∈ tsX7_pending := List.mem_cons_of_mem _ fl_30
  have k36 : Cond.fieldLink RX7 36 (TX7 13).1 (TX7 13).2.1 (TX7 13).2.2.1 ∈ tsX7_pending := List.mem_cons_of_mem _ fl_36
  have k33 : Cond.fieldLink RX7 33 (TX7 12).1 (TX7 12).2.1 (TX7 12).2.2.1 ∈ tsX7_pending := List.mem_cons_of_mem _ fl_33
  refine lv_aload_n F.1 F.2.1 dX7_pending_0 rfl (lv_at hl 0 rfl) ?_
  refine lv_iload_n F.1 F.2.1 dX7_pending_1 rfl (lv_at hl 2 rfl) ?_
  refine z_iconst F dX7_pending_2 ?_
  refine z_iconst F dX7_pending_3 ?_
  refine g_calli (g_runS (As := [.int (iI wh), .int (iI 0), .int (iI 5)]) (rest := [.ref mo]) F hl.1 hH hS hz (c_X7_within l g  I R J AI AJ AR wh 0 5 zwh ⟨by decide, by decide⟩ ⟨by decide, by decide⟩) (va_cwS 3 F.2.2.2.2.1 (good_up gT_X7_within) rfl rfl rfl hdX7_within.2 ⟨Nat.le_of_ble_eq_true rfl, Nat.le_of_ble_eq_true rfl⟩) rfl rfl (Nat.le_of_ble_eq_true rfl) dX7_pending_4 ⟨Nat.zero_le _, Nat.zero_le _⟩) hS (fun v_7 I_1 R_2 J_3 AI_4 AJ_5 AR_6 H locs zv_7 hp_8 hH hS => ?_)
  dsimp only at hp_8
  obtain ⟨rfl, rfl, rfl, rfl, rfl, rfl, q_9⟩ := hp_8
  refine z_if_eq (tgt := 14) F dX7_pending_7 (by decide) zv_7 (fun c_10 => ?_) (fun c_10 => ?_)
  · refine z_iconst F dX7_pending_14 ?_
    refine g_putI (ci := 7) (k := 17) F hH hS rfl (by decide) iX7 hm (by decide) tyX7 tyX7_ok nmX7 rfl rfl rfl k60 dX7_pending_15 (fun H locs hH hS => ?_)
    obtain ⟨I_11, eI_11⟩ : ∃ qQ, qQ = gup2 I mo 17 (iI (1)) := ⟨_, rfl⟩
    rw [← eI_11] at hH
    have kI_11 : ∀ b, b ≠ mo → I_11 b = I b := fun b hb => by rw [eI_11]; exact funext fun j => gup2_a _ _ hb
    have w_12 : (I_11 mo 17).toInt = 1 := by rw [eI_11, gup2_s]; exact iI_val ⟨by decide, by decide⟩
    have hv : mInv g gh R I_11 AI := by rw [eI_11]; exact mP17 hv hm
    have nf : nF mo I I_11 := nF_t nf (by rw [eI_11]; exact nF_p (by decide))
    have u_13_2 : (I_11 mo 2).toInt = (I mo 2).toInt := by rw [nf 2 (by decide) (by decide) (by decide) (by decide) (by decide)]
    have u_13_5 : (I_11 mo 5).toInt = (I mo 5).toInt := by rw [nf 5 (by decide) (by decide) (by decide) (by decide) (by decide)]
    have u_13_14 : (I_11 mo 14).toInt = (I mo 14).toInt := by rw [nf 14 (by decide) (by decide) (by decide) (by decide) (by decide)]
    have u_13_16 : (I_11 mo 16).toInt = (I mo 16).toInt := by rw [nf 16 (by decide) (by decide) (by decide) (by decide) (by decide)]
    have u_13_24 : (I_11 mo 24).toInt = (I mo 24).toInt := by rw [nf 24 (by decide) (by decide) (by decide) (by decide) (by decide)]
    refine lv_aload_n F.1 F.2.1 dX7_pending_18 rfl (lv_at hl 0 rfl) ?_
    refine g_getI (ci := 7) (k := 17) F hH rfl (by decide) iX7 hm (by decide) rfl k60 dX7_pending_19 ?_
    refine z_if_ne (tgt := 35) F dX7_pending_22 (by decide) (zr_t _) (fun c_14 => ?_) (fun c_14 => ?_)
    · refine lv_aload_n F.1 F.2.1 dX7_pending_35 rfl (lv_at hl 0 rfl) ?_
      refine g_getI (ci := 7) (k := 17) F hH rfl (by decide) iX7 hm (by decide) rfl k60 dX7_pending_36 ?_
      refine z_if_ne (tgt := 84) F dX7_pending_39 (by decide) (zr_t _) (fun c_15 => ?_) (fun c_15 => ?_)
      · refine lv_aload_n F.1 F.2.1 dX7_pending_84 rfl (lv_at hl 0 rfl) ?_
        refine g_getI (ci := 7) (k := 17) F hH rfl (by decide) iX7 hm (by decide) rfl k60 dX7_pending_85 ?_
        refine z_iconst F dX7_pending_88 ?_
        refine z_icmp_ne (tgt := 94) F dX7_pending_89 (by decide) (zr_t _) ⟨by decide, by decide⟩ (fun c_16 => ?_) (fun c_16 => ?_)
        · refine lv_iload_n F.1 F.2.1 dX7_pending_94 rfl (lv_at hl 2 rfl) ?_
          refine z_if_ne (tgt := 107) F dX7_pending_95 (by decide) zwh (fun c_17 => ?_) (fun c_17 => ?_)
          · refine lv_iload_n F.1 F.2.1 dX7_pending_107 rfl (lv_at hl 2 rfl) ?_
            refine z_iconst F dX7_pending_108 ?_
            refine z_icmp_ne (tgt := 121) F dX7_pending_109 (by decide) zwh ⟨by decide, by decide⟩ (fun c_18 => ?_) (fun c_18 => ?_)
            · refine lv_aload_n F.1 F.2.1 dX7_pending_121 rfl (lv_at hl 0 rfl) ?_
              obtain ⟨r_19a, r_19b⟩ : R mo 12 = some (gh 62 0) ∧ gAr g (gh 62 0) 9 164 := mR hv hm (q := (12, 164)) (by decide)
              refine g_getR (ci := 7) (k := 12) F hH rfl (by decide) iX7 hm (by decide) rfl (b := gh 62 0) r_19a k33 dX7_pending_122 ?_
              refine z_iconst F dX7_pending_125 ?_
              refine lv_iload_n F.1 F.2.1 dX7_pending_126 rfl (lv_at hl 1 rfl) ?_
              refine z_imul F dX7_pending_127 ?_
              refine lv_iload_n F.1 F.2.1 dX7_pending_128 rfl (lv_at hl 2 rfl) ?_
              refine z_iadd F dX7_pending_129 ?_
              refine z_iconst F dX7_pending_130 ?_
              refine z_isub F dX7_pending_131 ?_
              have hx132 : 0 ≤ (((4 * ip) + wh) - 1) ∧ (((4 * ip) + wh) - 1) < ((164 : Nat) : Int) ∧ (((4 * ip) + wh) - 1) ≤ 2147483647 := ⟨by omega, by omega, by omega⟩
              refine g_iald F hH r_19b hx132.1 hx132.2.1 hx132.2.2 dX7_pending_132 ?_
              refine z_name (fun v_20 ev_20 => ?_)
              have zv_20 : zr v_20 := by rw [ev_20]; exact zr_t _
              exact g_iret F hr hlk hH hS hz zv_20 ⟨rfl, rfl, rfl, rfl, rfl, hv, nf⟩ dX7_pending_133
            · refine lv_aload_n F.1 F.2.1 dX7_pending_112 rfl (lv_at hl 0 rfl) ?_
              obtain ⟨r_21a, r_21b⟩ : R mo 13 = some (gh 63 0) ∧ gAr g (gh 63 0) 9 41 := mR hv hm (q := (13, 41)) (by decide)
              refine g_getR (ci := 7) (k := 13) F hH rfl (by decide) iX7 hm (by decide) rfl (b := gh 63 0) r_21a k36 dX7_pending_113 ?_
              refine lv_iload_n F.1 F.2.1 dX7_pending_116 rfl (lv_at hl 1 rfl) ?_
              have hx117 : 0 ≤ ip ∧ ip < ((41 : Nat) : Int) ∧ ip ≤ 2147483647 := ⟨by omega, by omega, by omega⟩
              refine g_iald F hH r_21b hx117.1 hx117.2.1 hx117.2.2 dX7_pending_117 ?_
              refine z_name (fun v_22 ev_22 => ?_)
              have zv_22 : zr v_22 := by rw [ev_22]; exact zr_t _
              refine z_goto (tgt := 133) F dX7_pending_118 (by decide) ?_
              exact g_iret F hr hlk hH hS hz zv_22 ⟨rfl, rfl, rfl, rfl, rfl, hv, nf⟩ dX7_pending_133
          · refine lv_aload_n F.1 F.2.1 dX7_pending_98 rfl (lv_at hl 0 rfl) ?_
            obtain ⟨r_23a, r_23b⟩ : R mo 11 = some (gh 61 0) ∧ gAr g (gh 61 0) 9 41 := mR hv hm (q := (11, 41)) (by decide)
            refine g_getR (ci := 7) (k := 11) F hH rfl (by decide) iX7 hm (by decide) rfl (b := gh 61 0) r_23a k30 dX7_pending_99 ?_
            refine lv_iload_n F.1 F.2.1 dX7_pending_102 rfl (lv_at hl 1 rfl) ?_
            have hx103 : 0 ≤ ip ∧ ip < ((41 : Nat) : Int) ∧ ip ≤ 2147483647 := ⟨by omega, by omega, by omega⟩
            refine g_iald F hH r_23b hx103.1 hx103.2.1 hx103.2.2 dX7_pending_103 ?_
            refine z_name (fun v_24 ev_24 => ?_)
            have zv_24 : zr v_24 := by rw [ev_24]; exact zr_t _
            refine z_goto (tgt := 133) F dX7_pending_104 (by decide) ?_
            exact g_iret F hr hlk hH hS hz zv_24 ⟨rfl, rfl, rfl, rfl, rfl, hv, nf⟩ dX7_pending_133
        · refine z_iconst F dX7_pending_92 ?_
          exact g_iret F hr hlk hH hS hz ⟨by decide, by decide⟩ ⟨rfl, rfl, rfl, rfl, rfl, hv, nf⟩ dX7_pending_93
      · exact absurd trivial (by omega)
    · refine lv_iload_n F.1 F.2.1 dX7_pending_25 rfl (lv_at hl 1 rfl) ?_
      refine z_iconst F dX7_pending_26 ?_
      refine z_icmp_ne (tgt := 35) F dX7_pending_27 (by decide) zip ⟨by decide, by decide⟩ (fun c_25 => ?_) (fun c_25 => ?_)
      · refine lv_aload_n F.1 F.2.1 dX7_pending_35 rfl (lv_at hl 0 rfl) ?_
        refine g_getI (ci := 7) (k := 17) F hH rfl (by decide) iX7 hm (by decide) rfl k60 dX7_pending_36 ?_
        refine z_if_ne (tgt := 84) F dX7_pending_39 (by decide) (zr_t _) (fun c_26 => ?_) (fun c_26 => ?_)
        · exact absurd trivial (by omega)
        · refine lv_iload_n F.1 F.2.1 dX7_pending_42 rfl (lv_at hl 1 rfl) ?_
          refine z_iconst F dX7_pending_43 ?_
          refine lv_aload_n F.1 F.2.1 dX7_pending_44 rfl (lv_at hl 0 rfl) ?_
          refine g_getI (ci := 7) (k := 14) F hH rfl (by decide) iX7 hm (by decide) rfl k266 dX7_pending_45 ?_
          have b_27 := mJ hv hm
          unfold mNum1 at b_27
          refine z_iconst F dX7_pending_48 ?_
          refine z_isub F dX7_pending_49 ?_
          refine g_calli (g_runS (As := [.int (iI ip), .int (iI 0), .int (iI (((I_11 mo 14).toInt) - 1))]) (rest := []) F hl.1 hH hS hz (c_X7_within l g  I_11 R J AI AJ AR ip 0 (((I_11 mo 14).toInt) - 1) zip ⟨by decide, by decide⟩ ⟨by omega, by omega⟩) (va_cwS 3 F.2.2.2.2.1 (good_up gT_X7_within) rfl rfl rfl hdX7_within.2 ⟨Nat.le_of_ble_eq_true rfl, Nat.le_of_ble_eq_true rfl⟩) rfl rfl (Nat.le_of_ble_eq_true rfl) dX7_pending_50 ⟨Nat.zero_le _, Nat.zero_le _⟩) hS (fun v_34 I_28 R_29 J_30 AI_31 AJ_32 AR_33 H locs zv_34 hp_35 hH hS => ?_)
          dsimp only at hp_35
          obtain ⟨rfl, rfl, rfl, rfl, rfl, rfl, q_36⟩ := hp_35
          refine z_if_eq (tgt := 79) F dX7_pending_53 (by decide) zv_34 (fun c_37 => ?_) (fun c_37 => ?_)
          · refine lv_aload_n F.1 F.2.1 dX7_pending_79 rfl (lv_at hl 0 rfl) ?_
            refine z_iconst F dX7_pending_80 ?_
            refine g_putI (ci := 7) (k := 17) F hH hS rfl (by decide) iX7 hm (by decide) tyX7 tyX7_ok nmX7 rfl rfl rfl k60 dX7_pending_81 (fun H locs hH hS => ?_)
            obtain ⟨I_38, eI_38⟩ : ∃ qQ, qQ = gup2 I_11 mo 17 (iI (1)) := ⟨_, rfl⟩
            rw [← eI_38] at hH
            have kI_38 : ∀ b, b ≠ mo → I_38 b = I_11 b := fun b hb => by rw [eI_38]; exact funext fun j => gup2_a _ _ hb
            have w_39 : (I_38 mo 17).toInt = 1 := by rw [eI_38, gup2_s]; exact iI_val ⟨by decide, by decide⟩
            have hv : mInv g gh R I_38 AI := by rw [eI_38]; exact mP17 hv hm
            have nf : nF mo I I_38 := nF_t nf (by rw [eI_38]; exact nF_p (by decide))
            have u_40_2 : (I_38 mo 2).toInt = (I mo 2).toInt := by rw [nf 2 (by decide) (by decide) (by decide) (by decide) (by decide)]
            have u_40_5 : (I_38 mo 5).toInt = (I mo 5).toInt := by rw [nf 5 (by decide) (by decide) (by decide) (by decide) (by decide)]
            have u_40_14 : (I_38 mo 14).toInt = (I mo 14).toInt := by rw [nf 14 (by decide) (by decide) (by decide) (by decide) (by decide)]
            have u_40_16 : (I_38 mo 16).toInt = (I mo 16).toInt := by rw [nf 16 (by decide) (by decide) (by decide) (by decide) (by decide)]
            have u_40_24 : (I_38 mo 24).toInt = (I mo 24).toInt := by rw [nf 24 (by decide) (by decide) (by decide) (by decide) (by decide)]
            refine lv_aload_n F.1 F.2.1 dX7_pending_84 rfl (lv_at hl 0 rfl) ?_
            refine g_getI (ci := 7) (k := 17) F hH rfl (by decide) iX7 hm (by decide) rfl k60 dX7_pending_85 ?_
            refine z_iconst F dX7_pending_88 ?_
            refine z_icmp_ne (tgt := 94) F dX7_pending_89 (by decide) (zr_t _) ⟨by decide, by decide⟩ (fun c_41 => ?_) (fun c_41 => ?_)
            · refine lv_iload_n F.1 F.2.1 dX7_pending_94 rfl (lv_at hl 2 rfl) ?_
              refine z_if_ne (tgt := 107) F dX7_pending_95 (by decide) zwh (fun c_42 => ?_) (fun c_42 => ?_)
              · refine lv_iload_n F.1 F.2.1 dX7_pending_107 rfl (lv_at hl 2 rfl) ?_
                refine z_iconst F dX7_pending_108 ?_
                refine z_icmp_ne (tgt := 121) F dX7_pending_109 (by decide) zwh ⟨by decide, by decide⟩ (fun c_43 => ?_) (fun c_43 => ?_)
                · refine lv_aload_n F.1 F.2.1 dX7_pending_121 rfl (lv_at hl 0 rfl) ?_
                  obtain ⟨r_44a, r_44b⟩ : R mo 12 = some (gh 62 0) ∧ gAr g (gh 62 0) 9 164 := mR hv hm (q := (12, 164)) (by decide)
                  refine g_getR (ci := 7) (k := 12) F hH rfl (by decide) iX7 hm (by decide) rfl (b := gh 62 0) r_44a k33 dX7_pending_122 ?_
                  refine z_iconst F dX7_pending_125 ?_
                  refine lv_iload_n F.1 F.2.1 dX7_pending_126 rfl (lv_at hl 1 rfl) ?_
                  refine z_imul F dX7_pending_127 ?_
                  refine lv_iload_n F.1 F.2.1 dX7_pending_128 rfl (lv_at hl 2 rfl) ?_
                  refine z_iadd F dX7_pending_129 ?_
                  refine z_iconst F dX7_pending_130 ?_
                  refine z_isub F dX7_pending_131 ?_
                  have hx132 : 0 ≤ (((4 * ip) + wh) - 1) ∧ (((4 * ip) + wh) - 1) < ((164 : Nat) : Int) ∧ (((4 * ip) + wh) - 1) ≤ 2147483647 := ⟨by omega, by omega, by omega⟩
                  refine g_iald F hH r_44b hx132.1 hx132.2.1 hx132.2.2 dX7_pending_132 ?_
                  refine z_name (fun v_45 ev_45 => ?_)
                  have zv_45 : zr v_45 := by rw [ev_45]; exact zr_t _
                  exact g_iret F hr hlk hH hS hz zv_45 ⟨rfl, rfl, rfl, rfl, rfl, hv, nf⟩ dX7_pending_133
                · refine lv_aload_n F.1 F.2.1 dX7_pending_112 rfl (lv_at hl 0 rfl) ?_
                  obtain ⟨r_46a, r_46b⟩ : R mo 13 = some (gh 63 0) ∧ gAr g (gh 63 0) 9 41 := mR hv hm (q := (13, 41)) (by decide)
                  refine g_getR (ci := 7) (k := 13) F hH rfl (by decide) iX7 hm (by decide) rfl (b := gh 63 0) r_46a k36 dX7_pending_113 ?_
                  refine lv_iload_n F.1 F.2.1 dX7_pending_116 rfl (lv_at hl 1 rfl) ?_
                  have hx117 : 0 ≤ ip ∧ ip < ((41 : Nat) : Int) ∧ ip ≤ 2147483647 := ⟨by omega, by omega, by omega⟩
                  refine g_iald F hH r_46b hx117.1 hx117.2.1 hx117.2.2 dX7_pending_117 ?_
                  refine z_name (fun v_47 ev_47 => ?_)
                  have zv_47 : zr v_47 := by rw [ev_47]; exact zr_t _
                  refine z_goto (tgt := 133) F dX7_pending_118 (by decide) ?_
                  exact g_iret F hr hlk hH hS hz zv_47 ⟨rfl, rfl, rfl, rfl, rfl, hv, nf⟩ dX7_pending_133
              · refine lv_aload_n F.1 F.2.1 dX7_pending_98 rfl (lv_at hl 0 rfl) ?_
                obtain ⟨r_48a, r_48b⟩ : R mo 11 = some (gh 61 0) ∧ gAr g (gh 61 0) 9 41 := mR hv hm (q := (11, 41)) (by decide)
                refine g_getR (ci := 7) (k := 11) F hH rfl (by decide) iX7 hm (by decide) rfl (b := gh 61 0) r_48a k30 dX7_pending_99 ?_
                refine lv_iload_n F.1 F.2.1 dX7_pending_102 rfl (lv_at hl 1 rfl) ?_
                have hx103 : 0 ≤ ip ∧ ip < ((41 : Nat) : Int) ∧ ip ≤ 2147483647 := ⟨by omega, by omega, by omega⟩
                refine g_iald F hH r_48b hx103.1 hx103.2.1 hx103.2.2 dX7_pending_103 ?_
                refine z_name (fun v_49 ev_49 => ?_)
                have zv_49 : zr v_49 := by rw [ev_49]; exact zr_t _
                refine z_goto (tgt := 133) F dX7_pending_104 (by decide) ?_
                exact g_iret F hr hlk hH hS hz zv_49 ⟨rfl, rfl, rfl, rfl, rfl, hv, nf⟩ dX7_pending_133
            · refine z_iconst F dX7_pending_92 ?_
              exact g_iret F hr hlk hH hS hz ⟨by decide, by decide⟩ ⟨rfl, rfl, rfl, rfl, rfl, hv, nf⟩ dX7_pending_93
          · refine lv_iload_n F.1 F.2.1 dX7_pending_56 rfl (lv_at hl 2 rfl) ?_
            refine z_iconst F dX7_pending_57 ?_
            refine z_iconst F dX7_pending_58 ?_
            refine g_calli (g_runS (As := [.int (iI wh), .int (iI 1), .int (iI 4)]) (rest := []) F hl.1 hH hS hz (c_X7_within l g  I_11 R J AI AJ AR wh 1 4 zwh ⟨by decide, by decide⟩ ⟨by decide, by decide⟩) (va_cwS 3 F.2.2.2.2.1 (good_up gT_X7_within) rfl rfl rfl hdX7_within.2 ⟨Nat.le_of_ble_eq_true rfl, Nat.le_of_ble_eq_true rfl⟩) rfl rfl (Nat.le_of_ble_eq_true rfl) dX7_pending_59 ⟨Nat.zero_le _, Nat.zero_le _⟩) hS (fun v_56 I_50 R_51 J_52 AI_53 AJ_54 AR_55 H locs zv_56 hp_57 hH hS => ?_)
            dsimp only at hp_57
            obtain ⟨rfl, rfl, rfl, rfl, rfl, rfl, q_58⟩ := hp_57
            refine z_if_eq (tgt := 84) F dX7_pending_62 (by decide) zv_56 (fun c_59 => ?_) (fun c_59 => ?_)
            · refine lv_aload_n F.1 F.2.1 dX7_pending_84 rfl (lv_at hl 0 rfl) ?_
              refine g_getI (ci := 7) (k := 17) F hH rfl (by decide) iX7 hm (by decide) rfl k60 dX7_pending_85 ?_
              refine z_iconst F dX7_pending_88 ?_
              refine z_icmp_ne (tgt := 94) F dX7_pending_89 (by decide) (zr_t _) ⟨by decide, by decide⟩ (fun c_60 => ?_) (fun c_60 => ?_)
              · refine lv_iload_n F.1 F.2.1 dX7_pending_94 rfl (lv_at hl 2 rfl) ?_
                refine z_if_ne (tgt := 107) F dX7_pending_95 (by decide) zwh (fun c_61 => ?_) (fun c_61 => ?_)
                · refine lv_iload_n F.1 F.2.1 dX7_pending_107 rfl (lv_at hl 2 rfl) ?_
                  refine z_iconst F dX7_pending_108 ?_
                  refine z_icmp_ne (tgt := 121) F dX7_pending_109 (by decide) zwh ⟨by decide, by decide⟩ (fun c_62 => ?_) (fun c_62 => ?_)
                  · refine lv_aload_n F.1 F.2.1 dX7_pending_121 rfl (lv_at hl 0 rfl) ?_
                    obtain ⟨r_63a, r_63b⟩ : R mo 12 = some (gh 62 0) ∧ gAr g (gh 62 0) 9 164 := mR hv hm (q := (12, 164)) (by decide)
                    refine g_getR (ci := 7) (k := 12) F hH rfl (by decide) iX7 hm (by decide) rfl (b := gh 62 0) r_63a k33 dX7_pending_122 ?_
                    refine z_iconst F dX7_pending_125 ?_
                    refine lv_iload_n F.1 F.2.1 dX7_pending_126 rfl (lv_at hl 1 rfl) ?_
                    refine z_imul F dX7_pending_127 ?_
                    refine lv_iload_n F.1 F.2.1 dX7_pending_128 rfl (lv_at hl 2 rfl) ?_
                    refine z_iadd F dX7_pending_129 ?_
                    refine z_iconst F dX7_pending_130 ?_
                    refine z_isub F dX7_pending_131 ?_
                    have hx132 : 0 ≤ (((4 * ip) + wh) - 1) ∧ (((4 * ip) + wh) - 1) < ((164 : Nat) : Int) ∧ (((4 * ip) + wh) - 1) ≤ 2147483647 := ⟨by omega, by omega, by omega⟩
                    refine g_iald F hH r_63b hx132.1 hx132.2.1 hx132.2.2 dX7_pending_132 ?_
                    refine z_name (fun v_64 ev_64 => ?_)
                    have zv_64 : zr v_64 := by rw [ev_64]; exact zr_t _
                    exact g_iret F hr hlk hH hS hz zv_64 ⟨rfl, rfl, rfl, rfl, rfl, hv, nf⟩ dX7_pending_133
                  · refine lv_aload_n F.1 F.2.1 dX7_pending_112 rfl (lv_at hl 0 rfl) ?_
                    obtain ⟨r_65a, r_65b⟩ : R mo 13 = some (gh 63 0) ∧ gAr g (gh 63 0) 9 41 := mR hv hm (q := (13, 41)) (by decide)
                    refine g_getR (ci := 7) (k := 13) F hH rfl (by decide) iX7 hm (by decide) rfl (b := gh 63 0) r_65a k36 dX7_pending_113 ?_
                    refine lv_iload_n F.1 F.2.1 dX7_pending_116 rfl (lv_at hl 1 rfl) ?_
                    have hx117 : 0 ≤ ip ∧ ip < ((41 : Nat) : Int) ∧ ip ≤ 2147483647 := ⟨by omega, by omega, by omega⟩
                    refine g_iald F hH r_65b hx117.1 hx117.2.1 hx117.2.2 dX7_pending_117 ?_
                    refine z_name (fun v_66 ev_66 => ?_)
                    have zv_66 : zr v_66 := by rw [ev_66]; exact zr_t _
                    refine z_goto (tgt := 133) F dX7_pending_118 (by decide) ?_
                    exact g_iret F hr hlk hH hS hz zv_66 ⟨rfl, rfl, rfl, rfl, rfl, hv, nf⟩ dX7_pending_133
                · refine lv_aload_n F.1 F.2.1 dX7_pending_98 rfl (lv_at hl 0 rfl) ?_
                  obtain ⟨r_67a, r_67b⟩ : R mo 11 = some (gh 61 0) ∧ gAr g (gh 61 0) 9 41 := mR hv hm (q := (11, 41)) (by decide)
                  refine g_getR (ci := 7) (k := 11) F hH rfl (by decide) iX7 hm (by decide) rfl (b := gh 61 0) r_67a k30 dX7_pending_99 ?_
                  refine lv_iload_n F.1 F.2.1 dX7_pending_102 rfl (lv_at hl 1 rfl) ?_
                  have hx103 : 0 ≤ ip ∧ ip < ((41 : Nat) : Int) ∧ ip ≤ 2147483647 := ⟨by omega, by omega, by omega⟩
                  refine g_iald F hH r_67b hx103.1 hx103.2.1 hx103.2.2 dX7_pending_103 ?_
                  refine z_name (fun v_68 ev_68 => ?_)
                  have zv_68 : zr v_68 := by rw [ev_68]; exact zr_t _
                  refine z_goto (tgt := 133) F dX7_pending_104 (by decide) ?_
                  exact g_iret F hr hlk hH hS hz zv_68 ⟨rfl, rfl, rfl, rfl, rfl, hv, nf⟩ dX7_pending_133
              · refine z_iconst F dX7_pending_92 ?_
                exact g_iret F hr hlk hH hS hz ⟨by decide, by decide⟩ ⟨rfl, rfl, rfl, rfl, rfl, hv, nf⟩ dX7_pending_93
            · refine lv_iload_n F.1 F.2.1 dX7_pending_65 rfl (lv_at hl 2 rfl) ?_
              refine lv_aload_n F.1 F.2.1 dX7_pending_66 rfl (lv_at hl 0 rfl) ?_
              refine lv_aload_n F.1 F.2.1 dX7_pending_67 rfl (lv_at hl 0 rfl) ?_
              obtain ⟨r_69a, r_69b⟩ : R mo 11 = some (gh 61 0) ∧ gAr g (gh 61 0) 9 41 := mR hv hm (q := (11, 41)) (by decide)
              refine g_getR (ci := 7) (k := 11) F hH rfl (by decide) iX7 hm (by decide) rfl (b := gh 61 0) r_69a k30 dX7_pending_68 ?_
              refine lv_iload_n F.1 F.2.1 dX7_pending_71 rfl (lv_at hl 1 rfl) ?_
              have hx72 : 0 ≤ ip ∧ ip < ((41 : Nat) : Int) ∧ ip ≤ 2147483647 := ⟨by omega, by omega, by omega⟩
              refine g_iald F hH r_69b hx72.1 hx72.2.1 hx72.2.2 dX7_pending_72 ?_
              have q72 := mCt hv hm (z := ip) (by omega) (by omega)
              refine g_calli (g_runV (As := [.int (iI ((AI (gh 61 0) (ip).toNat).toInt))]) (rest := [.int (iI wh)]) (ci := 7) F hl.1 hH hS hz (c_X7_columnsOf l g gh T I_11 R J AI AJ AR mo ((AI (gh 61 0) (ip).toNat).toInt) (zr_t _) hv hm hT (by omega)) (cwV 1 F.2.2.2.2.1 (good_up gT_X7_columnsOf) rfl rfl rfl hdX7_columnsOf ⟨Nat.le_of_ble_eq_true rfl, Nat.le_of_ble_eq_true rfl⟩) hm (by decide) rfl rfl rfl (Nat.le_of_ble_eq_true rfl) dX7_pending_73 ⟨Nat.zero_le _, Nat.zero_le _⟩) hS (fun v_76 I_70 R_71 J_72 AI_73 AJ_74 AR_75 H locs zv_76 hp_77 hH hS => ?_)
              dsimp only at hp_77
              obtain ⟨rfl, rfl, rfl, rfl, rfl, rfl, q_78⟩ := hp_77
              refine z_icmp_le (tgt := 84) F dX7_pending_76 (by decide) zwh zv_76 (fun c_79 => ?_) (fun c_79 => ?_)
              · refine lv_aload_n F.1 F.2.1 dX7_pending_84 rfl (lv_at hl 0 rfl) ?_
                refine g_getI (ci := 7) (k := 17) F hH rfl (by decide) iX7 hm (by decide) rfl k60 dX7_pending_85 ?_
                refine z_iconst F dX7_pending_88 ?_
                refine z_icmp_ne (tgt := 94) F dX7_pending_89 (by decide) (zr_t _) ⟨by decide, by decide⟩ (fun c_80 => ?_) (fun c_80 => ?_)
                · refine lv_iload_n F.1 F.2.1 dX7_pending_94 rfl (lv_at hl 2 rfl) ?_
                  refine z_if_ne (tgt := 107) F dX7_pending_95 (by decide) zwh (fun c_81 => ?_) (fun c_81 => ?_)
                  · refine lv_iload_n F.1 F.2.1 dX7_pending_107 rfl (lv_at hl 2 rfl) ?_
                    refine z_iconst F dX7_pending_108 ?_
                    refine z_icmp_ne (tgt := 121) F dX7_pending_109 (by decide) zwh ⟨by decide, by decide⟩ (fun c_82 => ?_) (fun c_82 => ?_)
                    · refine lv_aload_n F.1 F.2.1 dX7_pending_121 rfl (lv_at hl 0 rfl) ?_
                      obtain ⟨r_83a, r_83b⟩ : R mo 12 = some (gh 62 0) ∧ gAr g (gh 62 0) 9 164 := mR hv hm (q := (12, 164)) (by decide)
                      refine g_getR (ci := 7) (k := 12) F hH rfl (by decide) iX7 hm (by decide) rfl (b := gh 62 0) r_83a k33 dX7_pending_122 ?_
                      refine z_iconst F dX7_pending_125 ?_
                      refine lv_iload_n F.1 F.2.1 dX7_pending_126 rfl (lv_at hl 1 rfl) ?_
                      refine z_imul F dX7_pending_127 ?_
                      refine lv_iload_n F.1 F.2.1 dX7_pending_128 rfl (lv_at hl 2 rfl) ?_
                      refine z_iadd F dX7_pending_129 ?_
                      refine z_iconst F dX7_pending_130 ?_
                      refine z_isub F dX7_pending_131 ?_
                      have hx132 : 0 ≤ (((4 * ip) + wh) - 1) ∧ (((4 * ip) + wh) - 1) < ((164 : Nat) : Int) ∧ (((4 * ip) + wh) - 1) ≤ 2147483647 := ⟨by omega, by omega, by omega⟩
                      refine g_iald F hH r_83b hx132.1 hx132.2.1 hx132.2.2 dX7_pending_132 ?_
                      refine z_name (fun v_84 ev_84 => ?_)
                      have zv_84 : zr v_84 := by rw [ev_84]; exact zr_t _
                      exact g_iret F hr hlk hH hS hz zv_84 ⟨rfl, rfl, rfl, rfl, rfl, hv, nf⟩ dX7_pending_133
                    · refine lv_aload_n F.1 F.2.1 dX7_pending_112 rfl (lv_at hl 0 rfl) ?_
                      obtain ⟨r_85a, r_85b⟩ : R mo 13 = some (gh 63 0) ∧ gAr g (gh 63 0) 9 41 := mR hv hm (q := (13, 41)) (by decide)
                      refine g_getR (ci := 7) (k := 13) F hH rfl (by decide) iX7 hm (by decide) rfl (b := gh 63 0) r_85a k36 dX7_pending_113 ?_
                      refine lv_iload_n F.1 F.2.1 dX7_pending_116 rfl (lv_at hl 1 rfl) ?_
                      have hx117 : 0 ≤ ip ∧ ip < ((41 : Nat) : Int) ∧ ip ≤ 2147483647 := ⟨by omega, by omega, by omega⟩
                      refine g_iald F hH r_85b hx117.1 hx117.2.1 hx117.2.2 dX7_pending_117 ?_
                      refine z_name (fun v_86 ev_86 => ?_)
                      have zv_86 : zr v_86 := by rw [ev_86]; exact zr_t _
                      refine z_goto (tgt := 133) F dX7_pending_118 (by decide) ?_
                      exact g_iret F hr hlk hH hS hz zv_86 ⟨rfl, rfl, rfl, rfl, rfl, hv, nf⟩ dX7_pending_133
                  · refine lv_aload_n F.1 F.2.1 dX7_pending_98 rfl (lv_at hl 0 rfl) ?_
                    refine g_getR (ci := 7) (k := 11) F hH rfl (by decide) iX7 hm (by decide) rfl (b := gh 61 0) r_69a k30 dX7_pending_99 ?_
                    refine lv_iload_n F.1 F.2.1 dX7_pending_102 rfl (lv_at hl 1 rfl) ?_
                    have hx103 : 0 ≤ ip ∧ ip < ((41 : Nat) : Int) ∧ ip ≤ 2147483647 := ⟨by omega, by omega, by omega⟩
                    refine g_iald F hH r_69b hx103.1 hx103.2.1 hx103.2.2 dX7_pending_103 ?_
                    refine z_name (fun v_87 ev_87 => ?_)
                    have zv_87 : zr v_87 := by rw [ev_87]; exact zr_t _
                    refine z_goto (tgt := 133) F dX7_pending_104 (by decide) ?_
                    exact g_iret F hr hlk hH hS hz zv_87 ⟨rfl, rfl, rfl, rfl, rfl, hv, nf⟩ dX7_pending_133
                · refine z_iconst F dX7_pending_92 ?_
                  exact g_iret F hr hlk hH hS hz ⟨by decide, by decide⟩ ⟨rfl, rfl, rfl, rfl, rfl, hv, nf⟩ dX7_pending_93
              · refine lv_aload_n F.1 F.2.1 dX7_pending_79 rfl (lv_at hl 0 rfl) ?_
                refine z_iconst F dX7_pending_80 ?_
                refine g_putI (ci := 7) (k := 17) F hH hS rfl (by decide) iX7 hm (by decide) tyX7 tyX7_ok nmX7 rfl rfl rfl k60 dX7_pending_81 (fun H locs hH hS => ?_)
                obtain ⟨I_88, eI_88⟩ : ∃ qQ, qQ = gup2 I_11 mo 17 (iI (1)) := ⟨_, rfl⟩
                rw [← eI_88] at hH
                have kI_88 : ∀ b, b ≠ mo → I_88 b = I_11 b := fun b hb => by rw [eI_88]; exact funext fun j => gup2_a _ _ hb
                have w_89 : (I_88 mo 17).toInt = 1 := by rw [eI_88, gup2_s]; exact iI_val ⟨by decide, by decide⟩
                have hv : mInv g gh R I_88 AI := by rw [eI_88]; exact mP17 hv hm
                have nf : nF mo I I_88 := nF_t nf (by rw [eI_88]; exact nF_p (by decide))
                have u_90_2 : (I_88 mo 2).toInt = (I mo 2).toInt := by rw [nf 2 (by decide) (by decide) (by decide) (by decide) (by decide)]
                have u_90_5 : (I_88 mo 5).toInt = (I mo 5).toInt := by rw [nf 5 (by decide) (by decide) (by decide) (by decide) (by decide)]
                have u_90_14 : (I_88 mo 14).toInt = (I mo 14).toInt := by rw [nf 14 (by decide) (by decide) (by decide) (by decide) (by decide)]
                have u_90_16 : (I_88 mo 16).toInt = (I mo 16).toInt := by rw [nf 16 (by decide) (by decide) (by decide) (by decide) (by decide)]
                have u_90_24 : (I_88 mo 24).toInt = (I mo 24).toInt := by rw [nf 24 (by decide) (by decide) (by decide) (by decide) (by decide)]
                refine lv_aload_n F.1 F.2.1 dX7_pending_84 rfl (lv_at hl 0 rfl) ?_
                refine g_getI (ci := 7) (k := 17) F hH rfl (by decide) iX7 hm (by decide) rfl k60 dX7_pending_85 ?_
                refine z_iconst F dX7_pending_88 ?_
                refine z_icmp_ne (tgt := 94) F dX7_pending_89 (by decide) (zr_t _) ⟨by decide, by decide⟩ (fun c_91 => ?_) (fun c_91 => ?_)
                · refine lv_iload_n F.1 F.2.1 dX7_pending_94 rfl (lv_at hl 2 rfl) ?_
                  refine z_if_ne (tgt := 107) F dX7_pending_95 (by decide) zwh (fun c_92 => ?_) (fun c_92 => ?_)
                  · refine lv_iload_n F.1 F.2.1 dX7_pending_107 rfl (lv_at hl 2 rfl) ?_
                    refine z_iconst F dX7_pending_108 ?_
                    refine z_icmp_ne (tgt := 121) F dX7_pending_109 (by decide) zwh ⟨by decide, by decide⟩ (fun c_93 => ?_) (fun c_93 => ?_)
                    · refine lv_aload_n F.1 F.2.1 dX7_pending_121 rfl (lv_at hl 0 rfl) ?_
                      obtain ⟨r_94a, r_94b⟩ : R mo 12 = some (gh 62 0) ∧ gAr g (gh 62 0) 9 164 := mR hv hm (q := (12, 164)) (by decide)
                      refine g_getR (ci := 7) (k := 12) F hH rfl (by decide) iX7 hm (by decide) rfl (b := gh 62 0) r_94a k33 dX7_pending_122 ?_
                      refine z_iconst F dX7_pending_125 ?_
                      refine lv_iload_n F.1 F.2.1 dX7_pending_126 rfl (lv_at hl 1 rfl) ?_
                      refine z_imul F dX7_pending_127 ?_
                      refine lv_iload_n F.1 F.2.1 dX7_pending_128 rfl (lv_at hl 2 rfl) ?_
                      refine z_iadd F dX7_pending_129 ?_
                      refine z_iconst F dX7_pending_130 ?_
                      refine z_isub F dX7_pending_131 ?_
                      have hx132 : 0 ≤ (((4 * ip) + wh) - 1) ∧ (((4 * ip) + wh) - 1) < ((164 : Nat) : Int) ∧ (((4 * ip) + wh) - 1) ≤ 2147483647 := ⟨by omega, by omega, by omega⟩
                      refine g_iald F hH r_94b hx132.1 hx132.2.1 hx132.2.2 dX7_pending_132 ?_
                      refine z_name (fun v_95 ev_95 => ?_)
                      have zv_95 : zr v_95 := by rw [ev_95]; exact zr_t _
                      exact g_iret F hr hlk hH hS hz zv_95 ⟨rfl, rfl, rfl, rfl, rfl, hv, nf⟩ dX7_pending_133
                    · refine lv_aload_n F.1 F.2.1 dX7_pending_112 rfl (lv_at hl 0 rfl) ?_
                      obtain ⟨r_96a, r_96b⟩ : R mo 13 = some (gh 63 0) ∧ gAr g (gh 63 0) 9 41 := mR hv hm (q := (13, 41)) (by decide)
                      refine g_getR (ci := 7) (k := 13) F hH rfl (by decide) iX7 hm (by decide) rfl (b := gh 63 0) r_96a k36 dX7_pending_113 ?_
                      refine lv_iload_n F.1 F.2.1 dX7_pending_116 rfl (lv_at hl 1 rfl) ?_
                      have hx117 : 0 ≤ ip ∧ ip < ((41 : Nat) : Int) ∧ ip ≤ 2147483647 := ⟨by omega, by omega, by omega⟩
                      refine g_iald F hH r_96b hx117.1 hx117.2.1 hx117.2.2 dX7_pending_117 ?_
                      refine z_name (fun v_97 ev_97 => ?_)
                      have zv_97 : zr v_97 := by rw [ev_97]; exact zr_t _
                      refine z_goto (tgt := 133) F dX7_pending_118 (by decide) ?_
                      exact g_iret F hr hlk hH hS hz zv_97 ⟨rfl, rfl, rfl, rfl, rfl, hv, nf⟩ dX7_pending_133
                  · refine lv_aload_n F.1 F.2.1 dX7_pending_98 rfl (lv_at hl 0 rfl) ?_
                    refine g_getR (ci := 7) (k := 11) F hH rfl (by decide) iX7 hm (by decide) rfl (b := gh 61 0) r_69a k30 dX7_pending_99 ?_
                    refine lv_iload_n F.1 F.2.1 dX7_pending_102 rfl (lv_at hl 1 rfl) ?_
                    have hx103 : 0 ≤ ip ∧ ip < ((41 : Nat) : Int) ∧ ip ≤ 2147483647 := ⟨by omega, by omega, by omega⟩
                    refine g_iald F hH r_69b hx103.1 hx103.2.1 hx103.2.2 dX7_pending_103 ?_
                    refine z_name (fun v_98 ev_98 => ?_)
                    have zv_98 : zr v_98 := by rw [ev_98]; exact zr_t _
                    refine z_goto (tgt := 133) F dX7_pending_104 (by decide) ?_
                    exact g_iret F hr hlk hH hS hz zv_98 ⟨rfl, rfl, rfl, rfl, rfl, hv, nf⟩ dX7_pending_133
                · refine z_iconst F dX7_pending_92 ?_
                  exact g_iret F hr hlk hH hS hz ⟨by decide, by decide⟩ ⟨rfl, rfl, rfl, rfl, rfl, hv, nf⟩ dX7_pending_93
      · refine lv_aload_n F.1 F.2.1 dX7_pending_30 rfl (lv_at hl 0 rfl) ?_
        refine g_getI (ci := 7) (k := 14) F hH rfl (by decide) iX7 hm (by decide) rfl k266 dX7_pending_31 ?_
        have b_99 := mJ hv hm
        unfold mNum1 at b_99
        exact g_iret F hr hlk hH hS hz (zr_t _) ⟨rfl, rfl, rfl, rfl, rfl, hv, nf⟩ dX7_pending_34
  · refine z_iconst F dX7_pending_10 ?_
    refine z_goto (tgt := 15) F dX7_pending_11 (by decide) ?_
    refine g_putI (ci := 7) (k := 17) F hH hS rfl (by decide) iX7 hm (by decide) tyX7 tyX7_ok nmX7 rfl rfl rfl k60 dX7_pending_15 (fun H locs hH hS => ?_)
    obtain ⟨I_100, eI_100⟩ : ∃ qQ, qQ = gup2 I mo 17 (iI (0)) := ⟨_, rfl⟩
    rw [← eI_100] at hH
    have kI_100 : ∀ b, b ≠ mo → I_100 b = I b := fun b hb => by rw [eI_100]; exact funext fun j => gup2_a _ _ hb
    have w_101 : (I_100 mo 17).toInt = 0 := by rw [eI_100, gup2_s]; exact iI_val ⟨by decide, by decide⟩
    have hv : mInv g gh R I_100 AI := by rw [eI_100]; exact mP17 hv hm
    have nf : nF mo I I_100 := nF_t nf (by rw [eI_100]; exact nF_p (by decide))
    have u_102_2 : (I_100 mo 2).toInt = (I mo 2).toInt := by rw [nf 2 (by decide) (by decide) (by decide) (by decide) (by decide)]
    have u_102_5 : (I_100 mo 5).toInt = (I mo 5).toInt := by rw [nf 5 (by decide) (by decide) (by decide) (by decide) (by decide)]
    have u_102_14 : (I_100 mo 14).toInt = (I mo 14).toInt := by rw [nf 14 (by decide) (by decide) (by decide) (by decide) (by decide)]
    have u_102_16 : (I_100 mo 16).toInt = (I mo 16).toInt := by rw [nf 16 (by decide) (by decide) (by decide) (by decide) (by decide)]
    have u_102_24 : (I_100 mo 24).toInt = (I mo 24).toInt := by rw [nf 24 (by decide) (by decide) (by decide) (by decide) (by decide)]
    refine lv_aload_n F.1 F.2.1 dX7_pending_18 rfl (lv_at hl 0 rfl) ?_
    refine g_getI (ci := 7) (k := 17) F hH rfl (by decide) iX7 hm (by decide) rfl k60 dX7_pending_19 ?_
    refine z_if_ne (tgt := 35) F dX7_pending_22 (by decide) (zr_t _) (fun c_103 => ?_) (fun c_103 => ?_)
    · refine lv_aload_n F.1 F.2.1 dX7_pending_35 rfl (lv_at hl 0 rfl) ?_
      refine g_getI (ci := 7) (k := 17) F hH rfl (by decide) iX7 hm (by decide) rfl k60 dX7_pending_36 ?_
      refine z_if_ne (tgt := 84) F dX7_pending_39 (by decide) (zr_t _) (fun c_104 => ?_) (fun c_104 => ?_)
      · refine lv_aload_n F.1 F.2.1 dX7_pending_84 rfl (lv_at hl 0 rfl) ?_
        refine g_getI (ci := 7) (k := 17) F hH rfl (by decide) iX7 hm (by decide) rfl k60 dX7_pending_85 ?_
        refine z_iconst F dX7_pending_88 ?_
        refine z_icmp_ne (tgt := 94) F dX7_pending_89 (by decide) (zr_t _) ⟨by decide, by decide⟩ (fun c_105 => ?_) (fun c_105 => ?_)
        · refine lv_iload_n F.1 F.2.1 dX7_pending_94 rfl (lv_at hl 2 rfl) ?_
          refine z_if_ne (tgt := 107) F dX7_pending_95 (by decide) zwh (fun c_106 => ?_) (fun c_106 => ?_)
          · refine lv_iload_n F.1 F.2.1 dX7_pending_107 rfl (lv_at hl 2 rfl) ?_
            refine z_iconst F dX7_pending_108 ?_
            refine z_icmp_ne (tgt := 121) F dX7_pending_109 (by decide) zwh ⟨by decide, by decide⟩ (fun c_107 => ?_) (fun c_107 => ?_)
            · refine lv_aload_n F.1 F.2.1 dX7_pending_121 rfl (lv_at hl 0 rfl) ?_
              obtain ⟨r_108a, r_108b⟩ : R mo 12 = some (gh 62 0) ∧ gAr g (gh 62 0) 9 164 := mR hv hm (q := (12, 164)) (by decide)
              refine g_getR (ci := 7) (k := 12) F hH rfl (by decide) iX7 hm (by decide) rfl (b := gh 62 0) r_108a k33 dX7_pending_122 ?_
              refine z_iconst F dX7_pending_125 ?_
              refine lv_iload_n F.1 F.2.1 dX7_pending_126 rfl (lv_at hl 1 rfl) ?_
              refine z_imul F dX7_pending_127 ?_
              refine lv_iload_n F.1 F.2.1 dX7_pending_128 rfl (lv_at hl 2 rfl) ?_
              refine z_iadd F dX7_pending_129 ?_
              refine z_iconst F dX7_pending_130 ?_
              refine z_isub F dX7_pending_131 ?_
              have hx132 : 0 ≤ (((4 * ip) + wh) - 1) ∧ (((4 * ip) + wh) - 1) < ((164 : Nat) : Int) ∧ (((4 * ip) + wh) - 1) ≤ 2147483647 := ⟨by omega, by omega, by omega⟩
              refine g_iald F hH r_108b hx132.1 hx132.2.1 hx132.2.2 dX7_pending_132 ?_
              refine z_name (fun v_109 ev_109 => ?_)
              have zv_109 : zr v_109 := by rw [ev_109]; exact zr_t _
              exact g_iret F hr hlk hH hS hz zv_109 ⟨rfl, rfl, rfl, rfl, rfl, hv, nf⟩ dX7_pending_133
            · refine lv_aload_n F.1 F.2.1 dX7_pending_112 rfl (lv_at hl 0 rfl) ?_
              obtain ⟨r_110a, r_110b⟩ : R mo 13 = some (gh 63 0) ∧ gAr g (gh 63 0) 9 41 := mR hv hm (q := (13, 41)) (by decide)
              refine g_getR (ci := 7) (k := 13) F hH rfl (by decide) iX7 hm (by decide) rfl (b := gh 63 0) r_110a k36 dX7_pending_113 ?_
              refine lv_iload_n F.1 F.2.1 dX7_pending_116 rfl (lv_at hl 1 rfl) ?_
              have hx117 : 0 ≤ ip ∧ ip < ((41 : Nat) : Int) ∧ ip ≤ 2147483647 := ⟨by omega, by omega, by omega⟩
              refine g_iald F hH r_110b hx117.1 hx117.2.1 hx117.2.2 dX7_pending_117 ?_
              refine z_name (fun v_111 ev_111 => ?_)
              have zv_111 : zr v_111 := by rw [ev_111]; exact zr_t _
              refine z_goto (tgt := 133) F dX7_pending_118 (by decide) ?_
              exact g_iret F hr hlk hH hS hz zv_111 ⟨rfl, rfl, rfl, rfl, rfl, hv, nf⟩ dX7_pending_133
          · refine lv_aload_n F.1 F.2.1 dX7_pending_98 rfl (lv_at hl 0 rfl) ?_
            obtain ⟨r_112a, r_112b⟩ : R mo 11 = some (gh 61 0) ∧ gAr g (gh 61 0) 9 41 := mR hv hm (q := (11, 41)) (by decide)
            refine g_getR (ci := 7) (k := 11) F hH rfl (by decide) iX7 hm (by decide) rfl (b := gh 61 0) r_112a k30 dX7_pending_99 ?_
            refine lv_iload_n F.1 F.2.1 dX7_pending_102 rfl (lv_at hl 1 rfl) ?_
            have hx103 : 0 ≤ ip ∧ ip < ((41 : Nat) : Int) ∧ ip ≤ 2147483647 := ⟨by omega, by omega, by omega⟩
            refine g_iald F hH r_112b hx103.1 hx103.2.1 hx103.2.2 dX7_pending_103 ?_
            refine z_name (fun v_113 ev_113 => ?_)
            have zv_113 : zr v_113 := by rw [ev_113]; exact zr_t _
            refine z_goto (tgt := 133) F dX7_pending_104 (by decide) ?_
            exact g_iret F hr hlk hH hS hz zv_113 ⟨rfl, rfl, rfl, rfl, rfl, hv, nf⟩ dX7_pending_133
        · refine z_iconst F dX7_pending_92 ?_
          exact g_iret F hr hlk hH hS hz ⟨by decide, by decide⟩ ⟨rfl, rfl, rfl, rfl, rfl, hv, nf⟩ dX7_pending_93
      · exact absurd trivial (by omega)
    · refine lv_iload_n F.1 F.2.1 dX7_pending_25 rfl (lv_at hl 1 rfl) ?_
      refine z_iconst F dX7_pending_26 ?_
      refine z_icmp_ne (tgt := 35) F dX7_pending_27 (by decide) zip ⟨by decide, by decide⟩ (fun c_114 => ?_) (fun c_114 => ?_)
      · refine lv_aload_n F.1 F.2.1 dX7_pending_35 rfl (lv_at hl 0 rfl) ?_
        refine g_getI (ci := 7) (k := 17) F hH rfl (by decide) iX7 hm (by decide) rfl k60 dX7_pending_36 ?_
        refine z_if_ne (tgt := 84) F dX7_pending_39 (by decide) (zr_t _) (fun c_115 => ?_) (fun c_115 => ?_)
        · exact absurd trivial (by omega)
        · refine lv_iload_n F.1 F.2.1 dX7_pending_42 rfl (lv_at hl 1 rfl) ?_
          refine z_iconst F dX7_pending_43 ?_
          refine lv_aload_n F.1 F.2.1 dX7_pending_44 rfl (lv_at hl 0 rfl) ?_
          refine g_getI (ci := 7) (k := 14) F hH rfl (by decide) iX7 hm (by decide) rfl k266 dX7_pending_45 ?_
          have b_116 := mJ hv hm
          unfold mNum1 at b_116
          refine z_iconst F dX7_pending_48 ?_
          refine z_isub F dX7_pending_49 ?_
          refine g_calli (g_runS (As := [.int (iI ip), .int (iI 0), .int (iI (((I_100 mo 14).toInt) - 1))]) (rest := []) F hl.1 hH hS hz (c_X7_within l g  I_100 R J AI AJ AR ip 0 (((I_100 mo 14).toInt) - 1) zip ⟨by decide, by decide⟩ ⟨by omega, by omega⟩) (va_cwS 3 F.2.2.2.2.1 (good_up gT_X7_within) rfl rfl rfl hdX7_within.2 ⟨Nat.le_of_ble_eq_true rfl, Nat.le_of_ble_eq_true rfl⟩) rfl rfl (Nat.le_of_ble_eq_true rfl) dX7_pending_50 ⟨Nat.zero_le _, Nat.zero_le _⟩) hS (fun v_123 I_117 R_118 J_119 AI_120 AJ_121 AR_122 H locs zv_123 hp_124 hH hS => ?_)
          dsimp only at hp_124
          obtain ⟨rfl, rfl, rfl, rfl, rfl, rfl, q_125⟩ := hp_124
          refine z_if_eq (tgt := 79) F dX7_pending_53 (by decide) zv_123 (fun c_126 => ?_) (fun c_126 => ?_)
          · refine lv_aload_n F.1 F.2.1 dX7_pending_79 rfl (lv_at hl 0 rfl) ?_
            refine z_iconst F dX7_pending_80 ?_
            refine g_putI (ci := 7) (k := 17) F hH hS rfl (by decide) iX7 hm (by decide) tyX7 tyX7_ok nmX7 rfl rfl rfl k60 dX7_pending_81 (fun H locs hH hS => ?_)
            obtain ⟨I_127, eI_127⟩ : ∃ qQ, qQ = gup2 I_100 mo 17 (iI (1)) := ⟨_, rfl⟩
            rw [← eI_127] at hH
            have kI_127 : ∀ b, b ≠ mo → I_127 b = I_100 b := fun b hb => by rw [eI_127]; exact funext fun j => gup2_a _ _ hb
            have w_128 : (I_127 mo 17).toInt = 1 := by rw [eI_127, gup2_s]; exact iI_val ⟨by decide, by decide⟩
            have hv : mInv g gh R I_127 AI := by rw [eI_127]; exact mP17 hv hm
            have nf : nF mo I I_127 := nF_t nf (by rw [eI_127]; exact nF_p (by decide))
            have u_129_2 : (I_127 mo 2).toInt = (I mo 2).toInt := by rw [nf 2 (by decide) (by decide) (by decide) (by decide) (by decide)]
            have u_129_5 : (I_127 mo 5).toInt = (I mo 5).toInt := by rw [nf 5 (by decide) (by decide) (by decide) (by decide) (by decide)]
            have u_129_14 : (I_127 mo 14).toInt = (I mo 14).toInt := by rw [nf 14 (by decide) (by decide) (by decide) (by decide) (by decide)]
            have u_129_16 : (I_127 mo 16).toInt = (I mo 16).toInt := by rw [nf 16 (by decide) (by decide) (by decide) (by decide) (by decide)]
            have u_129_24 : (I_127 mo 24).toInt = (I mo 24).toInt := by rw [nf 24 (by decide) (by decide) (by decide) (by decide) (by decide)]
            refine lv_aload_n F.1 F.2.1 dX7_pending_84 rfl (lv_at hl 0 rfl) ?_
            refine g_getI (ci := 7) (k := 17) F hH rfl (by decide) iX7 hm (by decide) rfl k60 dX7_pending_85 ?_
            refine z_iconst F dX7_pending_88 ?_
            refine z_icmp_ne (tgt := 94) F dX7_pending_89 (by decide) (zr_t _) ⟨by decide, by decide⟩ (fun c_130 => ?_) (fun c_130 => ?_)
            · refine lv_iload_n F.1 F.2.1 dX7_pending_94 rfl (lv_at hl 2 rfl) ?_
              refine z_if_ne (tgt := 107) F dX7_pending_95 (by decide) zwh (fun c_131 => ?_) (fun c_131 => ?_)
              · refine lv_iload_n F.1 F.2.1 dX7_pending_107 rfl (lv_at hl 2 rfl) ?_
                refine z_iconst F dX7_pending_108 ?_
                refine z_icmp_ne (tgt := 121) F dX7_pending_109 (by decide) zwh ⟨by decide, by decide⟩ (fun c_132 => ?_) (fun c_132 => ?_)
                · refine lv_aload_n F.1 F.2.1 dX7_pending_121 rfl (lv_at hl 0 rfl) ?_
                  obtain ⟨r_133a, r_133b⟩ : R mo 12 = some (gh 62 0) ∧ gAr g (gh 62 0) 9 164 := mR hv hm (q := (12, 164)) (by decide)
                  refine g_getR (ci := 7) (k := 12) F hH rfl (by decide) iX7 hm (by decide) rfl (b := gh 62 0) r_133a k33 dX7_pending_122 ?_
                  refine z_iconst F dX7_pending_125 ?_
                  refine lv_iload_n F.1 F.2.1 dX7_pending_126 rfl (lv_at hl 1 rfl) ?_
                  refine z_imul F dX7_pending_127 ?_
                  refine lv_iload_n F.1 F.2.1 dX7_pending_128 rfl (lv_at hl 2 rfl) ?_
                  refine z_iadd F dX7_pending_129 ?_
                  refine z_iconst F dX7_pending_130 ?_
                  refine z_isub F dX7_pending_131 ?_
                  have hx132 : 0 ≤ (((4 * ip) + wh) - 1) ∧ (((4 * ip) + wh) - 1) < ((164 : Nat) : Int) ∧ (((4 * ip) + wh) - 1) ≤ 2147483647 := ⟨by omega, by omega, by omega⟩
                  refine g_iald F hH r_133b hx132.1 hx132.2.1 hx132.2.2 dX7_pending_132 ?_
                  refine z_name (fun v_134 ev_134 => ?_)
                  have zv_134 : zr v_134 := by rw [ev_134]; exact zr_t _
                  exact g_iret F hr hlk hH hS hz zv_134 ⟨rfl, rfl, rfl, rfl, rfl, hv, nf⟩ dX7_pending_133
                · refine lv_aload_n F.1 F.2.1 dX7_pending_112 rfl (lv_at hl 0 rfl) ?_
                  obtain ⟨r_135a, r_135b⟩ : R mo 13 = some (gh 63 0) ∧ gAr g (gh 63 0) 9 41 := mR hv hm (q := (13, 41)) (by decide)
                  refine g_getR (ci := 7) (k := 13) F hH rfl (by decide) iX7 hm (by decide) rfl (b := gh 63 0) r_135a k36 dX7_pending_113 ?_
                  refine lv_iload_n F.1 F.2.1 dX7_pending_116 rfl (lv_at hl 1 rfl) ?_
                  have hx117 : 0 ≤ ip ∧ ip < ((41 : Nat) : Int) ∧ ip ≤ 2147483647 := ⟨by omega, by omega, by omega⟩
                  refine g_iald F hH r_135b hx117.1 hx117.2.1 hx117.2.2 dX7_pending_117 ?_
                  refine z_name (fun v_136 ev_136 => ?_)
                  have zv_136 : zr v_136 := by rw [ev_136]; exact zr_t _
                  refine z_goto (tgt := 133) F dX7_pending_118 (by decide) ?_
                  exact g_iret F hr hlk hH hS hz zv_136 ⟨rfl, rfl, rfl, rfl, rfl, hv, nf⟩ dX7_pending_133
              · refine lv_aload_n F.1 F.2.1 dX7_pending_98 rfl (lv_at hl 0 rfl) ?_
                obtain ⟨r_137a, r_137b⟩ : R mo 11 = some (gh 61 0) ∧ gAr g (gh 61 0) 9 41 := mR hv hm (q := (11, 41)) (by decide)
                refine g_getR (ci := 7) (k := 11) F hH rfl (by decide) iX7 hm (by decide) rfl (b := gh 61 0) r_137a k30 dX7_pending_99 ?_
                refine lv_iload_n F.1 F.2.1 dX7_pending_102 rfl (lv_at hl 1 rfl) ?_
                have hx103 : 0 ≤ ip ∧ ip < ((41 : Nat) : Int) ∧ ip ≤ 2147483647 := ⟨by omega, by omega, by omega⟩
                refine g_iald F hH r_137b hx103.1 hx103.2.1 hx103.2.2 dX7_pending_103 ?_
                refine z_name (fun v_138 ev_138 => ?_)
                have zv_138 : zr v_138 := by rw [ev_138]; exact zr_t _
                refine z_goto (tgt := 133) F dX7_pending_104 (by decide) ?_
                exact g_iret F hr hlk hH hS hz zv_138 ⟨rfl, rfl, rfl, rfl, rfl, hv, nf⟩ dX7_pending_133
            · refine z_iconst F dX7_pending_92 ?_
              exact g_iret F hr hlk hH hS hz ⟨by decide, by decide⟩ ⟨rfl, rfl, rfl, rfl, rfl, hv, nf⟩ dX7_pending_93
          · refine lv_iload_n F.1 F.2.1 dX7_pending_56 rfl (lv_at hl 2 rfl) ?_
            refine z_iconst F dX7_pending_57 ?_
            refine z_iconst F dX7_pending_58 ?_
            refine g_calli (g_runS (As := [.int (iI wh), .int (iI 1), .int (iI 4)]) (rest := []) F hl.1 hH hS hz (c_X7_within l g  I_100 R J AI AJ AR wh 1 4 zwh ⟨by decide, by decide⟩ ⟨by decide, by decide⟩) (va_cwS 3 F.2.2.2.2.1 (good_up gT_X7_within) rfl rfl rfl hdX7_within.2 ⟨Nat.le_of_ble_eq_true rfl, Nat.le_of_ble_eq_true rfl⟩) rfl rfl (Nat.le_of_ble_eq_true rfl) dX7_pending_59 ⟨Nat.zero_le _, Nat.zero_le _⟩) hS (fun v_145 I_139 R_140 J_141 AI_142 AJ_143 AR_144 H locs zv_145 hp_146 hH hS => ?_)
            dsimp only at hp_146
            obtain ⟨rfl, rfl, rfl, rfl, rfl, rfl, q_147⟩ := hp_146
            refine z_if_eq (tgt := 84) F dX7_pending_62 (by decide) zv_145 (fun c_148 => ?_) (fun c_148 => ?_)
            · refine lv_aload_n F.1 F.2.1 dX7_pending_84 rfl (lv_at hl 0 rfl) ?_
              refine g_getI (ci := 7) (k := 17) F hH rfl (by decide) iX7 hm (by decide) rfl k60 dX7_pending_85 ?_
              refine z_iconst F dX7_pending_88 ?_
              refine z_icmp_ne (tgt := 94) F dX7_pending_89 (by decide) (zr_t _) ⟨by decide, by decide⟩ (fun c_149 => ?_) (fun c_149 => ?_)
              · refine lv_iload_n F.1 F.2.1 dX7_pending_94 rfl (lv_at hl 2 rfl) ?_
                refine z_if_ne (tgt := 107) F dX7_pending_95 (by decide) zwh (fun c_150 => ?_) (fun c_150 => ?_)
                · refine lv_iload_n F.1 F.2.1 dX7_pending_107 rfl (lv_at hl 2 rfl) ?_
                  refine z_iconst F dX7_pending_108 ?_
                  refine z_icmp_ne (tgt := 121) F dX7_pending_109 (by decide) zwh ⟨by decide, by decide⟩ (fun c_151 => ?_) (fun c_151 => ?_)
                  · refine lv_aload_n F.1 F.2.1 dX7_pending_121 rfl (lv_at hl 0 rfl) ?_
                    obtain ⟨r_152a, r_152b⟩ : R mo 12 = some (gh 62 0) ∧ gAr g (gh 62 0) 9 164 := mR hv hm (q := (12, 164)) (by decide)
                    refine g_getR (ci := 7) (k := 12) F hH rfl (by decide) iX7 hm (by decide) rfl (b := gh 62 0) r_152a k33 dX7_pending_122 ?_
                    refine z_iconst F dX7_pending_125 ?_
                    refine lv_iload_n F.1 F.2.1 dX7_pending_126 rfl (lv_at hl 1 rfl) ?_
                    refine z_imul F dX7_pending_127 ?_
                    refine lv_iload_n F.1 F.2.1 dX7_pending_128 rfl (lv_at hl 2 rfl) ?_
                    refine z_iadd F dX7_pending_129 ?_
                    refine z_iconst F dX7_pending_130 ?_
                    refine z_isub F dX7_pending_131 ?_
                    have hx132 : 0 ≤ (((4 * ip) + wh) - 1) ∧ (((4 * ip) + wh) - 1) < ((164 : Nat) : Int) ∧ (((4 * ip) + wh) - 1) ≤ 2147483647 := ⟨by omega, by omega, by omega⟩
                    refine g_iald F hH r_152b hx132.1 hx132.2.1 hx132.2.2 dX7_pending_132 ?_
                    refine z_name (fun v_153 ev_153 => ?_)
                    have zv_153 : zr v_153 := by rw [ev_153]; exact zr_t _
                    exact g_iret F hr hlk hH hS hz zv_153 ⟨rfl, rfl, rfl, rfl, rfl, hv, nf⟩ dX7_pending_133
                  · refine lv_aload_n F.1 F.2.1 dX7_pending_112 rfl (lv_at hl 0 rfl) ?_
                    obtain ⟨r_154a, r_154b⟩ : R mo 13 = some (gh 63 0) ∧ gAr g (gh 63 0) 9 41 := mR hv hm (q := (13, 41)) (by decide)
                    refine g_getR (ci := 7) (k := 13) F hH rfl (by decide) iX7 hm (by decide) rfl (b := gh 63 0) r_154a k36 dX7_pending_113 ?_
                    refine lv_iload_n F.1 F.2.1 dX7_pending_116 rfl (lv_at hl 1 rfl) ?_
                    have hx117 : 0 ≤ ip ∧ ip < ((41 : Nat) : Int) ∧ ip ≤ 2147483647 := ⟨by omega, by omega, by omega⟩
                    refine g_iald F hH r_154b hx117.1 hx117.2.1 hx117.2.2 dX7_pending_117 ?_
                    refine z_name (fun v_155 ev_155 => ?_)
                    have zv_155 : zr v_155 := by rw [ev_155]; exact zr_t _
                    refine z_goto (tgt := 133) F dX7_pending_118 (by decide) ?_
                    exact g_iret F hr hlk hH hS hz zv_155 ⟨rfl, rfl, rfl, rfl, rfl, hv, nf⟩ dX7_pending_133
                · refine lv_aload_n F.1 F.2.1 dX7_pending_98 rfl (lv_at hl 0 rfl) ?_
                  obtain ⟨r_156a, r_156b⟩ : R mo 11 = some (gh 61 0) ∧ gAr g (gh 61 0) 9 41 := mR hv hm (q := (11, 41)) (by decide)
                  refine g_getR (ci := 7) (k := 11) F hH rfl (by decide) iX7 hm (by decide) rfl (b := gh 61 0) r_156a k30 dX7_pending_99 ?_
                  refine lv_iload_n F.1 F.2.1 dX7_pending_102 rfl (lv_at hl 1 rfl) ?_
                  have hx103 : 0 ≤ ip ∧ ip < ((41 : Nat) : Int) ∧ ip ≤ 2147483647 := ⟨by omega, by omega, by omega⟩
                  refine g_iald F hH r_156b hx103.1 hx103.2.1 hx103.2.2 dX7_pending_103 ?_
                  refine z_name (fun v_157 ev_157 => ?_)
                  have zv_157 : zr v_157 := by rw [ev_157]; exact zr_t _
                  refine z_goto (tgt := 133) F dX7_pending_104 (by decide) ?_
                  exact g_iret F hr hlk hH hS hz zv_157 ⟨rfl, rfl, rfl, rfl, rfl, hv, nf⟩ dX7_pending_133
              · refine z_iconst F dX7_pending_92 ?_
                exact g_iret F hr hlk hH hS hz ⟨by decide, by decide⟩ ⟨rfl, rfl, rfl, rfl, rfl, hv, nf⟩ dX7_pending_93
            · refine lv_iload_n F.1 F.2.1 dX7_pending_65 rfl (lv_at hl 2 rfl) ?_
              refine lv_aload_n F.1 F.2.1 dX7_pending_66 rfl (lv_at hl 0 rfl) ?_
              refine lv_aload_n F.1 F.2.1 dX7_pending_67 rfl (lv_at hl 0 rfl) ?_
              obtain ⟨r_158a, r_158b⟩ : R mo 11 = some (gh 61 0) ∧ gAr g (gh 61 0) 9 41 := mR hv hm (q := (11, 41)) (by decide)
              refine g_getR (ci := 7) (k := 11) F hH rfl (by decide) iX7 hm (by decide) rfl (b := gh 61 0) r_158a k30 dX7_pending_68 ?_
              refine lv_iload_n F.1 F.2.1 dX7_pending_71 rfl (lv_at hl 1 rfl) ?_
              have hx72 : 0 ≤ ip ∧ ip < ((41 : Nat) : Int) ∧ ip ≤ 2147483647 := ⟨by omega, by omega, by omega⟩
              refine g_iald F hH r_158b hx72.1 hx72.2.1 hx72.2.2 dX7_pending_72 ?_
              have q72 := mCt hv hm (z := ip) (by omega) (by omega)
              refine g_calli (g_runV (As := [.int (iI ((AI (gh 61 0) (ip).toNat).toInt))]) (rest := [.int (iI wh)]) (ci := 7) F hl.1 hH hS hz (c_X7_columnsOf l g gh T I_100 R J AI AJ AR mo ((AI (gh 61 0) (ip).toNat).toInt) (zr_t _) hv hm hT (by omega)) (cwV 1 F.2.2.2.2.1 (good_up gT_X7_columnsOf) rfl rfl rfl hdX7_columnsOf ⟨Nat.le_of_ble_eq_true rfl, Nat.le_of_ble_eq_true rfl⟩) hm (by decide) rfl rfl rfl (Nat.le_of_ble_eq_true rfl) dX7_pending_73 ⟨Nat.zero_le _, Nat.zero_le _⟩) hS (fun v_165 I_159 R_160 J_161 AI_162 AJ_163 AR_164 H locs zv_165 hp_166 hH hS => ?_)
              dsimp only at hp_166
              obtain ⟨rfl, rfl, rfl, rfl, rfl, rfl, q_167⟩ := hp_166
              refine z_icmp_le (tgt := 84) F dX7_pending_76 (by decide) zwh zv_165 (fun c_168 => ?_) (fun c_168 => ?_)
              · refine lv_aload_n F.1 F.2.1 dX7_pending_84 rfl (lv_at hl 0 rfl) ?_
                refine g_getI (ci := 7) (k := 17) F hH rfl (by decide) iX7 hm (by decide) rfl k60 dX7_pending_85 ?_
                refine z_iconst F dX7_pending_88 ?_
                refine z_icmp_ne (tgt := 94) F dX7_pending_89 (by decide) (zr_t _) ⟨by decide, by decide⟩ (fun c_169 => ?_) (fun c_169 => ?_)
                · refine lv_iload_n F.1 F.2.1 dX7_pending_94 rfl (lv_at hl 2 rfl) ?_
                  refine z_if_ne (tgt := 107) F dX7_pending_95 (by decide) zwh (fun c_170 => ?_) (fun c_170 => ?_)
                  · refine lv_iload_n F.1 F.2.1 dX7_pending_107 rfl (lv_at hl 2 rfl) ?_
                    refine z_iconst F dX7_pending_108 ?_
                    refine z_icmp_ne (tgt := 121) F dX7_pending_109 (by decide) zwh ⟨by decide, by decide⟩ (fun c_171 => ?_) (fun c_171 => ?_)
                    · refine lv_aload_n F.1 F.2.1 dX7_pending_121 rfl (lv_at hl 0 rfl) ?_
                      obtain ⟨r_172a, r_172b⟩ : R mo 12 = some (gh 62 0) ∧ gAr g (gh 62 0) 9 164 := mR hv hm (q := (12, 164)) (by decide)
                      refine g_getR (ci := 7) (k := 12) F hH rfl (by decide) iX7 hm (by decide) rfl (b := gh 62 0) r_172a k33 dX7_pending_122 ?_
                      refine z_iconst F dX7_pending_125 ?_
                      refine lv_iload_n F.1 F.2.1 dX7_pending_126 rfl (lv_at hl 1 rfl) ?_
                      refine z_imul F dX7_pending_127 ?_
                      refine lv_iload_n F.1 F.2.1 dX7_pending_128 rfl (lv_at hl 2 rfl) ?_
                      refine z_iadd F dX7_pending_129 ?_
                      refine z_iconst F dX7_pending_130 ?_
                      refine z_isub F dX7_pending_131 ?_
                      have hx132 : 0 ≤ (((4 * ip) + wh) - 1) ∧ (((4 * ip) + wh) - 1) < ((164 : Nat) : Int) ∧ (((4 * ip) + wh) - 1) ≤ 2147483647 := ⟨by omega, by omega, by omega⟩
                      refine g_iald F hH r_172b hx132.1 hx132.2.1 hx132.2.2 dX7_pending_132 ?_
                      refine z_name (fun v_173 ev_173 => ?_)
                      have zv_173 : zr v_173 := by rw [ev_173]; exact zr_t _
                      exact g_iret F hr hlk hH hS hz zv_173 ⟨rfl, rfl, rfl, rfl, rfl, hv, nf⟩ dX7_pending_133
                    · refine lv_aload_n F.1 F.2.1 dX7_pending_112 rfl (lv_at hl 0 rfl) ?_
                      obtain ⟨r_174a, r_174b⟩ : R mo 13 = some (gh 63 0) ∧ gAr g (gh 63 0) 9 41 := mR hv hm (q := (13, 41)) (by decide)
                      refine g_getR (ci := 7) (k := 13) F hH rfl (by decide) iX7 hm (by decide) rfl (b := gh 63 0) r_174a k36 dX7_pending_113 ?_
                      refine lv_iload_n F.1 F.2.1 dX7_pending_116 rfl (lv_at hl 1 rfl) ?_
                      have hx117 : 0 ≤ ip ∧ ip < ((41 : Nat) : Int) ∧ ip ≤ 2147483647 := ⟨by omega, by omega, by omega⟩
                      refine g_iald F hH r_174b hx117.1 hx117.2.1 hx117.2.2 dX7_pending_117 ?_
                      refine z_name (fun v_175 ev_175 => ?_)
                      have zv_175 : zr v_175 := by rw [ev_175]; exact zr_t _
                      refine z_goto (tgt := 133) F dX7_pending_118 (by decide) ?_
                      exact g_iret F hr hlk hH hS hz zv_175 ⟨rfl, rfl, rfl, rfl, rfl, hv, nf⟩ dX7_pending_133
                  · refine lv_aload_n F.1 F.2.1 dX7_pending_98 rfl (lv_at hl 0 rfl) ?_
                    refine g_getR (ci := 7) (k := 11) F hH rfl (by decide) iX7 hm (by decide) rfl (b := gh 61 0) r_158a k30 dX7_pending_99 ?_
                    refine lv_iload_n F.1 F.2.1 dX7_pending_102 rfl (lv_at hl 1 rfl) ?_
                    have hx103 : 0 ≤ ip ∧ ip < ((41 : Nat) : Int) ∧ ip ≤ 2147483647 := ⟨by omega, by omega, by omega⟩
                    refine g_iald F hH r_158b hx103.1 hx103.2.1 hx103.2.2 dX7_pending_103 ?_
                    refine z_name (fun v_176 ev_176 => ?_)
                    have zv_176 : zr v_176 := by rw [ev_176]; exact zr_t _
                    refine z_goto (tgt := 133) F dX7_pending_104 (by decide) ?_
                    exact g_iret F hr hlk hH hS hz zv_176 ⟨rfl, rfl, rfl, rfl, rfl, hv, nf⟩ dX7_pending_133
                · refine z_iconst F dX7_pending_92 ?_
                  exact g_iret F hr hlk hH hS hz ⟨by decide, by decide⟩ ⟨rfl, rfl, rfl, rfl, rfl, hv, nf⟩ dX7_pending_93
              · refine lv_aload_n F.1 F.2.1 dX7_pending_79 rfl (lv_at hl 0 rfl) ?_
                refine z_iconst F dX7_pending_80 ?_
                refine g_putI (ci := 7) (k := 17) F hH hS rfl (by decide) iX7 hm (by decide) tyX7 tyX7_ok nmX7 rfl rfl rfl k60 dX7_pending_81 (fun H locs hH hS => ?_)
                obtain ⟨I_177, eI_177⟩ : ∃ qQ, qQ = gup2 I_100 mo 17 (iI (1)) := ⟨_, rfl⟩
                rw [← eI_177] at hH
                have kI_177 : ∀ b, b ≠ mo → I_177 b = I_100 b := fun b hb => by rw [eI_177]; exact funext fun j => gup2_a _ _ hb
                have w_178 : (I_177 mo 17).toInt = 1 := by rw [eI_177, gup2_s]; exact iI_val ⟨by decide, by decide⟩
                have hv : mInv g gh R I_177 AI := by rw [eI_177]; exact mP17 hv hm
                have nf : nF mo I I_177 := nF_t nf (by rw [eI_177]; exact nF_p (by decide))
                have u_179_2 : (I_177 mo 2).toInt = (I mo 2).toInt := by rw [nf 2 (by decide) (by decide) (by decide) (by decide) (by decide)]
                have u_179_5 : (I_177 mo 5).toInt = (I mo 5).toInt := by rw [nf 5 (by decide) (by decide) (by decide) (by decide) (by decide)]
                have u_179_14 : (I_177 mo 14).toInt = (I mo 14).toInt := by rw [nf 14 (by decide) (by decide) (by decide) (by decide) (by decide)]
                have u_179_16 : (I_177 mo 16).toInt = (I mo 16).toInt := by rw [nf 16 (by decide) (by decide) (by decide) (by decide) (by decide)]
                have u_179_24 : (I_177 mo 24).toInt = (I mo 24).toInt := by rw [nf 24 (by decide) (by decide) (by decide) (by decide) (by decide)]
                refine lv_aload_n F.1 F.2.1 dX7_pending_84 rfl (lv_at hl 0 rfl) ?_
                refine g_getI (ci := 7) (k := 17) F hH rfl (by decide) iX7 hm (by decide) rfl k60 dX7_pending_85 ?_
                refine z_iconst F dX7_pending_88 ?_
                refine z_icmp_ne (tgt := 94) F dX7_pending_89 (by decide) (zr_t _) ⟨by decide, by decide⟩ (fun c_180 => ?_) (fun c_180 => ?_)
                · refine lv_iload_n F.1 F.2.1 dX7_pending_94 rfl (lv_at hl 2 rfl) ?_
                  refine z_if_ne (tgt := 107) F dX7_pending_95 (by decide) zwh (fun c_181 => ?_) (fun c_181 => ?_)
                  · refine lv_iload_n F.1 F.2.1 dX7_pending_107 rfl (lv_at hl 2 rfl) ?_
                    refine z_iconst F dX7_pending_108 ?_
                    refine z_icmp_ne (tgt := 121) F dX7_pending_109 (by decide) zwh ⟨by decide, by decide⟩ (fun c_182 => ?_) (fun c_182 => ?_)
                    · refine lv_aload_n F.1 F.2.1 dX7_pending_121 rfl (lv_at hl 0 rfl) ?_
                      obtain ⟨r_183a, r_183b⟩ : R mo 12 = some (gh 62 0) ∧ gAr g (gh 62 0) 9 164 := mR hv hm (q := (12, 164)) (by decide)
                      refine g_getR (ci := 7) (k := 12) F hH rfl (by decide) iX7 hm (by decide) rfl (b := gh 62 0) r_183a k33 dX7_pending_122 ?_
                      refine z_iconst F dX7_pending_125 ?_
                      refine lv_iload_n F.1 F.2.1 dX7_pending_126 rfl (lv_at hl 1 rfl) ?_
                      refine z_imul F dX7_pending_127 ?_
                      refine lv_iload_n F.1 F.2.1 dX7_pending_128 rfl (lv_at hl 2 rfl) ?_
                      refine z_iadd F dX7_pending_129 ?_
                      refine z_iconst F dX7_pending_130 ?_
                      refine z_isub F dX7_pending_131 ?_
                      have hx132 : 0 ≤ (((4 * ip) + wh) - 1) ∧ (((4 * ip) + wh) - 1) < ((164 : Nat) : Int) ∧ (((4 * ip) + wh) - 1) ≤ 2147483647 := ⟨by omega, by omega, by omega⟩
                      refine g_iald F hH r_183b hx132.1 hx132.2.1 hx132.2.2 dX7_pending_132 ?_
                      refine z_name (fun v_184 ev_184 => ?_)
                      have zv_184 : zr v_184 := by rw [ev_184]; exact zr_t _
                      exact g_iret F hr hlk hH hS hz zv_184 ⟨rfl, rfl, rfl, rfl, rfl, hv, nf⟩ dX7_pending_133
                    · refine lv_aload_n F.1 F.2.1 dX7_pending_112 rfl (lv_at hl 0 rfl) ?_
                      obtain ⟨r_185a, r_185b⟩ : R mo 13 = some (gh 63 0) ∧ gAr g (gh 63 0) 9 41 := mR hv hm (q := (13, 41)) (by decide)
                      refine g_getR (ci := 7) (k := 13) F hH rfl (by decide) iX7 hm (by decide) rfl (b := gh 63 0) r_185a k36 dX7_pending_113 ?_
                      refine lv_iload_n F.1 F.2.1 dX7_pending_116 rfl (lv_at hl 1 rfl) ?_
                      have hx117 : 0 ≤ ip ∧ ip < ((41 : Nat) : Int) ∧ ip ≤ 2147483647 := ⟨by omega, by omega, by omega⟩
                      refine g_iald F hH r_185b hx117.1 hx117.2.1 hx117.2.2 dX7_pending_117 ?_
                      refine z_name (fun v_186 ev_186 => ?_)
                      have zv_186 : zr v_186 := by rw [ev_186]; exact zr_t _
                      refine z_goto (tgt := 133) F dX7_pending_118 (by decide) ?_
                      exact g_iret F hr hlk hH hS hz zv_186 ⟨rfl, rfl, rfl, rfl, rfl, hv, nf⟩ dX7_pending_133
                  · refine lv_aload_n F.1 F.2.1 dX7_pending_98 rfl (lv_at hl 0 rfl) ?_
                    refine g_getR (ci := 7) (k := 11) F hH rfl (by decide) iX7 hm (by decide) rfl (b := gh 61 0) r_158a k30 dX7_pending_99 ?_
                    refine lv_iload_n F.1 F.2.1 dX7_pending_102 rfl (lv_at hl 1 rfl) ?_
                    have hx103 : 0 ≤ ip ∧ ip < ((41 : Nat) : Int) ∧ ip ≤ 2147483647 := ⟨by omega, by omega, by omega⟩
                    refine g_iald F hH r_158b hx103.1 hx103.2.1 hx103.2.2 dX7_pending_103 ?_
                    refine z_name (fun v_187 ev_187 => ?_)
                    have zv_187 : zr v_187 := by rw [ev_187]; exact zr_t _
                    refine z_goto (tgt := 133) F dX7_pending_104 (by decide) ?_
                    exact g_iret F hr hlk hH hS hz zv_187 ⟨rfl, rfl, rfl, rfl, rfl, hv, nf⟩ dX7_pending_133
                · refine z_iconst F dX7_pending_92 ?_
                  exact g_iret F hr hlk hH hS hz ⟨by decide, by decide⟩ ⟨rfl, rfl, rfl, rfl, rfl, hv, nf⟩ dX7_pending_93
      · refine lv_aload_n F.1 F.2.1 dX7_pending_30 rfl (lv_at hl 0 rfl) ?_
        refine g_getI (ci := 7) (k := 14) F hH rfl (by decide) iX7 hm (by decide) rfl k266 dX7_pending_31 ?_
        have b_188 := mJ hv hm
        unfold mNum1 at b_188
        exact g_iret F hr hlk hH hS hz (zr_t _) ⟨rfl, rfl, rfl, rfl, rfl, hv, nf⟩ dX7_pending_34

def rmX7_cancel : Room := { frames := 0, cells := 0, slots := 0, locals := 0 }
theorem hdX7_cancel : yX7_cancel.cls = RX7 ∧ yX7_cancel.cls ≠ "java/lang/invoke/MethodHandle" ∧ yX7_cancel.cls ≠ "java/lang/invoke/VarHandle" ∧ (parseMethodDescriptor yX7_cancel.desc).map (fun d => d.parameters.length) = some 0 := by decide +kernel
set_option maxHeartbeats 4000000 in
set_option maxRecDepth 100000 in
/-- cancel -/
theorem c_X7_cancel (l : Launch) (g : gG) (gh : gGh) (T : Nat → Int32) (I : gI) (R : gR) (J : gJ) (AI : gI) (AJ : gJ) (AR : gR) (mo : Nat) (hv : mInv g gh R I AI) (hm : gO g mo 7) (hT : AI (gh 50 0) = T) : gMet l g yX7_cancel tsX7_cancel rmX7_cancel [.ref mo] (I, R, J, AI, AJ, AR) (gQi g (fun (z : Int) (w : gS) => R = w.2.1 ∧ J = w.2.2.1 ∧ AI = w.2.2.2.1 ∧ AJ = w.2.2.2.2.1 ∧ AR = w.2.2.2.2.2 ∧ (mInv g gh R (w.1) AI) ∧ (mF mo I (w.1)) ∧ (z = (I mo 14).toInt) ∧ (((w.1) mo 14).toInt = 0))) := by
  refine gStart (cc := cX7_cancel) (maxL := 2) (ret := (some (.int))) (by decide) rfl (Nat.le_of_ble_eq_true rfl) ?_
  intro p e s m below meth c ls F hr hlk hH hz hS hl
  have hl : lv_has ls 2 [(0, .ref mo)] := hl
  have hS : va_S (gA g) s.heap s.heap [] := hS
  obtain ⟨H, hHe⟩ : ∃ H : Heap, H = s.heap := ⟨_, rfl⟩
  obtain ⟨locs, hlo⟩ : ∃ k : List Loc, k = [] := ⟨_, rfl⟩
  have hH : gH g I R J AI AJ AR H := by rw [hHe]; exact hH
  have hS : va_S (gA g) s.heap H locs := by rw [hHe, hlo]; exact hS
  suffices hw : W p l e rmX7_cancel s m ([.ref mo] : List Value).toArray below meth c H locs 0 0 (MQ below (gQi g (fun (z : Int) (w : gS) => R = w.2.1 ∧ J = w.2.2.1 ∧ AI = w.2.2.2.1 ∧ AJ = w.2.2.2.2.1 ∧ AR = w.2.2.2.2.2 ∧ (mInv g gh R (w.1) AI) ∧ (mF mo I (w.1)) ∧ (z = (I mo 14).toInt) ∧ (((w.1) mo 14).toInt = 0))) ([.ref mo] : List Value).toArray s 0 0 (gA g)) (F0 m 0 ls []) by
    rw [hHe, hlo] at hw; exact hw
  clear hHe hlo
  have mf : mF mo I I := mF_r
  have iX7 : ∀ w ∈ u_ws RX7 TX7 32, w ∈ tsX7_cancel := fun w h => List.mem_cons_of_mem _ (inTB7 w h)
  have k60 : Cond.fieldLink RX7 60 (TX7 17).1 (TX7 17).2.1 (TX7 17).2.2.1 ∈ tsX7_cancel := List.mem_cons_of_mem _ fl_60
  have k266 : Cond.fieldLink RX7 266 (TX7 14).1 (TX7 14).2.1 (TX7 14).2.2.1 ∈ tsX7_cancel := List.mem_cons_of_mem _ fl_266
  refine lv_aload_n F.1 F.2.1 dX7_cancel_0 rfl (lv_at hl 0 rfl) ?_
  refine z_iconst F dX7_cancel_1 ?_
  refine g_putI (ci := 7) (k := 17) F hH hS rfl (by decide) iX7 hm (by decide) tyX7 tyX7_ok nmX7 rfl rfl rfl k60 dX7_cancel_2 (fun H locs hH hS => ?_)
  obtain ⟨I_1, eI_1⟩ : ∃ qQ, qQ = gup2 I mo 17 (iI (0)) := ⟨_, rfl⟩
  rw [← eI_1] at hH
  have kI_1 : ∀ b, b ≠ mo → I_1 b = I b := fun b hb => by rw [eI_1]; exact funext fun j => gup2_a _ _ hb
  have w_2 : (I_1 mo 17).toInt = 0 := by rw [eI_1, gup2_s]; exact iI_val ⟨by decide, by decide⟩
  have hv : mInv g gh R I_1 AI := by rw [eI_1]; exact mP17 hv hm
  have mf : mF mo I I_1 := mF_t mf (by rw [eI_1]; exact mF_p (by decide))
  have u_3_2 : (I_1 mo 2).toInt = (I mo 2).toInt := by rw [mf 2 (by decide) (by decide) (by decide) (by decide) (by decide) (by decide)]
  have u_3_5 : (I_1 mo 5).toInt = (I mo 5).toInt := by rw [mf 5 (by decide) (by decide) (by decide) (by decide) (by decide) (by decide)]
  have u_3_16 : (I_1 mo 16).toInt = (I mo 16).toInt := by rw [mf 16 (by decide) (by decide) (by decide) (by decide) (by decide) (by decide)]
  have u_3_24 : (I_1 mo 24).toInt = (I mo 24).toInt := by rw [mf 24 (by decide) (by decide) (by decide) (by decide) (by decide) (by decide)]
  have w_2_k14 : (I_1 mo 14).toInt = (I mo 14).toInt := by rw [eI_1, gup2_k _ _ (by decide)]
  refine lv_aload_n F.1 F.2.1 dX7_cancel_5 rfl (lv_at hl 0 rfl) ?_
  refine g_getI (ci := 7) (k := 14) F hH rfl (by decide) iX7 hm (by decide) rfl k266 dX7_cancel_6 ?_
  have b_4 := mJ hv hm
  unfold mNum1 at b_4
  refine lv_istore_n (lv' := [(1, .int (iI ((I_1 mo 14).toInt))), (0, .ref mo)]) F.1 F.2.1 dX7_cancel_9 rfl hl (by decide) rfl (fun ls hl => ?_)
  refine lv_aload_n F.1 F.2.1 dX7_cancel_10 rfl (lv_at hl 1 rfl) ?_
  refine z_iconst F dX7_cancel_11 ?_
  refine g_putI (ci := 7) (k := 14) F hH hS rfl (by decide) iX7 hm (by decide) tyX7 tyX7_ok nmX7 rfl rfl rfl k266 dX7_cancel_12 (fun H locs hH hS => ?_)
  obtain ⟨I_5, eI_5⟩ : ∃ qQ, qQ = gup2 I_1 mo 14 (iI (0)) := ⟨_, rfl⟩
  rw [← eI_5] at hH
  have kI_5 : ∀ b, b ≠ mo → I_5 b = I_1 b := fun b hb => by rw [eI_5]; exact funext fun j => gup2_a _ _ hb
  have w_6 : (I_5 mo 14).toInt = 0 := by rw [eI_5, gup2_s]; exact iI_val ⟨by decide, by decide⟩
  have hv : mInv g gh R I_5 AI := by rw [eI_5]; exact mP14 hv hm (by omega) (by omega)
  have mf : mF mo I I_5 := mF_t mf (by rw [eI_5]; exact mF_p (by decide))
  have u_7_2 : (I_5 mo 2).toInt = (I mo 2).toInt := by rw [mf 2 (by decide) (by decide) (by decide) (by decide) (by decide) (by decide)]
  have u_7_5 : (I_5 mo 5).toInt = (I mo 5).toInt := by rw [mf 5 (by decide) (by decide) (by decide) (by decide) (by decide) (by decide)]
  have u_7_16 : (I_5 mo 16).toInt = (I mo 16).toInt := by rw [mf 16 (by decide) (by decide) (by decide) (by decide) (by decide) (by decide)]
  have u_7_24 : (I_5 mo 24).toInt = (I mo 24).toInt := by rw [mf 24 (by decide) (by decide) (by decide) (by decide) (by decide) (by decide)]
  refine lv_iload_n F.1 F.2.1 dX7_cancel_15 rfl (lv_at hl 0 rfl) ?_
  exact g_iret F hr hlk hH hS hz (zr_t _) ⟨rfl, rfl, rfl, rfl, rfl, hv, mf, by first | omega | rfl | (dsimp only; omega), by first | omega | rfl | (dsimp only; omega)⟩ dX7_cancel_16

def rmX7_laysMoved : Room := { frames := 1, cells := 0, slots := 0, locals := 24 }
theorem hdX7_laysMoved : yX7_laysMoved.cls = RX7 ∧ yX7_laysMoved.cls ≠ "java/lang/invoke/MethodHandle" ∧ yX7_laysMoved.cls ≠ "java/lang/invoke/VarHandle" ∧ (parseMethodDescriptor yX7_laysMoved.desc).map (fun d => d.parameters.length) = some 1 := by decide +kernel
set_option maxHeartbeats 4000000 in
set_option maxRecDepth 100000 in
/-- what moved -/
theorem c_X7_laysMoved (l : Launch) (g : gG) (gh : gGh) (T : Nat → Int32) (I : gI) (R : gR) (J : gJ) (AI : gI) (AJ : gJ) (AR : gR) (mo : Nat) (rr : Int) (zrr : zr rr) (hv : mInv g gh R I AI) (hm : gO g mo 7) (hT : AI (gh 50 0) = T) (hr0 : 0 ≤ rr ∧ rr ≤ 15) : gMet l g yX7_laysMoved tsX7_laysMoved rmX7_laysMoved [.ref mo, .int (iI rr)] (I, R, J, AI, AJ, AR) (gQi g (fun (z : Int) (w : gS) => I = w.1 ∧ R = w.2.1 ∧ J = w.2.2.1 ∧ AJ = w.2.2.2.2.1 ∧ AR = w.2.2.2.2.2 ∧ (mInv g gh R I (w.2.2.2.1)) ∧ ((w.2.2.2.1) (gh 50 0) = T) ∧ ((w.2.2.2.1) (gh 57 0) = AI (gh 57 0)) ∧ (0 ≤ z ∧ z ≤ 240))) := by
  refine gStart (cc := cX7_laysMoved) (maxL := 11) (ret := (some (.int))) (by decide) rfl (Nat.le_of_ble_eq_true rfl) ?_
  intro p e s m below meth c ls F hr hlk hH hz hS hl
  have hl : lv_has ls 11 [(0, .ref mo), (1, .int (iI rr))] := hl
  have hS : va_S (gA g) s.heap s.heap [] := hS
  obtain ⟨H, hHe⟩ : ∃ H : Heap, H = s.heap := ⟨_, rfl⟩
  obtain ⟨locs, hlo⟩ : ∃ k : List Loc, k = [] := ⟨_, rfl⟩
  have hH : gH g I R J AI AJ AR H := by rw [hHe]; exact hH
  have hS : va_S (gA g) s.heap H locs := by rw [hHe, hlo]; exact hS
  suffices hw : W p l e rmX7_laysMoved s m ([.ref mo, .int (iI rr)] : List Value).toArray below meth c H locs 0 0 (MQ below (gQi g (fun (z : Int) (w : gS) => I = w.1 ∧ R = w.2.1 ∧ J = w.2.2.1 ∧ AJ = w.2.2.2.2.1 ∧ AR = w.2.2.2.2.2 ∧ (mInv g gh R I (w.2.2.2.1)) ∧ ((w.2.2.2.1) (gh 50 0) = T) ∧ ((w.2.2.2.1) (gh 57 0) = AI (gh 57 0)) ∧ (0 ≤ z ∧ z ≤ 240))) ([.ref mo, .int (iI rr)] : List Value).toArray s 0 0 (gA g)) (F0 m 0 ls []) by
    rw [hHe, hlo] at hw; exact hw
  clear hHe hlo
  have ha7 : AI (gh 57 0) = AI (gh 57 0) := rfl
  have s9 := mSz1 hv hm (z := 16 * 9 + rr) (by omega) (by omega)
  have s0 := mSz1 hv hm (z := 16 * 0 + rr) (by omega) (by omega)
  have iX7 : ∀ w ∈ u_ws RX7 TX7 32, w ∈ tsX7_laysMoved := fun w h => List.mem_cons_of_mem _ (inTB7 w h)
  have k24 : Cond.fieldLink RX7 24 (TX7 6).1 (TX7 6).2.1 (TX7 6).2.2.1 ∈ tsX7_laysMoved := List.mem_cons_of_mem _ fl_24
  have k57 : Cond.fieldLink RX7 57 (TX7 31).1 (TX7 31).2.1 (TX7 31).2.2.1 ∈ tsX7_laysMoved := List.mem_cons_of_mem _ fl_57
  refine z_iconst F dX7_laysMoved_0 ?_
  refine lv_istore_n (lv' := [(2, .int (iI 0)), (0, .ref mo), (1, .int (iI rr))]) F.1 F.2.1 dX7_laysMoved_1 rfl hl (by decide) rfl (fun ls hl => ?_)
  refine z_iconst F dX7_laysMoved_2 ?_
  refine lv_istore_n (lv' := [(3, .int (iI 0)), (2, .int (iI 0)), (0, .ref mo), (1, .int (iI rr))]) F.1 F.2.1 dX7_laysMoved_3 rfl hl (by decide) rfl (fun ls hl => ?_)
  refine z_iconst F dX7_laysMoved_4 ?_
  refine lv_istore (lv' := [(4, .int (iI 0)), (3, .int (iI 0)), (2, .int (iI 0)), (0, .ref mo), (1, .int (iI rr))]) F.1 F.2.1 dX7_laysMoved_5 hl (by decide) rfl (fun ls hl => ?_)
  have cut_7_1 : ∀ (NN : Nat) (n i jj : Int) (AI_1 : gI) (H : Heap) (locs : List Loc) (ls : Array Slot), zr n → zr i → zr jj → (mInv g gh R I AI_1) → (AI_1 (gh 50 0) = T) → (AI_1 (gh 57 0) = AI (gh 57 0)) → (0 ≤ i ∧ i ≤ tI (AI (gh 57 0)) (16 * 9 + rr) ∧ 0 ≤ jj ∧ jj ≤ tI (AI (gh 57 0)) (16 * 0 + rr) ∧ 0 ≤ n ∧ n ≤ i + jj) → (240 - i - jj) < ((NN : Nat) : Int) → gH g I R J AI_1 AJ AR H → va_S (gA g) s.heap H locs → lv_has ls 11 [(4, .int (iI jj)), (3, .int (iI i)), (2, .int (iI n)), (0, .ref mo), (1, .int (iI rr))] → W p l e rmX7_laysMoved s m ([.ref mo, .int (iI rr)] : List Value).toArray below meth c H locs 0 0 (MQ below (gQi g (fun (z : Int) (w : gS) => I = w.1 ∧ R = w.2.1 ∧ J = w.2.2.1 ∧ AJ = w.2.2.2.2.1 ∧ AR = w.2.2.2.2.2 ∧ (mInv g gh R I (w.2.2.2.1)) ∧ ((w.2.2.2.1) (gh 50 0) = T) ∧ ((w.2.2.2.1) (gh 57 0) = AI (gh 57 0)) ∧ (0 ≤ z ∧ z ≤ 240))) ([.ref mo, .int (iI rr)] : List Value).toArray s 0 0 (gA g)) (F0 m 7 ls []) := by
    intro NN7
    induction NN7 with
    | zero =>
      intro n i jj AI_1 H locs ls zn zi zjj hv hT ha7 hi hm7 hH hS hl
      exact absurd hm7 (by omega)
    | succ NN7 ih7 =>
      intro n i jj AI_1 H locs ls zn zi zjj hv hT ha7 hi hm7 hH hS hl
      have cut_29_2 : ∀ (H : Heap) (locs : List Loc) (ls : Array Slot), (i < tI (AI (gh 57 0)) (16 * 9 + rr) ∨ jj < tI (AI (gh 57 0)) (16 * 0 + rr)) → gH g I R J AI_1 AJ AR H → va_S (gA g) s.heap H locs → lv_has ls 11 [(4, .int (iI jj)), (3, .int (iI i)), (2, .int (iI n)), (0, .ref mo), (1, .int (iI rr))] → W p l e rmX7_laysMoved s m ([.ref mo, .int (iI rr)] : List Value).toArray below meth c H locs 0 0 (MQ below (gQi g (fun (z : Int) (w : gS) => I = w.1 ∧ R = w.2.1 ∧ J = w.2.2.1 ∧ AJ = w.2.2.2.2.1 ∧ AR = w.2.2.2.2.2 ∧ (mInv g gh R I (w.2.2.2.1)) ∧ ((w.2.2.2.1) (gh 50 0) = T) ∧ ((w.2.2.2.1) (gh 57 0) = AI (gh 57 0)) ∧ (0 ≤ z ∧ z ≤ 240))) ([.ref mo, .int (iI rr)] : List Value).toArray s 0 0 (gA g)) (F0 m 29 ls []) := by
        intro H locs ls hor hH hS hl
        refine z_bipush F dX7_laysMoved_29 (by decide) ?_
        refine lv_iload_n F.1 F.2.1 dX7_laysMoved_31 rfl (lv_at hl 4 rfl) ?_
        refine lv_iload_n F.1 F.2.1 dX7_laysMoved_32 rfl (lv_at hl 1 rfl) ?_
        refine g_calli (g_runS (As := [.int (iI 9), .int (iI rr), .int (iI i)]) (rest := []) F hl.1 hH hS hz (c_X7_spot l g  I R J AI_1 AJ AR 9 rr i ⟨by decide, by decide⟩ zrr zi (by omega) (by omega) (by omega)) (va_cwS 3 F.2.2.2.2.1 (good_up gT_X7_spot) rfl rfl rfl hdX7_spot.2 ⟨Nat.le_of_ble_eq_true rfl, Nat.le_of_ble_eq_true rfl⟩) rfl rfl (Nat.le_of_ble_eq_true rfl) dX7_laysMoved_33 ⟨Nat.zero_le _, Nat.zero_le _⟩) hS (fun v_10 I_4 R_5 J_6 AI_7 AJ_8 AR_9 H locs zv_10 hp_11 hH hS => ?_)
        dsimp only at hp_11
        obtain ⟨rfl, rfl, rfl, rfl, rfl, rfl, q_12⟩ := hp_11
        refine lv_istore (lv' := [(5, .int (iI v_10)), (4, .int (iI jj)), (3, .int (iI i)), (2, .int (iI n)), (0, .ref mo), (1, .int (iI rr))]) F.1 F.2.1 dX7_laysMoved_36 hl (by decide) rfl (fun ls hl => ?_)
        refine z_iconst F dX7_laysMoved_38 ?_
        refine lv_iload_n F.1 F.2.1 dX7_laysMoved_39 rfl (lv_at hl 5 rfl) ?_
        refine lv_iload F.1 F.2.1 dX7_laysMoved_40 (lv_at hl 1 rfl) ?_
        refine g_calli (g_runS (As := [.int (iI 0), .int (iI rr), .int (iI jj)]) (rest := []) F hl.1 hH hS hz (c_X7_spot l g  I R J AI_1 AJ AR 0 rr jj ⟨by decide, by decide⟩ zrr zjj (by omega) (by omega) (by omega)) (va_cwS 3 F.2.2.2.2.1 (good_up gT_X7_spot) rfl rfl rfl hdX7_spot.2 ⟨Nat.le_of_ble_eq_true rfl, Nat.le_of_ble_eq_true rfl⟩) rfl rfl (Nat.le_of_ble_eq_true rfl) dX7_laysMoved_42 ⟨Nat.zero_le _, Nat.zero_le _⟩) hS (fun v_19 I_13 R_14 J_15 AI_16 AJ_17 AR_18 H locs zv_19 hp_20 hH hS => ?_)
        dsimp only at hp_20
        obtain ⟨rfl, rfl, rfl, rfl, rfl, rfl, q_21⟩ := hp_20
        refine lv_istore (lv' := [(6, .int (iI v_19)), (5, .int (iI v_10)), (4, .int (iI jj)), (3, .int (iI i)), (2, .int (iI n)), (0, .ref mo), (1, .int (iI rr))]) F.1 F.2.1 dX7_laysMoved_45 hl (by decide) rfl (fun ls hl => ?_)
        have cut_92_21 : ∀ (is : Int) (H : Heap) (locs : List Loc) (ls : Array Slot), zr is → (-1 ≤ is ∧ is ≤ 1 ∧ (is ≤ 0 → i < tI (AI (gh 57 0)) (16 * 9 + rr)) ∧ (0 ≤ is → jj < tI (AI (gh 57 0)) (16 * 0 + rr))) → gH g I R J AI_1 AJ AR H → va_S (gA g) s.heap H locs → lv_has ls 11 [(6, .int (iI v_19)), (5, .int (iI v_10)), (4, .int (iI jj)), (3, .int (iI i)), (2, .int (iI n)), (0, .ref mo), (1, .int (iI rr))] → W p l e rmX7_laysMoved s m ([.ref mo, .int (iI rr)] : List Value).toArray below meth c H locs 0 0 (MQ below (gQi g (fun (z : Int) (w : gS) => I = w.1 ∧ R = w.2.1 ∧ J = w.2.2.1 ∧ AJ = w.2.2.2.2.1 ∧ AR = w.2.2.2.2.2 ∧ (mInv g gh R I (w.2.2.2.1)) ∧ ((w.2.2.2.1) (gh 50 0) = T) ∧ ((w.2.2.2.1) (gh 57 0) = AI (gh 57 0)) ∧ (0 ≤ z ∧ z ≤ 240))) ([.ref mo, .int (iI rr)] : List Value).toArray s 0 0 (gA g)) (F0 m 92 ls [.int (iI is)]) := by
          intro is H locs ls zis his hH hS hl
          refine lv_istore (lv' := [(7, .int (iI is)), (6, .int (iI v_19)), (5, .int (iI v_10)), (4, .int (iI jj)), (3, .int (iI i)), (2, .int (iI n)), (0, .ref mo), (1, .int (iI rr))]) F.1 F.2.1 dX7_laysMoved_92 hl (by decide) rfl (fun ls hl => ?_)
          have cut_112_22 : ∀ (t1 : Int) (H : Heap) (locs : List Loc) (ls : Array Slot), zr t1 → gH g I R J AI_1 AJ AR H → va_S (gA g) s.heap H locs → lv_has ls 11 [(7, .int (iI is)), (6, .int (iI v_19)), (5, .int (iI v_10)), (4, .int (iI jj)), (3, .int (iI i)), (2, .int (iI n)), (0, .ref mo), (1, .int (iI rr))] → W p l e rmX7_laysMoved s m ([.ref mo, .int (iI rr)] : List Value).toArray below meth c H locs 0 0 (MQ below (gQi g (fun (z : Int) (w : gS) => I = w.1 ∧ R = w.2.1 ∧ J = w.2.2.1 ∧ AJ = w.2.2.2.2.1 ∧ AR = w.2.2.2.2.2 ∧ (mInv g gh R I (w.2.2.2.1)) ∧ ((w.2.2.2.1) (gh 50 0) = T) ∧ ((w.2.2.2.1) (gh 57 0) = AI (gh 57 0)) ∧ (0 ≤ z ∧ z ≤ 240))) ([.ref mo, .int (iI rr)] : List Value).toArray s 0 0 (gA g)) (F0 m 112 ls [.int (iI t1)]) := by
            intro t1 H locs ls zt1 hH hS hl
            have cut_130_23 : ∀ (t2 : Int) (H : Heap) (locs : List Loc) (ls : Array Slot), zr t2 → gH g I R J AI_1 AJ AR H → va_S (gA g) s.heap H locs → lv_has ls 11 [(7, .int (iI is)), (6, .int (iI v_19)), (5, .int (iI v_10)), (4, .int (iI jj)), (3, .int (iI i)), (2, .int (iI n)), (0, .ref mo), (1, .int (iI rr))] → W p l e rmX7_laysMoved s m ([.ref mo, .int (iI rr)] : List Value).toArray below meth c H locs 0 0 (MQ below (gQi g (fun (z : Int) (w : gS) => I = w.1 ∧ R = w.2.1 ∧ J = w.2.2.1 ∧ AJ = w.2.2.2.2.1 ∧ AR = w.2.2.2.2.2 ∧ (mInv g gh R I (w.2.2.2.1)) ∧ ((w.2.2.2.1) (gh 50 0) = T) ∧ ((w.2.2.2.1) (gh 57 0) = AI (gh 57 0)) ∧ (0 ≤ z ∧ z ≤ 240))) ([.ref mo, .int (iI rr)] : List Value).toArray s 0 0 (gA g)) (F0 m 130 ls [.int (iI t2), .int (iI t1)]) := by
              intro t2 H locs ls zt2 hH hS hl
              refine z_isub F dX7_laysMoved_130 ?_
              refine z_norm (fun v_25 zv_25 ev_25 => ?_)
              refine lv_istore (lv' := [(8, .int (iI v_25)), (7, .int (iI is)), (6, .int (iI v_19)), (5, .int (iI v_10)), (4, .int (iI jj)), (3, .int (iI i)), (2, .int (iI n)), (0, .ref mo), (1, .int (iI rr))]) F.1 F.2.1 dX7_laysMoved_131 hl (by decide) rfl (fun ls hl => ?_)
              have cut_145_25 : ∀ (fr1 : Int) (H : Heap) (locs : List Loc) (ls : Array Slot), zr fr1 → (0 ≤ fr1 ∧ fr1 + 6 ≤ 126720) → gH g I R J AI_1 AJ AR H → va_S (gA g) s.heap H locs → lv_has ls 11 [(8, .int (iI v_25)), (7, .int (iI is)), (6, .int (iI v_19)), (5, .int (iI v_10)), (4, .int (iI jj)), (3, .int (iI i)), (2, .int (iI n)), (0, .ref mo), (1, .int (iI rr))] → W p l e rmX7_laysMoved s m ([.ref mo, .int (iI rr)] : List Value).toArray below meth c H locs 0 0 (MQ below (gQi g (fun (z : Int) (w : gS) => I = w.1 ∧ R = w.2.1 ∧ J = w.2.2.1 ∧ AJ = w.2.2.2.2.1 ∧ AR = w.2.2.2.2.2 ∧ (mInv g gh R I (w.2.2.2.1)) ∧ ((w.2.2.2.1) (gh 50 0) = T) ∧ ((w.2.2.2.1) (gh 57 0) = AI (gh 57 0)) ∧ (0 ≤ z ∧ z ≤ 240))) ([.ref mo, .int (iI rr)] : List Value).toArray s 0 0 (gA g)) (F0 m 145 ls [.int (iI fr1)]) := by
                intro fr1 H locs ls zfr1 hfr hH hS hl
                refine lv_istore (lv' := [(9, .int (iI fr1)), (8, .int (iI v_25)), (7, .int (iI is)), (6, .int (iI v_19)), (5, .int (iI v_10)), (4, .int (iI jj)), (3, .int (iI i)), (2, .int (iI n)), (0, .ref mo), (1, .int (iI rr))]) F.1 F.2.1 dX7_laysMoved_145 hl (by decide) rfl (fun ls hl => ?_)
                have cut_203_27 : ∀ (n3 : Int) (AI_27 : gI) (H : Heap) (locs : List Loc) (ls : Array Slot), zr n3 → (mInv g gh R I AI_27) → (AI_27 (gh 50 0) = T) → (AI_27 (gh 57 0) = AI (gh 57 0)) → (0 ≤ n3 ∧ n3 ≤ i + jj + 1) → gH g I R J AI_27 AJ AR H → va_S (gA g) s.heap H locs → lv_has ls 11 [(9, .int (iI fr1)), (8, .int (iI v_25)), (7, .int (iI is)), (6, .int (iI v_19)), (5, .int (iI v_10)), (4, .int (iI jj)), (3, .int (iI i)), (2, .int (iI n3)), (0, .ref mo), (1, .int (iI rr))] → W p l e rmX7_laysMoved s m ([.ref mo, .int (iI rr)] : List Value).toArray below meth c H locs 0 0 (MQ below (gQi g (fun (z : Int) (w : gS) => I = w.1 ∧ R = w.2.1 ∧ J = w.2.2.1 ∧ AJ = w.2.2.2.2.1 ∧ AR = w.2.2.2.2.2 ∧ (mInv g gh R I (w.2.2.2.1)) ∧ ((w.2.2.2.1) (gh 50 0) = T) ∧ ((w.2.2.2.1) (gh 57 0) = AI (gh 57 0)) ∧ (0 ≤ z ∧ z ≤ 240))) ([.ref mo, .int (iI rr)] : List Value).toArray s 0 0 (gA g)) (F0 m 203 ls []) := by
                  intro n3 AI_27 H locs ls zn3 hv hT ha7 hn3 hH hS hl
                  refine lv_iload F.1 F.2.1 dX7_laysMoved_203 (lv_at hl 2 rfl) ?_
                  refine z_if_gt (tgt := 211) F dX7_laysMoved_205 (by decide) zis (fun c_29 => ?_) (fun c_29 => ?_)
                  · refine lv_iload F.1 F.2.1 dX7_laysMoved_211 (lv_at hl 2 rfl) ?_
                    refine z_if_lt (tgt := 219) F dX7_laysMoved_213 (by decide) zis (fun c_30 => ?_) (fun c_30 => ?_)
                    · exact absurd trivial (by omega)
                    · refine z_iinc (lv' := [(4, .int (iI (jj + 1))), (9, .int (iI fr1)), (8, .int (iI v_25)), (7, .int (iI is)), (6, .int (iI v_19)), (5, .int (iI v_10)), (3, .int (iI i)), (2, .int (iI n3)), (0, .ref mo), (1, .int (iI rr))]) F dX7_laysMoved_216 hl (k := 5) rfl (by decide) rfl (fun ls hl => ?_)
                      refine z_goto (tgt := 7) F dX7_laysMoved_219 (by decide) ?_
                      exact ih7 n3 i (jj + 1) AI_27 H locs ls zn3 zi ⟨by omega, by omega⟩ hv hT ha7 (by omega) (by omega) hH hS (lv_sub hl [0, 6, 7, 8, 9] rfl)
                  · refine z_iinc (lv' := [(3, .int (iI (i + 1))), (9, .int (iI fr1)), (8, .int (iI v_25)), (7, .int (iI is)), (6, .int (iI v_19)), (5, .int (iI v_10)), (4, .int (iI jj)), (2, .int (iI n3)), (0, .ref mo), (1, .int (iI rr))]) F dX7_laysMoved_208 hl (k := 6) rfl (by decide) rfl (fun ls hl => ?_)
                    refine lv_iload F.1 F.2.1 dX7_laysMoved_211 (lv_at hl 3 rfl) ?_
                    refine z_if_lt (tgt := 219) F dX7_laysMoved_213 (by decide) zis (fun c_31 => ?_) (fun c_31 => ?_)
                    · refine z_goto (tgt := 7) F dX7_laysMoved_219 (by decide) ?_
                      exact ih7 n3 (i + 1) jj AI_27 H locs ls zn3 ⟨by omega, by omega⟩ zjj hv hT ha7 (by omega) (by omega) hH hS (lv_sub hl [6, 0, 7, 8, 9] rfl)
                    · refine z_iinc (lv' := [(4, .int (iI (jj + 1))), (3, .int (iI (i + 1))), (9, .int (iI fr1)), (8, .int (iI v_25)), (7, .int (iI is)), (6, .int (iI v_19)), (5, .int (iI v_10)), (2, .int (iI n3)), (0, .ref mo), (1, .int (iI rr))]) F dX7_laysMoved_216 hl (k := 6) rfl (by decide) rfl (fun ls hl => ?_)
                      refine z_goto (tgt := 7) F dX7_laysMoved_219 (by decide) ?_
                      exact ih7 n3 (i + 1) (jj + 1) AI_27 H locs ls zn3 ⟨by omega, by omega⟩ ⟨by omega, by omega⟩ hv hT ha7 (by omega) (by omega) hH hS (lv_sub hl [0, 1, 7, 8, 9] rfl)
                refine lv_iload F.1 F.2.1 dX7_laysMoved_147 (lv_at hl 1 rfl) ?_
                refine z_if_eq (tgt := 203) F dX7_laysMoved_149 (by decide) zv_25 (fun c_32 => ?_) (fun c_32 => ?_)
                · exact cut_203_27 n AI_1 H locs ls zn hv hT ha7 (by omega) hH hS (lv_sub hl [0, 1, 2, 3, 4, 5, 6, 7, 8, 9] rfl)
                · refine z_iconst F dX7_laysMoved_152 ?_
                  refine lv_istore (lv' := [(10, .int (iI 0)), (9, .int (iI fr1)), (8, .int (iI v_25)), (7, .int (iI is)), (6, .int (iI v_19)), (5, .int (iI v_10)), (4, .int (iI jj)), (3, .int (iI i)), (2, .int (iI n)), (0, .ref mo), (1, .int (iI rr))]) F.1 F.2.1 dX7_laysMoved_153 hl (by decide) rfl (fun ls hl => ?_)
                  have cut_155_33 : ∀ (NN : Nat) (k : Int) (AI_33 : gI) (H : Heap) (locs : List Loc) (ls : Array Slot), zr k → (mInv g gh R I AI_33) → (AI_33 (gh 50 0) = T) → (AI_33 (gh 57 0) = AI (gh 57 0)) → (0 ≤ k ∧ k ≤ 4) → (4 - k) < ((NN : Nat) : Int) → gH g I R J AI_33 AJ AR H → va_S (gA g) s.heap H locs → lv_has ls 11 [(10, .int (iI k)), (9, .int (iI fr1)), (8, .int (iI v_25)), (7, .int (iI is)), (6, .int (iI v_19)), (5, .int (iI v_10)), (4, .int (iI jj)), (3, .int (iI i)), (2, .int (iI n)), (0, .ref mo), (1, .int (iI rr))] → W p l e rmX7_laysMoved s m ([.ref mo, .int (iI rr)] : List Value).toArray below meth c H locs 0 0 (MQ below (gQi g (fun (z : Int) (w : gS) => I = w.1 ∧ R = w.2.1 ∧ J = w.2.2.1 ∧ AJ = w.2.2.2.2.1 ∧ AR = w.2.2.2.2.2 ∧ (mInv g gh R I (w.2.2.2.1)) ∧ ((w.2.2.2.1) (gh 50 0) = T) ∧ ((w.2.2.2.1) (gh 57 0) = AI (gh 57 0)) ∧ (0 ≤ z ∧ z ≤ 240))) ([.ref mo, .int (iI rr)] : List Value).toArray s 0 0 (gA g)) (F0 m 155 ls []) := by
                    intro NN155
                    induction NN155 with
                    | zero =>
                      intro k AI_33 H locs ls zk hv hT ha7 hk hm155 hH hS hl
                      exact absurd hm155 (by omega)
                    | succ NN155 ih155 =>
                      intro k AI_33 H locs ls zk hv hT ha7 hk hm155 hH hS hl
                      refine lv_iload F.1 F.2.1 dX7_laysMoved_155 (lv_at hl 0 rfl) ?_
                      refine z_iconst F dX7_laysMoved_157 ?_
                      refine z_icmp_ge (tgt := 188) F dX7_laysMoved_158 (by decide) zk ⟨by decide, by decide⟩ (fun c_35 => ?_) (fun c_35 => ?_)
                      · refine lv_aload_n F.1 F.2.1 dX7_laysMoved_188 rfl (lv_at hl 9 rfl) ?_
                        obtain ⟨r_36a, r_36b⟩ : R mo 31 = some (gh 81 0) ∧ gAr g (gh 81 0) 9 1200 := mR hv hm (q := (31, 1200)) (by decide)
                        refine g_getR (ci := 7) (k := 31) F hH rfl (by decide) iX7 hm (by decide) rfl (b := gh 81 0) r_36a k57 dX7_laysMoved_189 ?_
                        refine z_iconst F dX7_laysMoved_192 ?_
                        refine lv_iload_n F.1 F.2.1 dX7_laysMoved_193 rfl (lv_at hl 8 rfl) ?_
                        refine z_imul F dX7_laysMoved_194 ?_
                        refine z_iconst F dX7_laysMoved_195 ?_
                        refine z_iadd F dX7_laysMoved_196 ?_
                        refine lv_iload F.1 F.2.1 dX7_laysMoved_197 (lv_at hl 2 rfl) ?_
                        have hx199 : 0 ≤ ((5 * n) + 4) ∧ ((5 * n) + 4) < ((1200 : Nat) : Int) ∧ ((5 * n) + 4) ≤ 2147483647 := ⟨by omega, by omega, by omega⟩
                        refine g_iast F hH hS r_36b hx199.1 hx199.2.1 hx199.2.2 dX7_laysMoved_199 (fun H locs hH hS => ?_)
                        obtain ⟨AI_37, eAI_37⟩ : ∃ qQ, qQ = gup2 AI_33 (gh 81 0) (((5 * n) + 4)).toNat (iI (v_25)) := ⟨_, rfl⟩
                        rw [← eAI_37] at hH
                        have kAI_37 : ∀ b, b ≠ (gh 81 0) → AI_37 b = AI_33 b := fun b hb => by rw [eAI_37]; exact funext fun j => gup2_a _ _ hb
                        have t_38 : AI_37 (gh 50 0) = AI_33 (gh 50 0) := mK hv hm (p := (0, 640)) (q := (31, 1200)) (by decide) (by decide) (by decide) kAI_37
                        have t_38_7 : AI_37 (gh 57 0) = AI_33 (gh 57 0) := mK hv hm (p := (7, 176)) (q := (31, 1200)) (by decide) (by decide) (by decide) kAI_37
                        have ha7 : AI_37 (gh 57 0) = AI (gh 57 0) := t_38_7.trans ha7
                        have hv : mInv g gh R I AI_37 := mInv_a hv hm (q := (31, 1200)) (by decide) (by decide) kAI_37
                        have hT : AI_37 (gh 50 0) = T := t_38.trans hT
                        refine z_iinc (lv' := [(2, .int (iI (n + 1))), (10, .int (iI k)), (9, .int (iI fr1)), (8, .int (iI v_25)), (7, .int (iI is)), (6, .int (iI v_19)), (5, .int (iI v_10)), (4, .int (iI jj)), (3, .int (iI i)), (0, .ref mo), (1, .int (iI rr))]) F dX7_laysMoved_200 hl (k := 8) rfl (by decide) rfl (fun ls hl => ?_)
                        exact cut_203_27 (n + 1) AI_37 H locs ls ⟨by omega, by omega⟩ hv hT ha7 (by omega) hH hS (lv_sub hl [2, 3, 4, 5, 6, 7, 8, 0, 9, 10] rfl)
                      · refine lv_aload_n F.1 F.2.1 dX7_laysMoved_161 rfl (lv_at hl 9 rfl) ?_
                        obtain ⟨r_39a, r_39b⟩ : R mo 31 = some (gh 81 0) ∧ gAr g (gh 81 0) 9 1200 := mR hv hm (q := (31, 1200)) (by decide)
                        refine g_getR (ci := 7) (k := 31) F hH rfl (by decide) iX7 hm (by decide) rfl (b := gh 81 0) r_39a k57 dX7_laysMoved_162 ?_
                        refine z_iconst F dX7_laysMoved_165 ?_
                        refine lv_iload_n F.1 F.2.1 dX7_laysMoved_166 rfl (lv_at hl 8 rfl) ?_
                        refine z_imul F dX7_laysMoved_167 ?_
                        refine lv_iload F.1 F.2.1 dX7_laysMoved_168 (lv_at hl 0 rfl) ?_
                        refine z_iadd F dX7_laysMoved_170 ?_
                        refine lv_aload_n F.1 F.2.1 dX7_laysMoved_171 rfl (lv_at hl 9 rfl) ?_
                        obtain ⟨r_40a, r_40b⟩ : R mo 6 = some (gh 56 0) ∧ gAr g (gh 56 0) 9 126720 := mR hv hm (q := (6, 126720)) (by decide)
                        refine g_getR (ci := 7) (k := 6) F hH rfl (by decide) iX7 hm (by decide) rfl (b := gh 56 0) r_40a k24 dX7_laysMoved_172 ?_
                        refine lv_iload F.1 F.2.1 dX7_laysMoved_175 (lv_at hl 1 rfl) ?_
                        refine lv_iload F.1 F.2.1 dX7_laysMoved_177 (lv_at hl 0 rfl) ?_
                        refine z_iadd F dX7_laysMoved_179 ?_
                        have hx180 : 0 ≤ (fr1 + k) ∧ (fr1 + k) < ((126720 : Nat) : Int) ∧ (fr1 + k) ≤ 2147483647 := ⟨by omega, by omega, by omega⟩
                        refine g_iald F hH r_40b hx180.1 hx180.2.1 hx180.2.2 dX7_laysMoved_180 ?_
                        refine z_name (fun v_41 ev_41 => ?_)
                        have zv_41 : zr v_41 := by rw [ev_41]; exact zr_t _
                        have hx181 : 0 ≤ ((5 * n) + k) ∧ ((5 * n) + k) < ((1200 : Nat) : Int) ∧ ((5 * n) + k) ≤ 2147483647 := ⟨by omega, by omega, by omega⟩
                        refine g_iast F hH hS r_39b hx181.1 hx181.2.1 hx181.2.2 dX7_laysMoved_181 (fun H locs hH hS => ?_)
                        obtain ⟨AI_42, eAI_42⟩ : ∃ qQ, qQ = gup2 AI_33 (gh 81 0) (((5 * n) + k)).toNat (iI (v_41)) := ⟨_, rfl⟩
                        rw [← eAI_42] at hH
                        have kAI_42 : ∀ b, b ≠ (gh 81 0) → AI_42 b = AI_33 b := fun b hb => by rw [eAI_42]; exact funext fun j => gup2_a _ _ hb
                        have t_43 : AI_42 (gh 50 0) = AI_33 (gh 50 0) := mK hv hm (p := (0, 640)) (q := (31, 1200)) (by decide) (by decide) (by decide) kAI_42
                        have t_43_7 : AI_42 (gh 57 0) = AI_33 (gh 57 0) := mK hv hm (p := (7, 176)) (q := (31, 1200)) (by decide) (by decide) (by decide) kAI_42
                        have ha7 : AI_42 (gh 57 0) = AI (gh 57 0) := t_43_7.trans ha7
                        have hv : mInv g gh R I AI_42 := mInv_a hv hm (q := (31, 1200)) (by decide) (by decide) kAI_42
                        have hT : AI_42 (gh 50 0) = T := t_43.trans hT
                        refine z_iinc (lv' := [(10, .int (iI (k + 1))), (9, .int (iI fr1)), (8, .int (iI v_25)), (7, .int (iI is)), (6, .int (iI v_19)), (5, .int (iI v_10)), (4, .int (iI jj)), (3, .int (iI i)), (2, .int (iI n)), (0, .ref mo), (1, .int (iI rr))]) F dX7_laysMoved_182 hl (k := 0) rfl (by decide) rfl (fun ls hl => ?_)
                        refine z_goto (tgt := 155) F dX7_laysMoved_185 (by decide) ?_
                        exact ih155 (k + 1) AI_42 H locs ls ⟨by omega, by omega⟩ hv hT ha7 (by omega) (by omega) hH hS (lv_sub hl [0, 1, 2, 3, 4, 5, 6, 7, 8, 9, 10] rfl)
                  exact cut_155_33 (((4 - 0) + 1 : Int).toNat) 0 AI_1 H locs ls ⟨by decide, by decide⟩ hv hT ha7 (by omega) (by omega) hH hS (lv_sub hl [0, 1, 2, 3, 4, 5, 6, 7, 8, 9, 10] rfl)
              refine lv_iload F.1 F.2.1 dX7_laysMoved_133 (lv_at hl 1 rfl) ?_
              refine z_if_gt (tgt := 143) F dX7_laysMoved_135 (by decide) zis (fun c_44 => ?_) (fun c_44 => ?_)
              · refine lv_iload F.1 F.2.1 dX7_laysMoved_143 (lv_at hl 2 rfl) ?_
                exact cut_145_25 v_19 H locs ls zv_19 (by omega) hH hS (lv_sub hl [0, 1, 2, 3, 4, 5, 6, 7, 8] rfl)
              · refine lv_iload F.1 F.2.1 dX7_laysMoved_138 (lv_at hl 3 rfl) ?_
                refine z_goto (tgt := 145) F dX7_laysMoved_140 (by decide) ?_
                exact cut_145_25 v_10 H locs ls zv_10 (by omega) hH hS (lv_sub hl [0, 1, 2, 3, 4, 5, 6, 7, 8] rfl)
            refine lv_iload F.1 F.2.1 dX7_laysMoved_112 (lv_at hl 0 rfl) ?_
            refine z_if_gt (tgt := 129) F dX7_laysMoved_114 (by decide) zis (fun c_45 => ?_) (fun c_45 => ?_)
            · refine z_iconst F dX7_laysMoved_129 ?_
              exact cut_130_23 0 H locs ls ⟨by decide, by decide⟩ hH hS (lv_sub hl [0, 1, 2, 3, 4, 5, 6, 7] rfl)
            · refine lv_aload_n F.1 F.2.1 dX7_laysMoved_117 rfl (lv_at hl 6 rfl) ?_
              obtain ⟨r_46a, r_46b⟩ : R mo 6 = some (gh 56 0) ∧ gAr g (gh 56 0) 9 126720 := mR hv hm (q := (6, 126720)) (by decide)
              refine g_getR (ci := 7) (k := 6) F hH rfl (by decide) iX7 hm (by decide) rfl (b := gh 56 0) r_46a k24 dX7_laysMoved_118 ?_
              refine lv_iload F.1 F.2.1 dX7_laysMoved_121 (lv_at hl 2 rfl) ?_
              refine z_iconst F dX7_laysMoved_123 ?_
              refine z_iadd F dX7_laysMoved_124 ?_
              have hx125 : 0 ≤ (v_10 + 4) ∧ (v_10 + 4) < ((126720 : Nat) : Int) ∧ (v_10 + 4) ≤ 2147483647 := ⟨by omega, by omega, by omega⟩
              refine g_iald F hH r_46b hx125.1 hx125.2.1 hx125.2.2 dX7_laysMoved_125 ?_
              refine z_name (fun v_47 ev_47 => ?_)
              have zv_47 : zr v_47 := by rw [ev_47]; exact zr_t _
              refine z_goto (tgt := 130) F dX7_laysMoved_126 (by decide) ?_
              exact cut_130_23 v_47 H locs ls zv_47 hH hS (lv_sub hl [0, 1, 2, 3, 4, 5, 6, 7] rfl)
          refine lv_iload F.1 F.2.1 dX7_laysMoved_94 (lv_at hl 0 rfl) ?_
          refine z_if_lt (tgt := 111) F dX7_laysMoved_96 (by decide) zis (fun c_48 => ?_) (fun c_48 => ?_)
          · refine z_iconst F dX7_laysMoved_111 ?_
            exact cut_112_22 0 H locs ls ⟨by decide, by decide⟩ hH hS (lv_sub hl [0, 1, 2, 3, 4, 5, 6, 7] rfl)
          · refine lv_aload_n F.1 F.2.1 dX7_laysMoved_99 rfl (lv_at hl 6 rfl) ?_
            obtain ⟨r_49a, r_49b⟩ : R mo 6 = some (gh 56 0) ∧ gAr g (gh 56 0) 9 126720 := mR hv hm (q := (6, 126720)) (by decide)
            refine g_getR (ci := 7) (k := 6) F hH rfl (by decide) iX7 hm (by decide) rfl (b := gh 56 0) r_49a k24 dX7_laysMoved_100 ?_
            refine lv_iload F.1 F.2.1 dX7_laysMoved_103 (lv_at hl 1 rfl) ?_
            refine z_iconst F dX7_laysMoved_105 ?_
            refine z_iadd F dX7_laysMoved_106 ?_
            have hx107 : 0 ≤ (v_19 + 4) ∧ (v_19 + 4) < ((126720 : Nat) : Int) ∧ (v_19 + 4) ≤ 2147483647 := ⟨by omega, by omega, by omega⟩
            refine g_iald F hH r_49b hx107.1 hx107.2.1 hx107.2.2 dX7_laysMoved_107 ?_
            refine z_name (fun v_50 ev_50 => ?_)
            have zv_50 : zr v_50 := by rw [ev_50]; exact zr_t _
            refine z_goto (tgt := 112) F dX7_laysMoved_108 (by decide) ?_
            exact cut_112_22 v_50 H locs ls zv_50 hH hS (lv_sub hl [0, 1, 2, 3, 4, 5, 6, 7] rfl)
        refine lv_iload_n F.1 F.2.1 dX7_laysMoved_47 rfl (lv_at hl 3 rfl) ?_
        refine lv_aload_n F.1 F.2.1 dX7_laysMoved_48 rfl (lv_at hl 5 rfl) ?_
        refine z_bipush F dX7_laysMoved_49 (by decide) ?_
        refine lv_iload_n F.1 F.2.1 dX7_laysMoved_51 rfl (lv_at hl 6 rfl) ?_
        have b_51 := mJ hv hm
        unfold mNum1 at b_51
        refine g_calli (g_runV (As := [.int (iI 9), .int (iI rr)]) (rest := [.int (iI i)]) (ci := 7) F hl.1 hH hS hz (c_X7_sizeOf l g gh T I R J AI_1 AJ AR mo 9 rr ⟨by decide, by decide⟩ zrr hv hm hT (by omega) (by omega)) (cwV 2 F.2.2.2.2.1 (good_up gT_X7_sizeOf) rfl rfl rfl hdX7_sizeOf ⟨Nat.le_of_ble_eq_true rfl, Nat.le_of_ble_eq_true rfl⟩) hm (by decide) rfl rfl rfl (Nat.le_of_ble_eq_true rfl) dX7_laysMoved_52 ⟨Nat.zero_le _, Nat.zero_le _⟩) hS (fun v_58 I_52 R_53 J_54 AI_55 AJ_56 AR_57 H locs zv_58 hp_59 hH hS => ?_)
        dsimp only at hp_59
        obtain ⟨rfl, rfl, rfl, rfl, rfl, rfl, q_60, qs52⟩ := hp_59
        rw [ha7] at qs52
        refine z_icmp_ne (tgt := 62) F dX7_laysMoved_55 (by decide) zi zv_58 (fun c_61 => ?_) (fun c_61 => ?_)
        · refine lv_iload F.1 F.2.1 dX7_laysMoved_62 (lv_at hl 2 rfl) ?_
          refine lv_aload_n F.1 F.2.1 dX7_laysMoved_64 rfl (lv_at hl 5 rfl) ?_
          refine z_iconst F dX7_laysMoved_65 ?_
          refine lv_iload_n F.1 F.2.1 dX7_laysMoved_66 rfl (lv_at hl 6 rfl) ?_
          refine g_calli (g_runV (As := [.int (iI 0), .int (iI rr)]) (rest := [.int (iI jj)]) (ci := 7) F hl.1 hH hS hz (c_X7_sizeOf l g gh T I R J AI_1 AJ AR mo 0 rr ⟨by decide, by decide⟩ zrr hv hm hT (by omega) (by omega)) (cwV 2 F.2.2.2.2.1 (good_up gT_X7_sizeOf) rfl rfl rfl hdX7_sizeOf ⟨Nat.le_of_ble_eq_true rfl, Nat.le_of_ble_eq_true rfl⟩) hm (by decide) rfl rfl rfl (Nat.le_of_ble_eq_true rfl) dX7_laysMoved_67 ⟨Nat.zero_le _, Nat.zero_le _⟩) hS (fun v_68 I_62 R_63 J_64 AI_65 AJ_66 AR_67 H locs zv_68 hp_69 hH hS => ?_)
          dsimp only at hp_69
          obtain ⟨rfl, rfl, rfl, rfl, rfl, rfl, q_70, qs67⟩ := hp_69
          rw [ha7] at qs67
          refine z_icmp_ne (tgt := 77) F dX7_laysMoved_70 (by decide) zjj zv_68 (fun c_71 => ?_) (fun c_71 => ?_)
          · refine lv_aload_n F.1 F.2.1 dX7_laysMoved_77 rfl (lv_at hl 5 rfl) ?_
            obtain ⟨r_72a, r_72b⟩ : R mo 6 = some (gh 56 0) ∧ gAr g (gh 56 0) 9 126720 := mR hv hm (q := (6, 126720)) (by decide)
            refine g_getR (ci := 7) (k := 6) F hH rfl (by decide) iX7 hm (by decide) rfl (b := gh 56 0) r_72a k24 dX7_laysMoved_78 ?_
            refine lv_iload F.1 F.2.1 dX7_laysMoved_81 (lv_at hl 1 rfl) ?_
            refine lv_aload_n F.1 F.2.1 dX7_laysMoved_83 rfl (lv_at hl 5 rfl) ?_
            refine g_getR (ci := 7) (k := 6) F hH rfl (by decide) iX7 hm (by decide) rfl (b := gh 56 0) r_72a k24 dX7_laysMoved_84 ?_
            refine lv_iload F.1 F.2.1 dX7_laysMoved_87 (lv_at hl 0 rfl) ?_
            refine g_calli (g_runS (As := [.ref (gh 56 0), .int (iI v_10), .ref (gh 56 0), .int (iI v_19)]) (rest := []) F hl.1 hH hS hz (c_X7_compare l g 126720 126720 I R J AI_1 AJ AR (gh 56 0) v_10 (gh 56 0) v_19 zv_10 zv_19 r_72b r_72b (by omega) (by omega) (by omega) (by omega)) (va_cwS 4 F.2.2.2.2.1 (good_up gT_X7_compare) rfl rfl rfl hdX7_compare.2 ⟨Nat.le_of_ble_eq_true rfl, Nat.le_of_ble_eq_true rfl⟩) rfl rfl (Nat.le_of_ble_eq_true rfl) dX7_laysMoved_89 ⟨Nat.zero_le _, Nat.zero_le _⟩) hS (fun v_79 I_73 R_74 J_75 AI_76 AJ_77 AR_78 H locs zv_79 hp_80 hH hS => ?_)
            dsimp only at hp_80
            obtain ⟨rfl, rfl, rfl, rfl, rfl, rfl, q_81⟩ := hp_80
            exact cut_92_21 v_79 H locs ls zv_79 (by omega) hH hS (lv_sub hl [0, 1, 2, 3, 4, 5, 6] rfl)
          · refine z_iconst F dX7_laysMoved_73 ?_
            refine z_goto (tgt := 92) F dX7_laysMoved_74 (by decide) ?_
            exact cut_92_21 (-1) H locs ls ⟨by decide, by decide⟩ (by omega) hH hS (lv_sub hl [0, 1, 2, 3, 4, 5, 6] rfl)
        · refine z_iconst F dX7_laysMoved_58 ?_
          refine z_goto (tgt := 92) F dX7_laysMoved_59 (by decide) ?_
          exact cut_92_21 1 H locs ls ⟨by decide, by decide⟩ (by omega) hH hS (lv_sub hl [0, 1, 2, 3, 4, 5, 6] rfl)
      refine lv_iload_n F.1 F.2.1 dX7_laysMoved_7 rfl (lv_at hl 1 rfl) ?_
      refine lv_aload_n F.1 F.2.1 dX7_laysMoved_8 rfl (lv_at hl 3 rfl) ?_
      refine z_bipush F dX7_laysMoved_9 (by decide) ?_
      refine lv_iload_n F.1 F.2.1 dX7_laysMoved_11 rfl (lv_at hl 4 rfl) ?_
      have b_82 := mJ hv hm
      unfold mNum1 at b_82
      refine g_calli (g_runV (As := [.int (iI 9), .int (iI rr)]) (rest := [.int (iI i)]) (ci := 7) F hl.1 hH hS hz (c_X7_sizeOf l g gh T I R J AI_1 AJ AR mo 9 rr ⟨by decide, by decide⟩ zrr hv hm hT (by omega) (by omega)) (cwV 2 F.2.2.2.2.1 (good_up gT_X7_sizeOf) rfl rfl rfl hdX7_sizeOf ⟨Nat.le_of_ble_eq_true rfl, Nat.le_of_ble_eq_true rfl⟩) hm (by decide) rfl rfl rfl (Nat.le_of_ble_eq_true rfl) dX7_laysMoved_12 ⟨Nat.zero_le _, Nat.zero_le _⟩) hS (fun v_89 I_83 R_84 J_85 AI_86 AJ_87 AR_88 H locs zv_89 hp_90 hH hS => ?_)
      dsimp only at hp_90
      obtain ⟨rfl, rfl, rfl, rfl, rfl, rfl, q_91, qs12⟩ := hp_90
      rw [ha7] at qs12
      refine z_icmp_lt (tgt := 29) F dX7_laysMoved_15 (by decide) zi zv_89 (fun c_92 => ?_) (fun c_92 => ?_)
      · exact cut_29_2 H locs ls (by omega) hH hS (lv_sub hl [0, 1, 2, 3, 4] rfl)
      · refine lv_iload F.1 F.2.1 dX7_laysMoved_18 (lv_at hl 0 rfl) ?_
        refine lv_aload_n F.1 F.2.1 dX7_laysMoved_20 rfl (lv_at hl 3 rfl) ?_
        refine z_iconst F dX7_laysMoved_21 ?_
        refine lv_iload_n F.1 F.2.1 dX7_laysMoved_22 rfl (lv_at hl 4 rfl) ?_
        refine g_calli (g_runV (As := [.int (iI 0), .int (iI rr)]) (rest := [.int (iI jj)]) (ci := 7) F hl.1 hH hS hz (c_X7_sizeOf l g gh T I R J AI_1 AJ AR mo 0 rr ⟨by decide, by decide⟩ zrr hv hm hT (by omega) (by omega)) (cwV 2 F.2.2.2.2.1 (good_up gT_X7_sizeOf) rfl rfl rfl hdX7_sizeOf ⟨Nat.le_of_ble_eq_true rfl, Nat.le_of_ble_eq_true rfl⟩) hm (by decide) rfl rfl rfl (Nat.le_of_ble_eq_true rfl) dX7_laysMoved_23 ⟨Nat.zero_le _, Nat.zero_le _⟩) hS (fun v_99 I_93 R_94 J_95 AI_96 AJ_97 AR_98 H locs zv_99 hp_100 hH hS => ?_)
        dsimp only at hp_100
        obtain ⟨rfl, rfl, rfl, rfl, rfl, rfl, q_101, qs23⟩ := hp_100
        rw [ha7] at qs23
        refine z_icmp_ge (tgt := 222) F dX7_laysMoved_26 (by decide) zjj zv_99 (fun c_102 => ?_) (fun c_102 => ?_)
        · refine lv_iload_n F.1 F.2.1 dX7_laysMoved_222 rfl (lv_at hl 2 rfl) ?_
          exact g_iret F hr hlk hH hS hz zn ⟨rfl, rfl, rfl, rfl, rfl, hv, hT, ha7, by first | omega | rfl | (dsimp only; omega)⟩ dX7_laysMoved_223
        · exact cut_29_2 H locs ls (by omega) hH hS (lv_sub hl [0, 1, 2, 3, 4] rfl)
  exact cut_7_1 (((240 - 0 - 0) + 1 : Int).toNat) 0 0 0 AI H locs ls ⟨by decide, by decide⟩ ⟨by decide, by decide⟩ ⟨by decide, by decide⟩ hv hT ha7 (by omega) (by omega) hH hS (lv_sub hl [0, 1, 2, 3, 4] rfl)

def rmX7_movedInViews : Room := { frames := 2, cells := 0, slots := 0, locals := 54 }
theorem hdX7_movedInViews : yX7_movedInViews.cls = RX7 ∧ yX7_movedInViews.cls ≠ "java/lang/invoke/MethodHandle" ∧ yX7_movedInViews.cls ≠ "java/lang/invoke/VarHandle" ∧ (parseMethodDescriptor yX7_movedInViews.desc).map (fun d => d.parameters.length) = some 0 := by decide +kernel
set_option maxHeartbeats 4000000 in
set_option maxRecDepth 100000 in
/-- moved in views -/
theorem c_X7_movedInViews (l : Launch) (g : gG) (gh : gGh) (T : Nat → Int32) (I : gI) (R : gR) (J : gJ) (AI : gI) (AJ : gJ) (AR : gR) (mo : Nat) (hv : mInv g gh R I AI) (hm : gO g mo 7) (hT : AI (gh 50 0) = T) : gMet l g yX7_movedInViews tsX7_movedInViews rmX7_movedInViews [.ref mo] (I, R, J, AI, AJ, AR) (gQi g (fun (z : Int) (w : gS) => I = w.1 ∧ R = w.2.1 ∧ J = w.2.2.1 ∧ AJ = w.2.2.2.2.1 ∧ AR = w.2.2.2.2.2 ∧ (mInv g gh R I (w.2.2.2.1)) ∧ ((w.2.2.2.1) (gh 50 0) = T))) := by
  refine gStart (cc := cX7_movedInViews) (maxL := 3) (ret := (some (.int))) (by decide) rfl (Nat.le_of_ble_eq_true rfl) ?_
  intro p e s m below meth c ls F hr hlk hH hz hS hl
  have hl : lv_has ls 3 [(0, .ref mo)] := hl
  have hS : va_S (gA g) s.heap s.heap [] := hS
  obtain ⟨H, hHe⟩ : ∃ H : Heap, H = s.heap := ⟨_, rfl⟩
  obtain ⟨locs, hlo⟩ : ∃ k : List Loc, k = [] := ⟨_, rfl⟩
  have hH : gH g I R J AI AJ AR H := by rw [hHe]; exact hH
  have hS : va_S (gA g) s.heap H locs := by rw [hHe, hlo]; exact hS
  suffices hw : W p l e rmX7_movedInViews s m ([.ref mo] : List Value).toArray below meth c H locs 0 0 (MQ below (gQi g (fun (z : Int) (w : gS) => I = w.1 ∧ R = w.2.1 ∧ J = w.2.2.1 ∧ AJ = w.2.2.2.2.1 ∧ AR = w.2.2.2.2.2 ∧ (mInv g gh R I (w.2.2.2.1)) ∧ ((w.2.2.2.1) (gh 50 0) = T))) ([.ref mo] : List Value).toArray s 0 0 (gA g)) (F0 m 0 ls []) by
    rw [hHe, hlo] at hw; exact hw
  clear hHe hlo
  have hb0 := mJ hv hm
  unfold mNum1 at hb0
  have iX7 : ∀ w ∈ u_ws RX7 TX7 32, w ∈ tsX7_movedInViews := fun w h => List.mem_cons_of_mem _ (inTB7 w h)
  have k64 : Cond.fieldLink RX7 64 (TX7 2).1 (TX7 2).2.1 (TX7 2).2.2.1 ∈ tsX7_movedInViews := List.mem_cons_of_mem _ fl_64
  refine z_iconst F dX7_movedInViews_0 ?_
  refine lv_istore_n (lv' := [(1, .int (iI 0)), (0, .ref mo)]) F.1 F.2.1 dX7_movedInViews_1 rfl hl (by decide) rfl (fun ls hl => ?_)
  refine lv_aload_n F.1 F.2.1 dX7_movedInViews_2 rfl (lv_at hl 1 rfl) ?_
  have b_1 := mJ hv hm
  unfold mNum1 at b_1
  refine g_calli (g_runV (As := []) (rest := []) (ci := 7) F hl.1 hH hS hz (c_X7_tables l g gh T I R J AI AJ AR mo hv hm hT) (cwV 0 F.2.2.2.2.1 (good_up gT_X7_tables) rfl rfl rfl hdX7_tables ⟨Nat.le_of_ble_eq_true rfl, Nat.le_of_ble_eq_true rfl⟩) hm (by decide) rfl rfl rfl (Nat.le_of_ble_eq_true rfl) dX7_movedInViews_3 ⟨Nat.zero_le _, Nat.zero_le _⟩) hS (fun v_8 I_2 R_3 J_4 AI_5 AJ_6 AR_7 H locs zv_8 hp_9 hH hS => ?_)
  dsimp only at hp_9
  obtain ⟨rfl, rfl, rfl, rfl, rfl, rfl, q_10, hvw⟩ := hp_9
  refine lv_istore_n (lv' := [(2, .int (iI v_8)), (1, .int (iI 0)), (0, .ref mo)]) F.1 F.2.1 dX7_movedInViews_6 rfl hl (by decide) rfl (fun ls hl => ?_)
  have cut_7_11 : ∀ (NN : Nat) (n k : Int) (AI_11 : gI) (H : Heap) (locs : List Loc) (ls : Array Slot), zr n → zr k → (mInv g gh R I AI_11) → (AI_11 (gh 50 0) = T) → (0 ≤ k ∧ k ≤ 16 ∧ 0 ≤ n ∧ n ≤ 240 * k) → (16 - k) < ((NN : Nat) : Int) → gH g I R J AI_11 AJ AR H → va_S (gA g) s.heap H locs → lv_has ls 3 [(2, .int (iI k)), (1, .int (iI n)), (0, .ref mo)] → W p l e rmX7_movedInViews s m ([.ref mo] : List Value).toArray below meth c H locs 0 0 (MQ below (gQi g (fun (z : Int) (w : gS) => I = w.1 ∧ R = w.2.1 ∧ J = w.2.2.1 ∧ AJ = w.2.2.2.2.1 ∧ AR = w.2.2.2.2.2 ∧ (mInv g gh R I (w.2.2.2.1)) ∧ ((w.2.2.2.1) (gh 50 0) = T))) ([.ref mo] : List Value).toArray s 0 0 (gA g)) (F0 m 7 ls []) := by
    intro NN7
    induction NN7 with
    | zero =>
      intro n k AI_11 H locs ls zn zk hv hT hk hm7 hH hS hl
      exact absurd hm7 (by omega)
    | succ NN7 ih7 =>
      intro n k AI_11 H locs ls zn zk hv hT hk hm7 hH hS hl
      refine lv_iload_n F.1 F.2.1 dX7_movedInViews_7 rfl (lv_at hl 0 rfl) ?_
      refine lv_aload_n F.1 F.2.1 dX7_movedInViews_8 rfl (lv_at hl 2 rfl) ?_
      refine g_getI (ci := 7) (k := 2) F hH rfl (by decide) iX7 hm (by decide) rfl k64 dX7_movedInViews_9 ?_
      refine z_icmp_ge (tgt := 29) F dX7_movedInViews_12 (by decide) zk (zr_t _) (fun c_13 => ?_) (fun c_13 => ?_)
      · refine lv_iload_n F.1 F.2.1 dX7_movedInViews_29 rfl (lv_at hl 1 rfl) ?_
        exact g_iret F hr hlk hH hS hz zn ⟨rfl, rfl, rfl, rfl, rfl, hv, hT⟩ dX7_movedInViews_30
      · refine lv_iload_n F.1 F.2.1 dX7_movedInViews_15 rfl (lv_at hl 1 rfl) ?_
        refine lv_aload_n F.1 F.2.1 dX7_movedInViews_16 rfl (lv_at hl 2 rfl) ?_
        refine lv_iload_n F.1 F.2.1 dX7_movedInViews_17 rfl (lv_at hl 0 rfl) ?_
        refine g_calli (g_runV (As := [.int (iI k)]) (rest := [.int (iI n)]) (ci := 7) F hl.1 hH hS hz (c_X7_laysMoved l g gh T I R J AI_11 AJ AR mo k zk hv hm hT (by omega)) (cwV 1 F.2.2.2.2.1 (good_up gT_X7_laysMoved) rfl rfl rfl hdX7_laysMoved ⟨Nat.le_of_ble_eq_true rfl, Nat.le_of_ble_eq_true rfl⟩) hm (by decide) rfl rfl rfl (Nat.le_of_ble_eq_true rfl) dX7_movedInViews_18 ⟨Nat.zero_le _, Nat.zero_le _⟩) hS (fun v_20 I_14 R_15 J_16 AI_17 AJ_18 AR_19 H locs zv_20 hp_21 hH hS => ?_)
        dsimp only at hp_21
        obtain ⟨rfl, rfl, rfl, rfl, rfl, hv, hT, haq7, q_22⟩ := hp_21
        refine z_iadd F dX7_movedInViews_21 ?_
        refine lv_istore_n (lv' := [(1, .int (iI (n + v_20))), (2, .int (iI k)), (0, .ref mo)]) F.1 F.2.1 dX7_movedInViews_22 rfl hl (by decide) rfl (fun ls hl => ?_)
        refine z_iinc (lv' := [(2, .int (iI (k + 1))), (1, .int (iI (n + v_20))), (0, .ref mo)]) F dX7_movedInViews_23 hl (k := 1) rfl (by decide) rfl (fun ls hl => ?_)
        refine z_goto (tgt := 7) F dX7_movedInViews_26 (by decide) ?_
        exact ih7 (n + v_20) (k + 1) AI_17 H locs ls ⟨by omega, by omega⟩ ⟨by omega, by omega⟩ hv hT (by omega) (by omega) hH hS (lv_sub hl [0, 1, 2] rfl)
  exact cut_7_11 (((16 - v_8) + 1 : Int).toNat) 0 v_8 AI H locs ls ⟨by decide, by decide⟩ zv_8 hv hT (by omega) (by omega) hH hS (lv_sub hl [0, 1, 2] rfl)

def rmX7_cameTo : Room := { frames := 2, cells := 0, slots := 0, locals := 54 }
theorem hdX7_cameTo : yX7_cameTo.cls = RX7 ∧ yX7_cameTo.cls ≠ "java/lang/invoke/MethodHandle" ∧ yX7_cameTo.cls ≠ "java/lang/invoke/VarHandle" ∧ (parseMethodDescriptor yX7_cameTo.desc).map (fun d => d.parameters.length) = some 1 := by decide +kernel
set_option maxHeartbeats 4000000 in
set_option maxRecDepth 100000 in
/-- what came -/
theorem c_X7_cameTo (l : Launch) (g : gG) (gh : gGh) (T : Nat → Int32) (I : gI) (R : gR) (J : gJ) (AI : gI) (AJ : gJ) (AR : gR) (mo : Nat) (rr : Int) (zrr : zr rr) (hv : mInv g gh R I AI) (hm : gO g mo 7) (hT : AI (gh 50 0) = T) (hr0 : 0 ≤ rr ∧ rr < (I mo 2).toInt) (hk0 : tI T (40 * rr) ≠ 0) : gMet l g yX7_cameTo tsX7_cameTo rmX7_cameTo [.ref mo, .int (iI rr)] (I, R, J, AI, AJ, AR) (gQi g (fun (z : Int) (w : gS) => I = w.1 ∧ R = w.2.1 ∧ J = w.2.2.1 ∧ AJ = w.2.2.2.2.1 ∧ AR = w.2.2.2.2.2 ∧ (mInv g gh R I (w.2.2.2.1)) ∧ ((w.2.2.2.1) (gh 50 0) = T) ∧ (0 ≤ z ∧ z ≤ 480))) := by
  refine gStart (cc := cX7_cameTo) (maxL := 3) (ret := (some (.int))) (by decide) rfl (Nat.le_of_ble_eq_true rfl) ?_
  intro p e s m below meth c ls F hr hlk hH hz hS hl
  have hl : lv_has ls 3 [(0, .ref mo), (1, .int (iI rr))] := hl
  have hS : va_S (gA g) s.heap s.heap [] := hS
  obtain ⟨H, hHe⟩ : ∃ H : Heap, H = s.heap := ⟨_, rfl⟩
  obtain ⟨locs, hlo⟩ : ∃ k : List Loc, k = [] := ⟨_, rfl⟩
  have hH : gH g I R J AI AJ AR H := by rw [hHe]; exact hH
  have hS : va_S (gA g) s.heap H locs := by rw [hHe, hlo]; exact hS
  suffices hw : W p l e rmX7_cameTo s m ([.ref mo, .int (iI rr)] : List Value).toArray below meth c H locs 0 0 (MQ below (gQi g (fun (z : Int) (w : gS) => I = w.1 ∧ R = w.2.1 ∧ J = w.2.2.1 ∧ AJ = w.2.2.2.2.1 ∧ AR = w.2.2.2.2.2 ∧ (mInv g gh R I (w.2.2.2.1)) ∧ ((w.2.2.2.1) (gh 50 0) = T) ∧ (0 ≤ z ∧ z ≤ 480))) ([.ref mo, .int (iI rr)] : List Value).toArray s 0 0 (gA g)) (F0 m 0 ls []) by
    rw [hHe, hlo] at hw; exact hw
  clear hHe hlo
  have hb0 := mJ hv hm
  unfold mNum1 at hb0
  have x := mRow hv hm hT (z := rr) (by omega) (by omega)
  have xa := x.1
  have xc := x.2.2.1
  have xb := x.2.1 (by omega)
  refine lv_aload_n F.1 F.2.1 dX7_cameTo_0 rfl (lv_at hl 0 rfl) ?_
  refine lv_aload_n F.1 F.2.1 dX7_cameTo_1 rfl (lv_at hl 0 rfl) ?_
  refine lv_iload_n F.1 F.2.1 dX7_cameTo_2 rfl (lv_at hl 1 rfl) ?_
  have b_1 := mJ hv hm
  unfold mNum1 at b_1
  refine g_calli (g_runV (As := [.int (iI rr)]) (rest := [.ref mo]) (ci := 7) F hl.1 hH hS hz (c_X7_firstOf l g gh T I R J AI AJ AR mo rr zrr hv hm hT (by omega)) (cwV 1 F.2.2.2.2.1 (good_up gT_X7_firstOf) rfl rfl rfl hdX7_firstOf ⟨Nat.le_of_ble_eq_true rfl, Nat.le_of_ble_eq_true rfl⟩) hm (by decide) rfl rfl rfl (Nat.le_of_ble_eq_true rfl) dX7_cameTo_3 ⟨Nat.zero_le _, Nat.zero_le _⟩) hS (fun v_8 I_2 R_3 J_4 AI_5 AJ_6 AR_7 H locs zv_8 hp_9 hH hS => ?_)
  dsimp only at hp_9
  obtain ⟨rfl, rfl, rfl, rfl, rfl, rfl, q_10⟩ := hp_9
  refine g_calli (g_runV (As := [.int (iI v_8)]) (rest := []) (ci := 7) F hl.1 hH hS hz (c_X7_laysMoved l g gh T I R J AI AJ AR mo v_8 zv_8 hv hm hT (by omega)) (cwV 1 F.2.2.2.2.1 (good_up gT_X7_laysMoved) rfl rfl rfl hdX7_laysMoved ⟨Nat.le_of_ble_eq_true rfl, Nat.le_of_ble_eq_true rfl⟩) hm (by decide) rfl rfl rfl (Nat.le_of_ble_eq_true rfl) dX7_cameTo_6 ⟨Nat.zero_le _, Nat.zero_le _⟩) hS (fun v_17 I_11 R_12 J_13 AI_14 AJ_15 AR_16 H locs zv_17 hp_18 hH hS => ?_)
  dsimp only at hp_18
  obtain ⟨rfl, rfl, rfl, rfl, rfl, hv, hT, haq7, q_19⟩ := hp_18
  refine lv_istore_n (lv' := [(2, .int (iI v_17)), (0, .ref mo), (1, .int (iI rr))]) F.1 F.2.1 dX7_cameTo_9 rfl hl (by decide) rfl (fun ls hl => ?_)
  refine lv_aload_n F.1 F.2.1 dX7_cameTo_10 rfl (lv_at hl 1 rfl) ?_
  refine lv_iload_n F.1 F.2.1 dX7_cameTo_11 rfl (lv_at hl 2 rfl) ?_
  refine g_calli (g_runV (As := [.int (iI rr)]) (rest := []) (ci := 7) F hl.1 hH hS hz (c_X7_secondOf l g gh T I R J AI_14 AJ AR mo rr zrr hv hm hT (by omega)) (cwV 1 F.2.2.2.2.1 (good_up gT_X7_secondOf) rfl rfl rfl hdX7_secondOf ⟨Nat.le_of_ble_eq_true rfl, Nat.le_of_ble_eq_true rfl⟩) hm (by decide) rfl rfl rfl (Nat.le_of_ble_eq_true rfl) dX7_cameTo_12 ⟨Nat.zero_le _, Nat.zero_le _⟩) hS (fun v_26 I_20 R_21 J_22 AI_23 AJ_24 AR_25 H locs zv_26 hp_27 hH hS => ?_)
  dsimp only at hp_27
  obtain ⟨rfl, rfl, rfl, rfl, rfl, rfl, q_28⟩ := hp_27
  refine z_if_ge (tgt := 22) F dX7_cameTo_15 (by decide) zv_26 (fun c_29 => ?_) (fun c_29 => ?_)
  · refine lv_iload_n F.1 F.2.1 dX7_cameTo_22 rfl (lv_at hl 0 rfl) ?_
    refine lv_aload_n F.1 F.2.1 dX7_cameTo_23 rfl (lv_at hl 1 rfl) ?_
    refine lv_aload_n F.1 F.2.1 dX7_cameTo_24 rfl (lv_at hl 1 rfl) ?_
    refine lv_iload_n F.1 F.2.1 dX7_cameTo_25 rfl (lv_at hl 2 rfl) ?_
    refine g_calli (g_runV (As := [.int (iI rr)]) (rest := [.ref mo, .int (iI v_17)]) (ci := 7) F hl.1 hH hS hz (c_X7_secondOf l g gh T I R J AI_14 AJ AR mo rr zrr hv hm hT (by omega)) (cwV 1 F.2.2.2.2.1 (good_up gT_X7_secondOf) rfl rfl rfl hdX7_secondOf ⟨Nat.le_of_ble_eq_true rfl, Nat.le_of_ble_eq_true rfl⟩) hm (by decide) rfl rfl rfl (Nat.le_of_ble_eq_true rfl) dX7_cameTo_26 ⟨Nat.zero_le _, Nat.zero_le _⟩) hS (fun v_36 I_30 R_31 J_32 AI_33 AJ_34 AR_35 H locs zv_36 hp_37 hH hS => ?_)
    dsimp only at hp_37
    obtain ⟨rfl, rfl, rfl, rfl, rfl, rfl, q_38⟩ := hp_37
    refine g_calli (g_runV (As := [.int (iI v_36)]) (rest := [.int (iI v_17)]) (ci := 7) F hl.1 hH hS hz (c_X7_laysMoved l g gh T I R J AI_14 AJ AR mo v_36 zv_36 hv hm hT (by omega)) (cwV 1 F.2.2.2.2.1 (good_up gT_X7_laysMoved) rfl rfl rfl hdX7_laysMoved ⟨Nat.le_of_ble_eq_true rfl, Nat.le_of_ble_eq_true rfl⟩) hm (by decide) rfl rfl rfl (Nat.le_of_ble_eq_true rfl) dX7_cameTo_29 ⟨Nat.zero_le _, Nat.zero_le _⟩) hS (fun v_45 I_39 R_40 J_41 AI_42 AJ_43 AR_44 H locs zv_45 hp_46 hH hS => ?_)
    dsimp only at hp_46
    obtain ⟨rfl, rfl, rfl, rfl, rfl, hv, hT, haq7, q_47⟩ := hp_46
    refine z_iadd F dX7_cameTo_32 ?_
    exact g_iret F hr hlk hH hS hz ⟨by omega, by omega⟩ ⟨rfl, rfl, rfl, rfl, rfl, hv, hT, by first | omega | rfl | (dsimp only; omega)⟩ dX7_cameTo_33
  · refine lv_iload_n F.1 F.2.1 dX7_cameTo_18 rfl (lv_at hl 0 rfl) ?_
    refine z_goto (tgt := 33) F dX7_cameTo_19 (by decide) ?_
    exact g_iret F hr hlk hH hS hz zv_17 ⟨rfl, rfl, rfl, rfl, rfl, hv, hT, by first | omega | rfl | (dsimp only; omega)⟩ dX7_cameTo_33

def rmX7_commit : Room := { frames := 7, cells := 0, slots := 0, locals := 182 }
theorem hdX7_commit : yX7_commit.cls = RX7 ∧ yX7_commit.cls ≠ "java/lang/invoke/MethodHandle" ∧ yX7_commit.cls ≠ "java/lang/invoke/VarHandle" ∧ (parseMethodDescriptor yX7_commit.desc).map (fun d => d.parameters.length) = some 0 := by decide +kernel
set_option maxHeartbeats 4000000 in
set_option maxRecDepth 100000 in
/-- commit -/
theorem c_X7_commit (l : Launch) (g : gG) (gh : gGh) (T : Nat → Int32) (I : gI) (R : gR) (J : gJ) (AI : gI) (AJ : gJ) (AR : gR) (mo : Nat) (hv : mInv g gh R I AI) (hm : gO g mo 7) (hT : AI (gh 50 0) = T) : gMet l g yX7_commit tsX7_commit rmX7_commit [.ref mo] (I, R, J, AI, AJ, AR) (gQi g (fun (z : Int) (w : gS) => R = w.2.1 ∧ J = w.2.2.1 ∧ AJ = w.2.2.2.2.1 ∧ AR = w.2.2.2.2.2 ∧ (mInv g gh R (w.1) (w.2.2.2.1)) ∧ ((w.2.2.2.1) (gh 50 0) = T) ∧ (mF mo I (w.1)) ∧ (((w.1) mo 14).toInt = 0))) := by
  refine gStart (cc := cX7_commit) (maxL := 3) (ret := (some (.int))) (by decide) rfl (Nat.le_of_ble_eq_true rfl) ?_
  intro p e s m below meth c ls F hr hlk hH hz hS hl
  have hl : lv_has ls 3 [(0, .ref mo)] := hl
  have hS : va_S (gA g) s.heap s.heap [] := hS
  obtain ⟨H, hHe⟩ : ∃ H : Heap, H = s.heap := ⟨_, rfl⟩
  obtain ⟨locs, hlo⟩ : ∃ k : List Loc, k = [] := ⟨_, rfl⟩
  have hH : gH g I R J AI AJ AR H := by rw [hHe]; exact hH
  have hS : va_S (gA g) s.heap H locs := by rw [hHe, hlo]; exact hS
  suffices hw : W p l e rmX7_commit s m ([.ref mo] : List Value).toArray below meth c H locs 0 0 (MQ below (gQi g (fun (z : Int) (w : gS) => R = w.2.1 ∧ J = w.2.2.1 ∧ AJ = w.2.2.2.2.1 ∧ AR = w.2.2.2.2.2 ∧ (mInv g gh R (w.1) (w.2.2.2.1)) ∧ ((w.2.2.2.1) (gh 50 0) = T) ∧ (mF mo I (w.1)) ∧ (((w.1) mo 14).toInt = 0))) ([.ref mo] : List Value).toArray s 0 0 (gA g)) (F0 m 0 ls []) by
    rw [hHe, hlo] at hw; exact hw
  clear hHe hlo
  have mf : mF mo I I := mF_r
  have iX7 : ∀ w ∈ u_ws RX7 TX7 32, w ∈ tsX7_commit := fun w h => List.mem_cons_of_mem _ (inTB7 w h)
  have k60 : Cond.fieldLink RX7 60 (TX7 17).1 (TX7 17).2.1 (TX7 17).2.2.1 ∈ tsX7_commit := List.mem_cons_of_mem _ fl_60
  have k266 : Cond.fieldLink RX7 266 (TX7 14).1 (TX7 14).2.1 (TX7 14).2.2.1 ∈ tsX7_commit := List.mem_cons_of_mem _ fl_266
  have k263 : Cond.fieldLink RX7 263 (TX7 10).1 (TX7 10).2.1 (TX7 10).2.2.1 ∈ tsX7_commit := List.mem_cons_of_mem _ fl_263
  have k257 : Cond.fieldLink RX7 257 (TX7 8).1 (TX7 8).2.1 (TX7 8).2.2.1 ∈ tsX7_commit := List.mem_cons_of_mem _ fl_257
  have k260 : Cond.fieldLink RX7 260 (TX7 9).1 (TX7 9).2.1 (TX7 9).2.2.1 ∈ tsX7_commit := List.mem_cons_of_mem _ fl_260
  refine lv_aload_n F.1 F.2.1 dX7_commit_0 rfl (lv_at hl 0 rfl) ?_
  refine z_iconst F dX7_commit_1 ?_
  refine g_putI (ci := 7) (k := 17) F hH hS rfl (by decide) iX7 hm (by decide) tyX7 tyX7_ok nmX7 rfl rfl rfl k60 dX7_commit_2 (fun H locs hH hS => ?_)
  obtain ⟨I_1, eI_1⟩ : ∃ qQ, qQ = gup2 I mo 17 (iI (0)) := ⟨_, rfl⟩
  rw [← eI_1] at hH
  have kI_1 : ∀ b, b ≠ mo → I_1 b = I b := fun b hb => by rw [eI_1]; exact funext fun j => gup2_a _ _ hb
  have w_2 : (I_1 mo 17).toInt = 0 := by rw [eI_1, gup2_s]; exact iI_val ⟨by decide, by decide⟩
  have hv : mInv g gh R I_1 AI := by rw [eI_1]; exact mP17 hv hm
  have mf : mF mo I I_1 := mF_t mf (by rw [eI_1]; exact mF_p (by decide))
  have u_3_2 : (I_1 mo 2).toInt = (I mo 2).toInt := by rw [mf 2 (by decide) (by decide) (by decide) (by decide) (by decide) (by decide)]
  have u_3_5 : (I_1 mo 5).toInt = (I mo 5).toInt := by rw [mf 5 (by decide) (by decide) (by decide) (by decide) (by decide) (by decide)]
  have u_3_16 : (I_1 mo 16).toInt = (I mo 16).toInt := by rw [mf 16 (by decide) (by decide) (by decide) (by decide) (by decide) (by decide)]
  have u_3_24 : (I_1 mo 24).toInt = (I mo 24).toInt := by rw [mf 24 (by decide) (by decide) (by decide) (by decide) (by decide) (by decide)]
  have w_2_k14 : (I_1 mo 14).toInt = (I mo 14).toInt := by rw [eI_1, gup2_k _ _ (by decide)]
  refine lv_aload_n F.1 F.2.1 dX7_commit_5 rfl (lv_at hl 0 rfl) ?_
  have b_4 := mJ hv hm
  unfold mNum1 at b_4
  refine g_calli (g_runV (As := []) (rest := []) (ci := 7) F hl.1 hH hS hz (c_X7_drafts l g gh T I_1 R J AI AJ AR mo hv hm hT) (cwV 0 F.2.2.2.2.1 (good_up gT_X7_drafts) rfl rfl rfl hdX7_drafts ⟨Nat.le_of_ble_eq_true rfl, Nat.le_of_ble_eq_true rfl⟩) hm (by decide) rfl rfl rfl (Nat.le_of_ble_eq_true rfl) dX7_commit_6 ⟨Nat.zero_le _, Nat.zero_le _⟩) hS (fun v_11 I_5 R_6 J_7 AI_8 AJ_9 AR_10 H locs zv_11 hp_12 hH hS => ?_)
  dsimp only at hp_12
  obtain ⟨rfl, rfl, rfl, rfl, hv, hT, wfq⟩ := hp_12
  have mf := mF_t mf (mF_w wfq)
  have u_13_2 : (I_5 mo 2).toInt = (I mo 2).toInt := by rw [mf 2 (by decide) (by decide) (by decide) (by decide) (by decide) (by decide)]
  have u_13_5 : (I_5 mo 5).toInt = (I mo 5).toInt := by rw [mf 5 (by decide) (by decide) (by decide) (by decide) (by decide) (by decide)]
  have u_13_16 : (I_5 mo 16).toInt = (I mo 16).toInt := by rw [mf 16 (by decide) (by decide) (by decide) (by decide) (by decide) (by decide)]
  have u_13_24 : (I_5 mo 24).toInt = (I mo 24).toInt := by rw [mf 24 (by decide) (by decide) (by decide) (by decide) (by decide) (by decide)]
  refine lv_istore_n (lv' := [(1, .int (iI v_11)), (0, .ref mo)]) F.1 F.2.1 dX7_commit_9 rfl hl (by decide) rfl (fun ls hl => ?_)
  refine lv_aload_n F.1 F.2.1 dX7_commit_10 rfl (lv_at hl 1 rfl) ?_
  refine z_iconst F dX7_commit_11 ?_
  refine g_putI (ci := 7) (k := 14) F hH hS rfl (by decide) iX7 hm (by decide) tyX7 tyX7_ok nmX7 rfl rfl rfl k266 dX7_commit_12 (fun H locs hH hS => ?_)
  obtain ⟨I_14, eI_14⟩ : ∃ qQ, qQ = gup2 I_5 mo 14 (iI (0)) := ⟨_, rfl⟩
  rw [← eI_14] at hH
  have kI_14 : ∀ b, b ≠ mo → I_14 b = I_5 b := fun b hb => by rw [eI_14]; exact funext fun j => gup2_a _ _ hb
  have w_15 : (I_14 mo 14).toInt = 0 := by rw [eI_14, gup2_s]; exact iI_val ⟨by decide, by decide⟩
  have hv : mInv g gh R I_14 AI_8 := by rw [eI_14]; exact mP14 hv hm (by omega) (by omega)
  have mf : mF mo I I_14 := mF_t mf (by rw [eI_14]; exact mF_p (by decide))
  have u_16_2 : (I_14 mo 2).toInt = (I mo 2).toInt := by rw [mf 2 (by decide) (by decide) (by decide) (by decide) (by decide) (by decide)]
  have u_16_5 : (I_14 mo 5).toInt = (I mo 5).toInt := by rw [mf 5 (by decide) (by decide) (by decide) (by decide) (by decide) (by decide)]
  have u_16_16 : (I_14 mo 16).toInt = (I mo 16).toInt := by rw [mf 16 (by decide) (by decide) (by decide) (by decide) (by decide) (by decide)]
  have u_16_24 : (I_14 mo 24).toInt = (I mo 24).toInt := by rw [mf 24 (by decide) (by decide) (by decide) (by decide) (by decide) (by decide)]
  refine lv_iload_n F.1 F.2.1 dX7_commit_15 rfl (lv_at hl 0 rfl) ?_
  refine z_if_ge (tgt := 31) F dX7_commit_16 (by decide) zv_11 (fun c_17 => ?_) (fun c_17 => ?_)
  · have cut_76_19 : ∀ (I_18 : gI) (AI_19 : gI) (H : Heap) (locs : List Loc) (ls : Array Slot), (mInv g gh R I_18 AI_19) → (AI_19 (gh 50 0) = T) → (mF mo I I_18) → ((I_18 mo 8).toInt ≤ 7) → ((I_18 mo 14).toInt = 0) → gH g I_18 R J AI_19 AJ AR H → va_S (gA g) s.heap H locs → lv_has ls 3 [(1, .int (iI v_11)), (0, .ref mo)] → W p l e rmX7_commit s m ([.ref mo] : List Value).toArray below meth c H locs 0 0 (MQ below (gQi g (fun (z : Int) (w : gS) => R = w.2.1 ∧ J = w.2.2.1 ∧ AJ = w.2.2.2.2.1 ∧ AR = w.2.2.2.2.2 ∧ (mInv g gh R (w.1) (w.2.2.2.1)) ∧ ((w.2.2.2.1) (gh 50 0) = T) ∧ (mF mo I (w.1)) ∧ (((w.1) mo 14).toInt = 0))) ([.ref mo] : List Value).toArray s 0 0 (gA g)) (F0 m 76 ls []) := by
      intro I_18 AI_19 H locs ls hv hT mf hu hc14 hH hS hl
      have uc_2 : (I_18 mo 2).toInt = (I mo 2).toInt := by rw [mf 2 (by decide) (by decide) (by decide) (by decide) (by decide) (by decide)]
      have uc_5 : (I_18 mo 5).toInt = (I mo 5).toInt := by rw [mf 5 (by decide) (by decide) (by decide) (by decide) (by decide) (by decide)]
      have uc_16 : (I_18 mo 16).toInt = (I mo 16).toInt := by rw [mf 16 (by decide) (by decide) (by decide) (by decide) (by decide) (by decide)]
      have uc_24 : (I_18 mo 24).toInt = (I mo 24).toInt := by rw [mf 24 (by decide) (by decide) (by decide) (by decide) (by decide) (by decide)]
      refine lv_aload_n F.1 F.2.1 dX7_commit_76 rfl (lv_at hl 1 rfl) ?_
      refine z_iconst F dX7_commit_77 ?_
      refine z_iconst F dX7_commit_78 ?_
      refine lv_aload_n F.1 F.2.1 dX7_commit_79 rfl (lv_at hl 1 rfl) ?_
      refine g_getI (ci := 7) (k := 8) F hH rfl (by decide) iX7 hm (by decide) rfl k257 dX7_commit_80 ?_
      have b_21 := mJ hv hm
      unfold mNum1 at b_21
      refine z_iadd F dX7_commit_83 ?_
      refine g_callv (g_runV (As := [.int (iI 0), .int (iI (1 + ((I_18 mo 8).toInt)))]) (rest := []) (ci := 7) F hl.1 hH hS hz (c_X7_copies l g gh T I_18 R J AI_19 AJ AR mo 0 (1 + ((I_18 mo 8).toInt)) ⟨by decide, by decide⟩ ⟨by omega, by omega⟩ hv hm hT (by omega)) (cwV 2 F.2.2.2.2.1 (good_up gT_X7_copies) rfl rfl rfl hdX7_copies ⟨Nat.le_of_ble_eq_true rfl, Nat.le_of_ble_eq_true rfl⟩) hm (by decide) rfl rfl rfl (Nat.le_of_ble_eq_true rfl) dX7_commit_84 ⟨Nat.zero_le _, Nat.zero_le _⟩) hS (fun I_22 R_23 J_24 AI_25 AJ_26 AR_27 H locs hp_28 hH hS => ?_)
      dsimp only at hp_28
      obtain ⟨rfl, rfl, rfl, rfl, rfl, hv, hT⟩ := hp_28
      refine lv_aload_n F.1 F.2.1 dX7_commit_87 rfl (lv_at hl 1 rfl) ?_
      refine lv_dup F.1 F.2.1 dX7_commit_88 rfl ?_
      refine g_getI (ci := 7) (k := 8) F hH rfl (by decide) iX7 hm (by decide) rfl k257 dX7_commit_89 ?_
      refine z_iconst F dX7_commit_92 ?_
      refine z_iadd F dX7_commit_93 ?_
      refine g_putI (ci := 7) (k := 8) F hH hS rfl (by decide) iX7 hm (by decide) tyX7 tyX7_ok nmX7 rfl rfl rfl k257 dX7_commit_94 (fun H locs hH hS => ?_)
      obtain ⟨I_29, eI_29⟩ : ∃ qQ, qQ = gup2 I_18 mo 8 (iI (((I_18 mo 8).toInt) + 1)) := ⟨_, rfl⟩
      rw [← eI_29] at hH
      have kI_29 : ∀ b, b ≠ mo → I_29 b = I_18 b := fun b hb => by rw [eI_29]; exact funext fun j => gup2_a _ _ hb
      have w_30 : (I_29 mo 8).toInt = ((I_18 mo 8).toInt) + 1 := by rw [eI_29, gup2_s]; exact iI_val ⟨by omega, by omega⟩
      have hv : mInv g gh R I_29 AI_25 := by rw [eI_29]; exact mP8 hv hm (by omega) (by omega)
      have mf : mF mo I I_29 := mF_t mf (by rw [eI_29]; exact mF_p (by decide))
      have u_31_2 : (I_29 mo 2).toInt = (I mo 2).toInt := by rw [mf 2 (by decide) (by decide) (by decide) (by decide) (by decide) (by decide)]
      have u_31_5 : (I_29 mo 5).toInt = (I mo 5).toInt := by rw [mf 5 (by decide) (by decide) (by decide) (by decide) (by decide) (by decide)]
      have u_31_16 : (I_29 mo 16).toInt = (I mo 16).toInt := by rw [mf 16 (by decide) (by decide) (by decide) (by decide) (by decide) (by decide)]
      have u_31_24 : (I_29 mo 24).toInt = (I mo 24).toInt := by rw [mf 24 (by decide) (by decide) (by decide) (by decide) (by decide) (by decide)]
      have w_30_k14 : (I_29 mo 14).toInt = (I_18 mo 14).toInt := by rw [eI_29, gup2_k _ _ (by decide)]
      refine lv_aload_n F.1 F.2.1 dX7_commit_97 rfl (lv_at hl 1 rfl) ?_
      refine z_iconst F dX7_commit_98 ?_
      refine z_bipush F dX7_commit_99 (by decide) ?_
      have b_32 := mJ hv hm
      unfold mNum1 at b_32
      refine g_callv (g_runV (As := [.int (iI 0), .int (iI 9)]) (rest := []) (ci := 7) F hl.1 hH hS hz (c_X7_copies l g gh T I_29 R J AI_25 AJ AR mo 0 9 ⟨by decide, by decide⟩ ⟨by decide, by decide⟩ hv hm hT (by omega)) (cwV 2 F.2.2.2.2.1 (good_up gT_X7_copies) rfl rfl rfl hdX7_copies ⟨Nat.le_of_ble_eq_true rfl, Nat.le_of_ble_eq_true rfl⟩) hm (by decide) rfl rfl rfl (Nat.le_of_ble_eq_true rfl) dX7_commit_101 ⟨Nat.zero_le _, Nat.zero_le _⟩) hS (fun I_33 R_34 J_35 AI_36 AJ_37 AR_38 H locs hp_39 hH hS => ?_)
      dsimp only at hp_39
      obtain ⟨rfl, rfl, rfl, rfl, rfl, hv, hT⟩ := hp_39
      refine lv_aload_n F.1 F.2.1 dX7_commit_104 rfl (lv_at hl 1 rfl) ?_
      refine z_bipush F dX7_commit_105 (by decide) ?_
      refine z_iconst F dX7_commit_107 ?_
      refine g_callv (g_runV (As := [.int (iI 10), .int (iI 0)]) (rest := []) (ci := 7) F hl.1 hH hS hz (c_X7_copies l g gh T I_29 R J AI_36 AJ AR mo 10 0 ⟨by decide, by decide⟩ ⟨by decide, by decide⟩ hv hm hT (by omega)) (cwV 2 F.2.2.2.2.1 (good_up gT_X7_copies) rfl rfl rfl hdX7_copies ⟨Nat.le_of_ble_eq_true rfl, Nat.le_of_ble_eq_true rfl⟩) hm (by decide) rfl rfl rfl (Nat.le_of_ble_eq_true rfl) dX7_commit_108 ⟨Nat.zero_le _, Nat.zero_le _⟩) hS (fun I_40 R_41 J_42 AI_43 AJ_44 AR_45 H locs hp_46 hH hS => ?_)
      dsimp only at hp_46
      obtain ⟨rfl, rfl, rfl, rfl, rfl, hv, hT⟩ := hp_46
      refine lv_aload_n F.1 F.2.1 dX7_commit_111 rfl (lv_at hl 1 rfl) ?_
      refine lv_dup F.1 F.2.1 dX7_commit_112 rfl ?_
      refine g_getI (ci := 7) (k := 9) F hH rfl (by decide) iX7 hm (by decide) rfl k260 dX7_commit_113 ?_
      refine z_iconst F dX7_commit_116 ?_
      refine z_iadd F dX7_commit_117 ?_
      refine z_norm (fun v_47 zv_47 ev_47 => ?_)
      refine g_putI (ci := 7) (k := 9) F hH hS rfl (by decide) iX7 hm (by decide) tyX7 tyX7_ok nmX7 rfl rfl rfl k260 dX7_commit_118 (fun H locs hH hS => ?_)
      obtain ⟨I_48, eI_48⟩ : ∃ qQ, qQ = gup2 I_29 mo 9 (iI (v_47)) := ⟨_, rfl⟩
      rw [← eI_48] at hH
      have kI_48 : ∀ b, b ≠ mo → I_48 b = I_29 b := fun b hb => by rw [eI_48]; exact funext fun j => gup2_a _ _ hb
      have hv : mInv g gh R I_48 AI_43 := by rw [eI_48]; exact mP9 hv hm
      have mf : mF mo I I_48 := mF_t mf (by rw [eI_48]; exact mF_p (by decide))
      have u_50_2 : (I_48 mo 2).toInt = (I mo 2).toInt := by rw [mf 2 (by decide) (by decide) (by decide) (by decide) (by decide) (by decide)]
      have u_50_5 : (I_48 mo 5).toInt = (I mo 5).toInt := by rw [mf 5 (by decide) (by decide) (by decide) (by decide) (by decide) (by decide)]
      have u_50_16 : (I_48 mo 16).toInt = (I mo 16).toInt := by rw [mf 16 (by decide) (by decide) (by decide) (by decide) (by decide) (by decide)]
      have u_50_24 : (I_48 mo 24).toInt = (I mo 24).toInt := by rw [mf 24 (by decide) (by decide) (by decide) (by decide) (by decide) (by decide)]
      have w_49_k14 : (I_48 mo 14).toInt = (I_29 mo 14).toInt := by rw [eI_48, gup2_k _ _ (by decide)]
      refine lv_aload_n F.1 F.2.1 dX7_commit_121 rfl (lv_at hl 1 rfl) ?_
      have b_51 := mJ hv hm
      unfold mNum1 at b_51
      refine g_calli (g_runV (As := []) (rest := []) (ci := 7) F hl.1 hH hS hz (c_X7_movedInViews l g gh T I_48 R J AI_43 AJ AR mo hv hm hT) (cwV 0 F.2.2.2.2.1 (good_up gT_X7_movedInViews) rfl rfl rfl hdX7_movedInViews ⟨Nat.le_of_ble_eq_true rfl, Nat.le_of_ble_eq_true rfl⟩) hm (by decide) rfl rfl rfl (Nat.le_of_ble_eq_true rfl) dX7_commit_122 ⟨Nat.zero_le _, Nat.zero_le _⟩) hS (fun v_58 I_52 R_53 J_54 AI_55 AJ_56 AR_57 H locs zv_58 hp_59 hH hS => ?_)
      dsimp only at hp_59
      obtain ⟨rfl, rfl, rfl, rfl, rfl, hv, hT⟩ := hp_59
      exact g_iret F hr hlk hH hS hz zv_58 ⟨rfl, rfl, rfl, rfl, hv, hT, mf, by first | omega | rfl | (dsimp only; omega)⟩ dX7_commit_125
    refine lv_aload_n F.1 F.2.1 dX7_commit_31 rfl (lv_at hl 1 rfl) ?_
    refine g_getI (ci := 7) (k := 8) F hH rfl (by decide) iX7 hm (by decide) rfl k257 dX7_commit_32 ?_
    have b_60 := mJ hv hm
    unfold mNum1 at b_60
    refine z_bipush F dX7_commit_35 (by decide) ?_
    refine z_icmp_ne (tgt := 76) F dX7_commit_37 (by decide) (zr_t _) ⟨by decide, by decide⟩ (fun c_61 => ?_) (fun c_61 => ?_)
    · exact cut_76_19 I_14 AI_8 H locs ls hv hT mf (by omega) (by omega) hH hS (lv_sub hl [0, 1] rfl)
    · refine z_iconst F dX7_commit_40 ?_
      refine lv_istore_n (lv' := [(2, .int (iI 1)), (1, .int (iI v_11)), (0, .ref mo)]) F.1 F.2.1 dX7_commit_41 rfl hl (by decide) rfl (fun ls hl => ?_)
      have cut_42_62 : ∀ (NN : Nat) (k : Int) (AI_62 : gI) (H : Heap) (locs : List Loc) (ls : Array Slot), zr k → (mInv g gh R I_14 AI_62) → (AI_62 (gh 50 0) = T) → (1 ≤ k ∧ k ≤ 8) → (8 - k) < ((NN : Nat) : Int) → gH g I_14 R J AI_62 AJ AR H → va_S (gA g) s.heap H locs → lv_has ls 3 [(2, .int (iI k)), (1, .int (iI v_11)), (0, .ref mo)] → W p l e rmX7_commit s m ([.ref mo] : List Value).toArray below meth c H locs 0 0 (MQ below (gQi g (fun (z : Int) (w : gS) => R = w.2.1 ∧ J = w.2.2.1 ∧ AJ = w.2.2.2.2.1 ∧ AR = w.2.2.2.2.2 ∧ (mInv g gh R (w.1) (w.2.2.2.1)) ∧ ((w.2.2.2.1) (gh 50 0) = T) ∧ (mF mo I (w.1)) ∧ (((w.1) mo 14).toInt = 0))) ([.ref mo] : List Value).toArray s 0 0 (gA g)) (F0 m 42 ls []) := by
        intro NN42
        induction NN42 with
        | zero =>
          intro k AI_62 H locs ls zk hv hT hk hm42 hH hS hl
          exact absurd hm42 (by omega)
        | succ NN42 ih42 =>
          intro k AI_62 H locs ls zk hv hT hk hm42 hH hS hl
          refine lv_iload_n F.1 F.2.1 dX7_commit_42 rfl (lv_at hl 0 rfl) ?_
          refine z_bipush F dX7_commit_43 (by decide) ?_
          refine z_icmp_ge (tgt := 66) F dX7_commit_45 (by decide) zk ⟨by decide, by decide⟩ (fun c_64 => ?_) (fun c_64 => ?_)
          · refine lv_aload_n F.1 F.2.1 dX7_commit_66 rfl (lv_at hl 2 rfl) ?_
            refine lv_dup F.1 F.2.1 dX7_commit_67 rfl ?_
            refine g_getI (ci := 7) (k := 8) F hH rfl (by decide) iX7 hm (by decide) rfl k257 dX7_commit_68 ?_
            refine z_iconst F dX7_commit_71 ?_
            refine z_isub F dX7_commit_72 ?_
            refine g_putI (ci := 7) (k := 8) F hH hS rfl (by decide) iX7 hm (by decide) tyX7 tyX7_ok nmX7 rfl rfl rfl k257 dX7_commit_73 (fun H locs hH hS => ?_)
            obtain ⟨I_65, eI_65⟩ : ∃ qQ, qQ = gup2 I_14 mo 8 (iI (((I_14 mo 8).toInt) - 1)) := ⟨_, rfl⟩
            rw [← eI_65] at hH
            have kI_65 : ∀ b, b ≠ mo → I_65 b = I_14 b := fun b hb => by rw [eI_65]; exact funext fun j => gup2_a _ _ hb
            have w_66 : (I_65 mo 8).toInt = ((I_14 mo 8).toInt) - 1 := by rw [eI_65, gup2_s]; exact iI_val ⟨by omega, by omega⟩
            have hv : mInv g gh R I_65 AI_62 := by rw [eI_65]; exact mP8 hv hm (by omega) (by omega)
            have mf : mF mo I I_65 := mF_t mf (by rw [eI_65]; exact mF_p (by decide))
            have u_67_2 : (I_65 mo 2).toInt = (I mo 2).toInt := by rw [mf 2 (by decide) (by decide) (by decide) (by decide) (by decide) (by decide)]
            have u_67_5 : (I_65 mo 5).toInt = (I mo 5).toInt := by rw [mf 5 (by decide) (by decide) (by decide) (by decide) (by decide) (by decide)]
            have u_67_16 : (I_65 mo 16).toInt = (I mo 16).toInt := by rw [mf 16 (by decide) (by decide) (by decide) (by decide) (by decide) (by decide)]
            have u_67_24 : (I_65 mo 24).toInt = (I mo 24).toInt := by rw [mf 24 (by decide) (by decide) (by decide) (by decide) (by decide) (by decide)]
            have w_66_k14 : (I_65 mo 14).toInt = (I_14 mo 14).toInt := by rw [eI_65, gup2_k _ _ (by decide)]
            exact cut_76_19 I_65 AI_62 H locs ls hv hT mf (by omega) (by omega) hH hS (lv_sub hl [1, 2] rfl)
          · refine lv_aload_n F.1 F.2.1 dX7_commit_48 rfl (lv_at hl 2 rfl) ?_
            refine z_iconst F dX7_commit_49 ?_
            refine lv_iload_n F.1 F.2.1 dX7_commit_50 rfl (lv_at hl 0 rfl) ?_
            refine z_iadd F dX7_commit_51 ?_
            refine z_iconst F dX7_commit_52 ?_
            refine lv_iload_n F.1 F.2.1 dX7_commit_53 rfl (lv_at hl 0 rfl) ?_
            refine z_iadd F dX7_commit_54 ?_
            refine z_iconst F dX7_commit_55 ?_
            refine z_isub F dX7_commit_56 ?_
            refine g_callv (g_runV (As := [.int (iI (1 + k)), .int (iI ((1 + k) - 1))]) (rest := []) (ci := 7) F hl.1 hH hS hz (c_X7_copies l g gh T I_14 R J AI_62 AJ AR mo (1 + k) ((1 + k) - 1) ⟨by omega, by omega⟩ ⟨by omega, by omega⟩ hv hm hT (by omega)) (cwV 2 F.2.2.2.2.1 (good_up gT_X7_copies) rfl rfl rfl hdX7_copies ⟨Nat.le_of_ble_eq_true rfl, Nat.le_of_ble_eq_true rfl⟩) hm (by decide) rfl rfl rfl (Nat.le_of_ble_eq_true rfl) dX7_commit_57 ⟨Nat.zero_le _, Nat.zero_le _⟩) hS (fun I_68 R_69 J_70 AI_71 AJ_72 AR_73 H locs hp_74 hH hS => ?_)
            dsimp only at hp_74
            obtain ⟨rfl, rfl, rfl, rfl, rfl, hv, hT⟩ := hp_74
            refine z_iinc (lv' := [(2, .int (iI (k + 1))), (1, .int (iI v_11)), (0, .ref mo)]) F dX7_commit_60 hl (k := 0) rfl (by decide) rfl (fun ls hl => ?_)
            refine z_goto (tgt := 42) F dX7_commit_63 (by decide) ?_
            exact ih42 (k + 1) AI_71 H locs ls ⟨by omega, by omega⟩ hv hT (by omega) (by omega) hH hS (lv_sub hl [0, 1, 2] rfl)
      exact cut_42_62 (((8 - 1) + 1 : Int).toNat) 1 AI_8 H locs ls ⟨by decide, by decide⟩ hv hT (by omega) (by omega) hH hS (lv_sub hl [0, 1, 2] rfl)
  · refine lv_aload_n F.1 F.2.1 dX7_commit_19 rfl (lv_at hl 1 rfl) ?_
    refine lv_dup F.1 F.2.1 dX7_commit_20 rfl ?_
    refine g_getI (ci := 7) (k := 10) F hH rfl (by decide) iX7 hm (by decide) rfl k263 dX7_commit_21 ?_
    refine z_iconst F dX7_commit_24 ?_
    refine z_iadd F dX7_commit_25 ?_
    refine z_norm (fun v_75 zv_75 ev_75 => ?_)
    refine g_putI (ci := 7) (k := 10) F hH hS rfl (by decide) iX7 hm (by decide) tyX7 tyX7_ok nmX7 rfl rfl rfl k263 dX7_commit_26 (fun H locs hH hS => ?_)
    obtain ⟨I_76, eI_76⟩ : ∃ qQ, qQ = gup2 I_14 mo 10 (iI (v_75)) := ⟨_, rfl⟩
    rw [← eI_76] at hH
    have kI_76 : ∀ b, b ≠ mo → I_76 b = I_14 b := fun b hb => by rw [eI_76]; exact funext fun j => gup2_a _ _ hb
    have hv : mInv g gh R I_76 AI_8 := by rw [eI_76]; exact mP10 hv hm
    have mf : mF mo I I_76 := mF_t mf (by rw [eI_76]; exact mF_p (by decide))
    have u_78_2 : (I_76 mo 2).toInt = (I mo 2).toInt := by rw [mf 2 (by decide) (by decide) (by decide) (by decide) (by decide) (by decide)]
    have u_78_5 : (I_76 mo 5).toInt = (I mo 5).toInt := by rw [mf 5 (by decide) (by decide) (by decide) (by decide) (by decide) (by decide)]
    have u_78_16 : (I_76 mo 16).toInt = (I mo 16).toInt := by rw [mf 16 (by decide) (by decide) (by decide) (by decide) (by decide) (by decide)]
    have u_78_24 : (I_76 mo 24).toInt = (I mo 24).toInt := by rw [mf 24 (by decide) (by decide) (by decide) (by decide) (by decide) (by decide)]
    have w_77_k14 : (I_76 mo 14).toInt = (I_14 mo 14).toInt := by rw [eI_76, gup2_k _ _ (by decide)]
    refine lv_iload_n F.1 F.2.1 dX7_commit_29 rfl (lv_at hl 0 rfl) ?_
    exact g_iret F hr hlk hH hS hz zv_11 ⟨rfl, rfl, rfl, rfl, hv, hT, mf, by first | omega | rfl | (dsimp only; omega)⟩ dX7_commit_30

def rmX7_would : Room := { frames := 7, cells := 0, slots := 0, locals := 182 }
theorem hdX7_would : yX7_would.cls = RX7 ∧ yX7_would.cls ≠ "java/lang/invoke/MethodHandle" ∧ yX7_would.cls ≠ "java/lang/invoke/VarHandle" ∧ (parseMethodDescriptor yX7_would.desc).map (fun d => d.parameters.length) = some 1 := by decide +kernel
set_option maxHeartbeats 4000000 in
set_option maxRecDepth 100000 in
/-- would -/
theorem c_X7_would (l : Launch) (g : gG) (gh : gGh) (T : Nat → Int32) (I : gI) (R : gR) (J : gJ) (AI : gI) (AJ : gJ) (AR : gR) (mo : Nat) (rr : Int) (zrr : zr rr) (hv : mInv g gh R I AI) (hm : gO g mo 7) (hT : AI (gh 50 0) = T) : gMet l g yX7_would tsX7_would rmX7_would [.ref mo, .int (iI rr)] (I, R, J, AI, AJ, AR) (gQi g (fun (z : Int) (w : gS) => R = w.2.1 ∧ J = w.2.2.1 ∧ AJ = w.2.2.2.2.1 ∧ AR = w.2.2.2.2.2 ∧ (mInv g gh R (w.1) (w.2.2.2.1)) ∧ ((w.2.2.2.1) (gh 50 0) = T) ∧ (nF mo I (w.1)))) := by
  refine gStart (cc := cX7_would) (maxL := 3) (ret := (some (.int))) (by decide) rfl (Nat.le_of_ble_eq_true rfl) ?_
  intro p e s m below meth c ls F hr hlk hH hz hS hl
  have hl : lv_has ls 3 [(0, .ref mo), (1, .int (iI rr))] := hl
  have hS : va_S (gA g) s.heap s.heap [] := hS
  obtain ⟨H, hHe⟩ : ∃ H : Heap, H = s.heap := ⟨_, rfl⟩
  obtain ⟨locs, hlo⟩ : ∃ k : List Loc, k = [] := ⟨_, rfl⟩
  have hH : gH g I R J AI AJ AR H := by rw [hHe]; exact hH
  have hS : va_S (gA g) s.heap H locs := by rw [hHe, hlo]; exact hS
  suffices hw : W p l e rmX7_would s m ([.ref mo, .int (iI rr)] : List Value).toArray below meth c H locs 0 0 (MQ below (gQi g (fun (z : Int) (w : gS) => R = w.2.1 ∧ J = w.2.2.1 ∧ AJ = w.2.2.2.2.1 ∧ AR = w.2.2.2.2.2 ∧ (mInv g gh R (w.1) (w.2.2.2.1)) ∧ ((w.2.2.2.1) (gh 50 0) = T) ∧ (nF mo I (w.1)))) ([.ref mo, .int (iI rr)] : List Value).toArray s 0 0 (gA g)) (F0 m 0 ls []) by
    rw [hHe, hlo] at hw; exact hw
  clear hHe hlo
  have nf : nF mo I I := nF_r
  have iX7 : ∀ w ∈ u_ws RX7 TX7 32, w ∈ tsX7_would := fun w h => List.mem_cons_of_mem _ (inTB7 w h)
  have k60 : Cond.fieldLink RX7 60 (TX7 17).1 (TX7 17).2.1 (TX7 17).2.2.1 ∈ tsX7_would := List.mem_cons_of_mem _ fl_60
  refine lv_aload_n F.1 F.2.1 dX7_would_0 rfl (lv_at hl 0 rfl) ?_
  refine z_iconst F dX7_would_1 ?_
  refine g_putI (ci := 7) (k := 17) F hH hS rfl (by decide) iX7 hm (by decide) tyX7 tyX7_ok nmX7 rfl rfl rfl k60 dX7_would_2 (fun H locs hH hS => ?_)
  obtain ⟨I_1, eI_1⟩ : ∃ qQ, qQ = gup2 I mo 17 (iI (0)) := ⟨_, rfl⟩
  rw [← eI_1] at hH
  have kI_1 : ∀ b, b ≠ mo → I_1 b = I b := fun b hb => by rw [eI_1]; exact funext fun j => gup2_a _ _ hb
  have w_2 : (I_1 mo 17).toInt = 0 := by rw [eI_1, gup2_s]; exact iI_val ⟨by decide, by decide⟩
  have hv : mInv g gh R I_1 AI := by rw [eI_1]; exact mP17 hv hm
  have nf : nF mo I I_1 := nF_t nf (by rw [eI_1]; exact nF_p (by decide))
  have u_3_2 : (I_1 mo 2).toInt = (I mo 2).toInt := by rw [nf 2 (by decide) (by decide) (by decide) (by decide) (by decide)]
  have u_3_5 : (I_1 mo 5).toInt = (I mo 5).toInt := by rw [nf 5 (by decide) (by decide) (by decide) (by decide) (by decide)]
  have u_3_14 : (I_1 mo 14).toInt = (I mo 14).toInt := by rw [nf 14 (by decide) (by decide) (by decide) (by decide) (by decide)]
  have u_3_16 : (I_1 mo 16).toInt = (I mo 16).toInt := by rw [nf 16 (by decide) (by decide) (by decide) (by decide) (by decide)]
  have u_3_24 : (I_1 mo 24).toInt = (I mo 24).toInt := by rw [nf 24 (by decide) (by decide) (by decide) (by decide) (by decide)]
  refine lv_aload_n F.1 F.2.1 dX7_would_5 rfl (lv_at hl 0 rfl) ?_
  refine lv_iload_n F.1 F.2.1 dX7_would_6 rfl (lv_at hl 1 rfl) ?_
  have b_4 := mJ hv hm
  unfold mNum1 at b_4
  refine g_calli (g_runV (As := [.int (iI rr)]) (rest := []) (ci := 7) F hl.1 hH hS hz (c_X7_isRelation l g gh T I_1 R J AI AJ AR mo rr zrr hv hm hT) (cwV 1 F.2.2.2.2.1 (good_up gT_X7_isRelation) rfl rfl rfl hdX7_isRelation ⟨Nat.le_of_ble_eq_true rfl, Nat.le_of_ble_eq_true rfl⟩) hm (by decide) rfl rfl rfl (Nat.le_of_ble_eq_true rfl) dX7_would_7 ⟨Nat.zero_le _, Nat.zero_le _⟩) hS (fun v_11 I_5 R_6 J_7 AI_8 AJ_9 AR_10 H locs zv_11 hp_12 hH hS => ?_)
  dsimp only at hp_12
  obtain ⟨rfl, rfl, rfl, rfl, rfl, rfl, q_13⟩ := hp_12
  refine z_if_ne (tgt := 15) F dX7_would_10 (by decide) zv_11 (fun c_14 => ?_) (fun c_14 => ?_)
  · refine lv_aload_n F.1 F.2.1 dX7_would_15 rfl (lv_at hl 0 rfl) ?_
    refine g_calli (g_runV (As := []) (rest := []) (ci := 7) F hl.1 hH hS hz (c_X7_drafts l g gh T I_1 R J AI AJ AR mo hv hm hT) (cwV 0 F.2.2.2.2.1 (good_up gT_X7_drafts) rfl rfl rfl hdX7_drafts ⟨Nat.le_of_ble_eq_true rfl, Nat.le_of_ble_eq_true rfl⟩) hm (by decide) rfl rfl rfl (Nat.le_of_ble_eq_true rfl) dX7_would_16 ⟨Nat.zero_le _, Nat.zero_le _⟩) hS (fun v_21 I_15 R_16 J_17 AI_18 AJ_19 AR_20 H locs zv_21 hp_22 hH hS => ?_)
    dsimp only at hp_22
    obtain ⟨rfl, rfl, rfl, rfl, hv, hT, wfq⟩ := hp_22
    have nf := nF_t nf (nF_w wfq)
    have u_23_2 : (I_15 mo 2).toInt = (I mo 2).toInt := by rw [nf 2 (by decide) (by decide) (by decide) (by decide) (by decide)]
    have u_23_5 : (I_15 mo 5).toInt = (I mo 5).toInt := by rw [nf 5 (by decide) (by decide) (by decide) (by decide) (by decide)]
    have u_23_14 : (I_15 mo 14).toInt = (I mo 14).toInt := by rw [nf 14 (by decide) (by decide) (by decide) (by decide) (by decide)]
    have u_23_16 : (I_15 mo 16).toInt = (I mo 16).toInt := by rw [nf 16 (by decide) (by decide) (by decide) (by decide) (by decide)]
    have u_23_24 : (I_15 mo 24).toInt = (I mo 24).toInt := by rw [nf 24 (by decide) (by decide) (by decide) (by decide) (by decide)]
    refine lv_istore_n (lv' := [(2, .int (iI v_21)), (0, .ref mo), (1, .int (iI rr))]) F.1 F.2.1 dX7_would_19 rfl hl (by decide) rfl (fun ls hl => ?_)
    refine lv_iload_n F.1 F.2.1 dX7_would_20 rfl (lv_at hl 0 rfl) ?_
    refine z_if_ge (tgt := 28) F dX7_would_21 (by decide) zv_21 (fun c_24 => ?_) (fun c_24 => ?_)
    · refine lv_aload_n F.1 F.2.1 dX7_would_28 rfl (lv_at hl 1 rfl) ?_
      refine z_bipush F dX7_would_29 (by decide) ?_
      refine lv_iload_n F.1 F.2.1 dX7_would_31 rfl (lv_at hl 2 rfl) ?_
      have b_25 := mJ hv hm
      unfold mNum1 at b_25
      refine g_calli (g_runV (As := [.int (iI 10), .int (iI rr)]) (rest := []) (ci := 7) F hl.1 hH hS hz (c_X7_sizeOf l g gh T I_15 R J AI_18 AJ AR mo 10 rr ⟨by decide, by decide⟩ zrr hv hm hT (by omega) (by omega)) (cwV 2 F.2.2.2.2.1 (good_up gT_X7_sizeOf) rfl rfl rfl hdX7_sizeOf ⟨Nat.le_of_ble_eq_true rfl, Nat.le_of_ble_eq_true rfl⟩) hm (by decide) rfl rfl rfl (Nat.le_of_ble_eq_true rfl) dX7_would_32 ⟨Nat.zero_le _, Nat.zero_le _⟩) hS (fun v_32 I_26 R_27 J_28 AI_29 AJ_30 AR_31 H locs zv_32 hp_33 hH hS => ?_)
      dsimp only at hp_33
      obtain ⟨rfl, rfl, rfl, rfl, rfl, rfl, q_34, q_35⟩ := hp_33
      exact g_iret F hr hlk hH hS hz zv_32 ⟨rfl, rfl, rfl, rfl, hv, hT, nf⟩ dX7_would_35
    · refine lv_iload_n F.1 F.2.1 dX7_would_24 rfl (lv_at hl 0 rfl) ?_
      refine z_goto (tgt := 35) F dX7_would_25 (by decide) ?_
      exact g_iret F hr hlk hH hS hz zv_21 ⟨rfl, rfl, rfl, rfl, hv, hT, nf⟩ dX7_would_35
  · refine z_iconst F dX7_would_13 ?_
    exact g_iret F hr hlk hH hS hz ⟨by decide, by decide⟩ ⟨rfl, rfl, rfl, rfl, hv, hT, nf⟩ dX7_would_14

def rmX7_undo : Room := { frames := 1, cells := 0, slots := 0, locals := 23 }
theorem hdX7_undo : yX7_undo.cls = RX7 ∧ yX7_undo.cls ≠ "java/lang/invoke/MethodHandle" ∧ yX7_undo.cls ≠ "java/lang/invoke/VarHandle" ∧ (parseMethodDescriptor yX7_undo.desc).map (fun d => d.parameters.length) = some 0 := by decide +kernel
set_option maxHeartbeats 4000000 in
set_option maxRecDepth 100000 in
/-- undo -/
theorem c_X7_undo (l : Launch) (g : gG) (gh : gGh) (T : Nat → Int32) (I : gI) (R : gR) (J : gJ) (AI : gI) (AJ : gJ) (AR : gR) (mo : Nat) (hv : mInv g gh R I AI) (hm : gO g mo 7) (hT : AI (gh 50 0) = T) : gMet l g yX7_undo tsX7_undo rmX7_undo [.ref mo] (I, R, J, AI, AJ, AR) (gQi g (fun (z : Int) (w : gS) => R = w.2.1 ∧ J = w.2.2.1 ∧ AJ = w.2.2.2.2.1 ∧ AR = w.2.2.2.2.2 ∧ (mInv g gh R (w.1) (w.2.2.2.1)) ∧ ((w.2.2.2.1) (gh 50 0) = T) ∧ (nF mo I (w.1)))) := by
  refine gStart (cc := cX7_undo) (maxL := 1) (ret := (some (.int))) (by decide) rfl (Nat.le_of_ble_eq_true rfl) ?_
  intro p e s m below meth c ls F hr hlk hH hz hS hl
  have hl : lv_has ls 1 [(0, .ref mo)] := hl
  have hS : va_S (gA g) s.heap s.heap [] := hS
  obtain ⟨H, hHe⟩ : ∃ H : Heap, H = s.heap := ⟨_, rfl⟩
  obtain ⟨locs, hlo⟩ : ∃ k : List Loc, k = [] := ⟨_, rfl⟩
  have hH : gH g I R J AI AJ AR H := by rw [hHe]; exact hH
  have hS : va_S (gA g) s.heap H locs := by rw [hHe, hlo]; exact hS
  suffices hw : W p l e rmX7_undo s m ([.ref mo] : List Value).toArray below meth c H locs 0 0 (MQ below (gQi g (fun (z : Int) (w : gS) => R = w.2.1 ∧ J = w.2.2.1 ∧ AJ = w.2.2.2.2.1 ∧ AR = w.2.2.2.2.2 ∧ (mInv g gh R (w.1) (w.2.2.2.1)) ∧ ((w.2.2.2.1) (gh 50 0) = T) ∧ (nF mo I (w.1)))) ([.ref mo] : List Value).toArray s 0 0 (gA g)) (F0 m 0 ls []) by
    rw [hHe, hlo] at hw; exact hw
  clear hHe hlo
  have nf : nF mo I I := nF_r
  have iX7 : ∀ w ∈ u_ws RX7 TX7 32, w ∈ tsX7_undo := fun w h => List.mem_cons_of_mem _ (inTB7 w h)
  have k60 : Cond.fieldLink RX7 60 (TX7 17).1 (TX7 17).2.1 (TX7 17).2.2.1 ∈ tsX7_undo := List.mem_cons_of_mem _ fl_60
  have k257 : Cond.fieldLink RX7 257 (TX7 8).1 (TX7 8).2.1 (TX7 8).2.2.1 ∈ tsX7_undo := List.mem_cons_of_mem _ fl_257
  refine lv_aload_n F.1 F.2.1 dX7_undo_0 rfl (lv_at hl 0 rfl) ?_
  refine z_iconst F dX7_undo_1 ?_
  refine g_putI (ci := 7) (k := 17) F hH hS rfl (by decide) iX7 hm (by decide) tyX7 tyX7_ok nmX7 rfl rfl rfl k60 dX7_undo_2 (fun H locs hH hS => ?_)
  obtain ⟨I_1, eI_1⟩ : ∃ qQ, qQ = gup2 I mo 17 (iI (0)) := ⟨_, rfl⟩
  rw [← eI_1] at hH
  have kI_1 : ∀ b, b ≠ mo → I_1 b = I b := fun b hb => by rw [eI_1]; exact funext fun j => gup2_a _ _ hb
  have w_2 : (I_1 mo 17).toInt = 0 := by rw [eI_1, gup2_s]; exact iI_val ⟨by decide, by decide⟩
  have hv : mInv g gh R I_1 AI := by rw [eI_1]; exact mP17 hv hm
  have nf : nF mo I I_1 := nF_t nf (by rw [eI_1]; exact nF_p (by decide))
  have u_3_2 : (I_1 mo 2).toInt = (I mo 2).toInt := by rw [nf 2 (by decide) (by decide) (by decide) (by decide) (by decide)]
  have u_3_5 : (I_1 mo 5).toInt = (I mo 5).toInt := by rw [nf 5 (by decide) (by decide) (by decide) (by decide) (by decide)]
  have u_3_14 : (I_1 mo 14).toInt = (I mo 14).toInt := by rw [nf 14 (by decide) (by decide) (by decide) (by decide) (by decide)]
  have u_3_16 : (I_1 mo 16).toInt = (I mo 16).toInt := by rw [nf 16 (by decide) (by decide) (by decide) (by decide) (by decide)]
  have u_3_24 : (I_1 mo 24).toInt = (I mo 24).toInt := by rw [nf 24 (by decide) (by decide) (by decide) (by decide) (by decide)]
  refine lv_aload_n F.1 F.2.1 dX7_undo_5 rfl (lv_at hl 0 rfl) ?_
  refine g_getI (ci := 7) (k := 8) F hH rfl (by decide) iX7 hm (by decide) rfl k257 dX7_undo_6 ?_
  have b_4 := mJ hv hm
  unfold mNum1 at b_4
  refine z_if_ne (tgt := 14) F dX7_undo_9 (by decide) (zr_t _) (fun c_5 => ?_) (fun c_5 => ?_)
  · refine lv_aload_n F.1 F.2.1 dX7_undo_14 rfl (lv_at hl 0 rfl) ?_
    refine lv_dup F.1 F.2.1 dX7_undo_15 rfl ?_
    refine g_getI (ci := 7) (k := 8) F hH rfl (by decide) iX7 hm (by decide) rfl k257 dX7_undo_16 ?_
    refine z_iconst F dX7_undo_19 ?_
    refine z_isub F dX7_undo_20 ?_
    refine g_putI (ci := 7) (k := 8) F hH hS rfl (by decide) iX7 hm (by decide) tyX7 tyX7_ok nmX7 rfl rfl rfl k257 dX7_undo_21 (fun H locs hH hS => ?_)
    obtain ⟨I_6, eI_6⟩ : ∃ qQ, qQ = gup2 I_1 mo 8 (iI (((I_1 mo 8).toInt) - 1)) := ⟨_, rfl⟩
    rw [← eI_6] at hH
    have kI_6 : ∀ b, b ≠ mo → I_6 b = I_1 b := fun b hb => by rw [eI_6]; exact funext fun j => gup2_a _ _ hb
    have w_7 : (I_6 mo 8).toInt = ((I_1 mo 8).toInt) - 1 := by rw [eI_6, gup2_s]; exact iI_val ⟨by omega, by omega⟩
    have hv : mInv g gh R I_6 AI := by rw [eI_6]; exact mP8 hv hm (by omega) (by omega)
    have nf : nF mo I I_6 := nF_t nf (by rw [eI_6]; exact nF_p (by decide))
    have u_8_2 : (I_6 mo 2).toInt = (I mo 2).toInt := by rw [nf 2 (by decide) (by decide) (by decide) (by decide) (by decide)]
    have u_8_5 : (I_6 mo 5).toInt = (I mo 5).toInt := by rw [nf 5 (by decide) (by decide) (by decide) (by decide) (by decide)]
    have u_8_14 : (I_6 mo 14).toInt = (I mo 14).toInt := by rw [nf 14 (by decide) (by decide) (by decide) (by decide) (by decide)]
    have u_8_16 : (I_6 mo 16).toInt = (I mo 16).toInt := by rw [nf 16 (by decide) (by decide) (by decide) (by decide) (by decide)]
    have u_8_24 : (I_6 mo 24).toInt = (I mo 24).toInt := by rw [nf 24 (by decide) (by decide) (by decide) (by decide) (by decide)]
    refine lv_aload_n F.1 F.2.1 dX7_undo_24 rfl (lv_at hl 0 rfl) ?_
    refine z_iconst F dX7_undo_25 ?_
    refine z_bipush F dX7_undo_26 (by decide) ?_
    have b_9 := mJ hv hm
    unfold mNum1 at b_9
    refine g_callv (g_runV (As := [.int (iI 0), .int (iI 9)]) (rest := []) (ci := 7) F hl.1 hH hS hz (c_X7_copies l g gh T I_6 R J AI AJ AR mo 0 9 ⟨by decide, by decide⟩ ⟨by decide, by decide⟩ hv hm hT (by omega)) (cwV 2 F.2.2.2.2.1 (good_up gT_X7_copies) rfl rfl rfl hdX7_copies ⟨Nat.le_of_ble_eq_true rfl, Nat.le_of_ble_eq_true rfl⟩) hm (by decide) rfl rfl rfl (Nat.le_of_ble_eq_true rfl) dX7_undo_28 ⟨Nat.zero_le _, Nat.zero_le _⟩) hS (fun I_10 R_11 J_12 AI_13 AJ_14 AR_15 H locs hp_16 hH hS => ?_)
    dsimp only at hp_16
    obtain ⟨rfl, rfl, rfl, rfl, rfl, hv, hT⟩ := hp_16
    refine lv_aload_n F.1 F.2.1 dX7_undo_31 rfl (lv_at hl 0 rfl) ?_
    refine z_iconst F dX7_undo_32 ?_
    refine lv_aload_n F.1 F.2.1 dX7_undo_33 rfl (lv_at hl 0 rfl) ?_
    refine g_getI (ci := 7) (k := 8) F hH rfl (by decide) iX7 hm (by decide) rfl k257 dX7_undo_34 ?_
    refine z_iadd F dX7_undo_37 ?_
    refine z_iconst F dX7_undo_38 ?_
    refine g_callv (g_runV (As := [.int (iI (1 + ((I_6 mo 8).toInt))), .int (iI 0)]) (rest := []) (ci := 7) F hl.1 hH hS hz (c_X7_copies l g gh T I_6 R J AI_13 AJ AR mo (1 + ((I_6 mo 8).toInt)) 0 ⟨by omega, by omega⟩ ⟨by decide, by decide⟩ hv hm hT (by omega)) (cwV 2 F.2.2.2.2.1 (good_up gT_X7_copies) rfl rfl rfl hdX7_copies ⟨Nat.le_of_ble_eq_true rfl, Nat.le_of_ble_eq_true rfl⟩) hm (by decide) rfl rfl rfl (Nat.le_of_ble_eq_true rfl) dX7_undo_39 ⟨Nat.zero_le _, Nat.zero_le _⟩) hS (fun I_17 R_18 J_19 AI_20 AJ_21 AR_22 H locs hp_23 hH hS => ?_)
    dsimp only at hp_23
    obtain ⟨rfl, rfl, rfl, rfl, rfl, hv, hT⟩ := hp_23
    refine lv_aload_n F.1 F.2.1 dX7_undo_42 rfl (lv_at hl 0 rfl) ?_
    refine g_getI (ci := 7) (k := 8) F hH rfl (by decide) iX7 hm (by decide) rfl k257 dX7_undo_43 ?_
    exact g_iret F hr hlk hH hS hz (zr_t _) ⟨rfl, rfl, rfl, rfl, hv, hT, nf⟩ dX7_undo_46
  · refine z_iconst F dX7_undo_12 ?_
    exact g_iret F hr hlk hH hS hz ⟨by decide, by decide⟩ ⟨rfl, rfl, rfl, rfl, hv, hT, nf⟩ dX7_undo_13

def rmX7_size : Room := { frames := 2, cells := 0, slots := 0, locals := 43 }
theorem hdX7_size : yX7_size.cls = RX7 ∧ yX7_size.cls ≠ "java/lang/invoke/MethodHandle" ∧ yX7_size.cls ≠ "java/lang/invoke/VarHandle" ∧ (parseMethodDescriptor yX7_size.desc).map (fun d => d.parameters.length) = some 1 := by decide +kernel
set_option maxHeartbeats 4000000 in
set_option maxRecDepth 100000 in
/-- size -/
theorem c_X7_size (l : Launch) (g : gG) (gh : gGh) (T : Nat → Int32) (I : gI) (R : gR) (J : gJ) (AI : gI) (AJ : gJ) (AR : gR) (mo : Nat) (rr : Int) (zrr : zr rr) (hv : mInv g gh R I AI) (hm : gO g mo 7) (hT : AI (gh 50 0) = T) : gMet l g yX7_size tsX7_size rmX7_size [.ref mo, .int (iI rr)] (I, R, J, AI, AJ, AR) (gQi g (fun (z : Int) (w : gS) => R = w.2.1 ∧ J = w.2.2.1 ∧ AI = w.2.2.2.1 ∧ AJ = w.2.2.2.2.1 ∧ AR = w.2.2.2.2.2 ∧ (mInv g gh R (w.1) AI) ∧ (nF mo I (w.1)))) := by
  refine gStart (cc := cX7_size) (maxL := 2) (ret := (some (.int))) (by decide) rfl (Nat.le_of_ble_eq_true rfl) ?_
  intro p e s m below meth c ls F hr hlk hH hz hS hl
  have hl : lv_has ls 2 [(0, .ref mo), (1, .int (iI rr))] := hl
  have hS : va_S (gA g) s.heap s.heap [] := hS
  obtain ⟨H, hHe⟩ : ∃ H : Heap, H = s.heap := ⟨_, rfl⟩
  obtain ⟨locs, hlo⟩ : ∃ k : List Loc, k = [] := ⟨_, rfl⟩
  have hH : gH g I R J AI AJ AR H := by rw [hHe]; exact hH
  have hS : va_S (gA g) s.heap H locs := by rw [hHe, hlo]; exact hS
  suffices hw : W p l e rmX7_size s m ([.ref mo, .int (iI rr)] : List Value).toArray below meth c H locs 0 0 (MQ below (gQi g (fun (z : Int) (w : gS) => R = w.2.1 ∧ J = w.2.2.1 ∧ AI = w.2.2.2.1 ∧ AJ = w.2.2.2.2.1 ∧ AR = w.2.2.2.2.2 ∧ (mInv g gh R (w.1) AI) ∧ (nF mo I (w.1)))) ([.ref mo, .int (iI rr)] : List Value).toArray s 0 0 (gA g)) (F0 m 0 ls []) by
    rw [hHe, hlo] at hw; exact hw
  clear hHe hlo
  have nf : nF mo I I := nF_r
  have iX7 : ∀ w ∈ u_ws RX7 TX7 32, w ∈ tsX7_size := fun w h => List.mem_cons_of_mem _ (inTB7 w h)
  have k60 : Cond.fieldLink RX7 60 (TX7 17).1 (TX7 17).2.1 (TX7 17).2.2.1 ∈ tsX7_size := List.mem_cons_of_mem _ fl_60
  refine lv_aload_n F.1 F.2.1 dX7_size_0 rfl (lv_at hl 0 rfl) ?_
  refine z_iconst F dX7_size_1 ?_
  refine g_putI (ci := 7) (k := 17) F hH hS rfl (by decide) iX7 hm (by decide) tyX7 tyX7_ok nmX7 rfl rfl rfl k60 dX7_size_2 (fun H locs hH hS => ?_)
  obtain ⟨I_1, eI_1⟩ : ∃ qQ, qQ = gup2 I mo 17 (iI (0)) := ⟨_, rfl⟩
  rw [← eI_1] at hH
  have kI_1 : ∀ b, b ≠ mo → I_1 b = I b := fun b hb => by rw [eI_1]; exact funext fun j => gup2_a _ _ hb
  have w_2 : (I_1 mo 17).toInt = 0 := by rw [eI_1, gup2_s]; exact iI_val ⟨by decide, by decide⟩
  have hv : mInv g gh R I_1 AI := by rw [eI_1]; exact mP17 hv hm
  have nf : nF mo I I_1 := nF_t nf (by rw [eI_1]; exact nF_p (by decide))
  have u_3_2 : (I_1 mo 2).toInt = (I mo 2).toInt := by rw [nf 2 (by decide) (by decide) (by decide) (by decide) (by decide)]
  have u_3_5 : (I_1 mo 5).toInt = (I mo 5).toInt := by rw [nf 5 (by decide) (by decide) (by decide) (by decide) (by decide)]
  have u_3_14 : (I_1 mo 14).toInt = (I mo 14).toInt := by rw [nf 14 (by decide) (by decide) (by decide) (by decide) (by decide)]
  have u_3_16 : (I_1 mo 16).toInt = (I mo 16).toInt := by rw [nf 16 (by decide) (by decide) (by decide) (by decide) (by decide)]
  have u_3_24 : (I_1 mo 24).toInt = (I mo 24).toInt := by rw [nf 24 (by decide) (by decide) (by decide) (by decide) (by decide)]
  refine lv_aload_n F.1 F.2.1 dX7_size_5 rfl (lv_at hl 0 rfl) ?_
  refine lv_iload_n F.1 F.2.1 dX7_size_6 rfl (lv_at hl 1 rfl) ?_
  have b_4 := mJ hv hm
  unfold mNum1 at b_4
  refine g_calli (g_runV (As := [.int (iI rr)]) (rest := []) (ci := 7) F hl.1 hH hS hz (c_X7_isRelation l g gh T I_1 R J AI AJ AR mo rr zrr hv hm hT) (cwV 1 F.2.2.2.2.1 (good_up gT_X7_isRelation) rfl rfl rfl hdX7_isRelation ⟨Nat.le_of_ble_eq_true rfl, Nat.le_of_ble_eq_true rfl⟩) hm (by decide) rfl rfl rfl (Nat.le_of_ble_eq_true rfl) dX7_size_7 ⟨Nat.zero_le _, Nat.zero_le _⟩) hS (fun v_11 I_5 R_6 J_7 AI_8 AJ_9 AR_10 H locs zv_11 hp_12 hH hS => ?_)
  dsimp only at hp_12
  obtain ⟨rfl, rfl, rfl, rfl, rfl, rfl, q_13⟩ := hp_12
  refine z_if_eq (tgt := 22) F dX7_size_10 (by decide) zv_11 (fun c_14 => ?_) (fun c_14 => ?_)
  · refine z_iconst F dX7_size_22 ?_
    exact g_iret F hr hlk hH hS hz ⟨by decide, by decide⟩ ⟨rfl, rfl, rfl, rfl, rfl, hv, nf⟩ dX7_size_23
  · refine lv_aload_n F.1 F.2.1 dX7_size_13 rfl (lv_at hl 0 rfl) ?_
    refine z_iconst F dX7_size_14 ?_
    refine lv_iload_n F.1 F.2.1 dX7_size_15 rfl (lv_at hl 1 rfl) ?_
    refine g_calli (g_runV (As := [.int (iI 0), .int (iI rr)]) (rest := []) (ci := 7) F hl.1 hH hS hz (c_X7_sizeOf l g gh T I_1 R J AI AJ AR mo 0 rr ⟨by decide, by decide⟩ zrr hv hm hT (by omega) (by omega)) (cwV 2 F.2.2.2.2.1 (good_up gT_X7_sizeOf) rfl rfl rfl hdX7_sizeOf ⟨Nat.le_of_ble_eq_true rfl, Nat.le_of_ble_eq_true rfl⟩) hm (by decide) rfl rfl rfl (Nat.le_of_ble_eq_true rfl) dX7_size_16 ⟨Nat.zero_le _, Nat.zero_le _⟩) hS (fun v_21 I_15 R_16 J_17 AI_18 AJ_19 AR_20 H locs zv_21 hp_22 hH hS => ?_)
    dsimp only at hp_22
    obtain ⟨rfl, rfl, rfl, rfl, rfl, rfl, q_23, q_24⟩ := hp_22
    refine z_goto (tgt := 23) F dX7_size_19 (by decide) ?_
    exact g_iret F hr hlk hH hS hz zv_21 ⟨rfl, rfl, rfl, rfl, rfl, hv, nf⟩ dX7_size_23

def rmX7_isTold : Room := { frames := 2, cells := 0, slots := 0, locals := 43 }
theorem hdX7_isTold : yX7_isTold.cls = RX7 ∧ yX7_isTold.cls ≠ "java/lang/invoke/MethodHandle" ∧ yX7_isTold.cls ≠ "java/lang/invoke/VarHandle" ∧ (parseMethodDescriptor yX7_isTold.desc).map (fun d => d.parameters.length) = some 2 := by decide +kernel
set_option maxHeartbeats 4000000 in
set_option maxRecDepth 100000 in
/-- told -/
theorem c_X7_isTold (l : Launch) (g : gG) (gh : gGh) (T : Nat → Int32) (I : gI) (R : gR) (J : gJ) (AI : gI) (AJ : gJ) (AR : gR) (mo : Nat) (rr : Int) (wh : Int) (zrr : zr rr) (zwh : zr wh) (hv : mInv g gh R I AI) (hm : gO g mo 7) (hT : AI (gh 50 0) = T) : gMet l g yX7_isTold tsX7_isTold rmX7_isTold [.ref mo, .int (iI rr), .int (iI wh)] (I, R, J, AI, AJ, AR) (gQi g (fun (z : Int) (w : gS) => I = w.1 ∧ R = w.2.1 ∧ J = w.2.2.1 ∧ AI = w.2.2.2.1 ∧ AJ = w.2.2.2.2.1 ∧ AR = w.2.2.2.2.2 ∧ ((z = 0 ∨ z = 1) ∧ (z = 1 → 0 ≤ rr ∧ rr ≤ 15 ∧ 0 ≤ wh ∧ wh ≤ 4)))) := by
  refine gStart (cc := cX7_isTold) (maxL := 3) (ret := (some (.boolean))) (by decide) rfl (Nat.le_of_ble_eq_true rfl) ?_
  intro p e s m below meth c ls F hr hlk hH hz hS hl
  have hl : lv_has ls 3 [(0, .ref mo), (1, .int (iI rr)), (2, .int (iI wh))] := hl
  have hS : va_S (gA g) s.heap s.heap [] := hS
  obtain ⟨H, hHe⟩ : ∃ H : Heap, H = s.heap := ⟨_, rfl⟩
  obtain ⟨locs, hlo⟩ : ∃ k : List Loc, k = [] := ⟨_, rfl⟩
  have hH : gH g I R J AI AJ AR H := by rw [hHe]; exact hH
  have hS : va_S (gA g) s.heap H locs := by rw [hHe, hlo]; exact hS
  suffices hw : W p l e rmX7_isTold s m ([.ref mo, .int (iI rr), .int (iI wh)] : List Value).toArray below meth c H locs 0 0 (MQ below (gQi g (fun (z : Int) (w : gS) => I = w.1 ∧ R = w.2.1 ∧ J = w.2.2.1 ∧ AI = w.2.2.2.1 ∧ AJ = w.2.2.2.2.1 ∧ AR = w.2.2.2.2.2 ∧ ((z = 0 ∨ z = 1) ∧ (z = 1 → 0 ≤ rr ∧ rr ≤ 15 ∧ 0 ≤ wh ∧ wh ≤ 4)))) ([.ref mo, .int (iI rr), .int (iI wh)] : List Value).toArray s 0 0 (gA g)) (F0 m 0 ls []) by
    rw [hHe, hlo] at hw; exact hw
  clear hHe hlo
  refine lv_aload_n F.1 F.2.1 dX7_isTold_0 rfl (lv_at hl 0 rfl) ?_
  refine lv_iload_n F.1 F.2.1 dX7_isTold_1 rfl (lv_at hl 1 rfl) ?_
  have b_1 := mJ hv hm
  unfold mNum1 at b_1
  refine g_calli (g_runV (As := [.int (iI rr)]) (rest := []) (ci := 7) F hl.1 hH hS hz (c_X7_isRelation l g gh T I R J AI AJ AR mo rr zrr hv hm hT) (cwV 1 F.2.2.2.2.1 (good_up gT_X7_isRelation) rfl rfl rfl hdX7_isRelation ⟨Nat.le_of_ble_eq_true rfl, Nat.le_of_ble_eq_true rfl⟩) hm (by decide) rfl rfl rfl (Nat.le_of_ble_eq_true rfl) dX7_isTold_2 ⟨Nat.zero_le _, Nat.zero_le _⟩) hS (fun v_8 I_2 R_3 J_4 AI_5 AJ_6 AR_7 H locs zv_8 hp_9 hH hS => ?_)
  dsimp only at hp_9
  obtain ⟨rfl, rfl, rfl, rfl, rfl, rfl, q_10⟩ := hp_9
  refine z_if_eq (tgt := 32) F dX7_isTold_5 (by decide) zv_8 (fun c_11 => ?_) (fun c_11 => ?_)
  · refine z_iconst F dX7_isTold_32 ?_
    exact g_zret F hr hlk hH hS hz (by omega) ⟨rfl, rfl, rfl, rfl, rfl, rfl, ⟨by omega, fun _ => by omega⟩⟩ dX7_isTold_33
  · refine lv_iload_n F.1 F.2.1 dX7_isTold_8 rfl (lv_at hl 2 rfl) ?_
    refine z_iconst F dX7_isTold_9 ?_
    refine z_icmp_eq (tgt := 28) F dX7_isTold_10 (by decide) zwh ⟨by decide, by decide⟩ (fun c_12 => ?_) (fun c_12 => ?_)
    · refine z_iconst F dX7_isTold_28 ?_
      refine z_goto (tgt := 33) F dX7_isTold_29 (by decide) ?_
      exact g_zret F hr hlk hH hS hz (by omega) ⟨rfl, rfl, rfl, rfl, rfl, rfl, ⟨by omega, fun _ => by omega⟩⟩ dX7_isTold_33
    · have x := mRow hv hm hT (z := rr) (by omega) (by omega)
      have xa := x.1
      refine lv_iload_n F.1 F.2.1 dX7_isTold_13 rfl (lv_at hl 2 rfl) ?_
      refine z_iconst F dX7_isTold_14 ?_
      refine lv_aload_n F.1 F.2.1 dX7_isTold_15 rfl (lv_at hl 0 rfl) ?_
      refine lv_iload_n F.1 F.2.1 dX7_isTold_16 rfl (lv_at hl 1 rfl) ?_
      refine g_calli (g_runV (As := [.int (iI rr)]) (rest := [.int (iI 0), .int (iI wh)]) (ci := 7) F hl.1 hH hS hz (c_X7_columnsOf l g gh T I R J AI AJ AR mo rr zrr hv hm hT (by omega)) (cwV 1 F.2.2.2.2.1 (good_up gT_X7_columnsOf) rfl rfl rfl hdX7_columnsOf ⟨Nat.le_of_ble_eq_true rfl, Nat.le_of_ble_eq_true rfl⟩) hm (by decide) rfl rfl rfl (Nat.le_of_ble_eq_true rfl) dX7_isTold_17 ⟨Nat.zero_le _, Nat.zero_le _⟩) hS (fun v_19 I_13 R_14 J_15 AI_16 AJ_17 AR_18 H locs zv_19 hp_20 hH hS => ?_)
      dsimp only at hp_20
      obtain ⟨rfl, rfl, rfl, rfl, rfl, rfl, q_21⟩ := hp_20
      refine z_iconst F dX7_isTold_20 ?_
      refine z_isub F dX7_isTold_21 ?_
      refine g_calli (g_runS (As := [.int (iI wh), .int (iI 0), .int (iI (v_19 - 1))]) (rest := []) F hl.1 hH hS hz (c_X7_within l g  I R J AI AJ AR wh 0 (v_19 - 1) zwh ⟨by decide, by decide⟩ ⟨by omega, by omega⟩) (va_cwS 3 F.2.2.2.2.1 (good_up gT_X7_within) rfl rfl rfl hdX7_within.2 ⟨Nat.le_of_ble_eq_true rfl, Nat.le_of_ble_eq_true rfl⟩) rfl rfl (Nat.le_of_ble_eq_true rfl) dX7_isTold_22 ⟨Nat.zero_le _, Nat.zero_le _⟩) hS (fun v_28 I_22 R_23 J_24 AI_25 AJ_26 AR_27 H locs zv_28 hp_29 hH hS => ?_)
      dsimp only at hp_29
      obtain ⟨rfl, rfl, rfl, rfl, rfl, rfl, q_30⟩ := hp_29
      refine z_if_eq (tgt := 32) F dX7_isTold_25 (by decide) zv_28 (fun c_31 => ?_) (fun c_31 => ?_)
      · refine z_iconst F dX7_isTold_32 ?_
        exact g_zret F hr hlk hH hS hz (by omega) ⟨rfl, rfl, rfl, rfl, rfl, rfl, ⟨by omega, fun _ => by omega⟩⟩ dX7_isTold_33
      · refine z_iconst F dX7_isTold_28 ?_
        refine z_goto (tgt := 33) F dX7_isTold_29 (by decide) ?_
        exact g_zret F hr hlk hH hS hz (by omega) ⟨rfl, rfl, rfl, rfl, rfl, rfl, ⟨by omega, fun _ => by omega⟩⟩ dX7_isTold_33

def rmX7_at : Room := { frames := 3, cells := 0, slots := 0, locals := 65 }
theorem hdX7_at : yX7_at.cls = RX7 ∧ yX7_at.cls ≠ "java/lang/invoke/MethodHandle" ∧ yX7_at.cls ≠ "java/lang/invoke/VarHandle" ∧ (parseMethodDescriptor yX7_at.desc).map (fun d => d.parameters.length) = some 3 := by decide +kernel
set_option maxHeartbeats 4000000 in
set_option maxRecDepth 100000 in
/-- at -/
theorem c_X7_at (l : Launch) (g : gG) (gh : gGh) (T : Nat → Int32) (I : gI) (R : gR) (J : gJ) (AI : gI) (AJ : gJ) (AR : gR) (mo : Nat) (rr : Int) (ip : Int) (wh : Int) (zrr : zr rr) (zip : zr ip) (zwh : zr wh) (hv : mInv g gh R I AI) (hm : gO g mo 7) (hT : AI (gh 50 0) = T) : gMet l g yX7_at tsX7_at rmX7_at [.ref mo, .int (iI rr), .int (iI ip), .int (iI wh)] (I, R, J, AI, AJ, AR) (gQi g (fun (z : Int) (w : gS) => R = w.2.1 ∧ J = w.2.2.1 ∧ AI = w.2.2.2.1 ∧ AJ = w.2.2.2.2.1 ∧ AR = w.2.2.2.2.2 ∧ (mInv g gh R (w.1) AI) ∧ (nF mo I (w.1)))) := by
  refine gStart (cc := cX7_at) (maxL := 4) (ret := (some (.int))) (by decide) rfl (Nat.le_of_ble_eq_true rfl) ?_
  intro p e s m below meth c ls F hr hlk hH hz hS hl
  have hl : lv_has ls 4 [(0, .ref mo), (1, .int (iI rr)), (2, .int (iI ip)), (3, .int (iI wh))] := hl
  have hS : va_S (gA g) s.heap s.heap [] := hS
  obtain ⟨H, hHe⟩ : ∃ H : Heap, H = s.heap := ⟨_, rfl⟩
  obtain ⟨locs, hlo⟩ : ∃ k : List Loc, k = [] := ⟨_, rfl⟩
  have hH : gH g I R J AI AJ AR H := by rw [hHe]; exact hH
  have hS : va_S (gA g) s.heap H locs := by rw [hHe, hlo]; exact hS
  suffices hw : W p l e rmX7_at s m ([.ref mo, .int (iI rr), .int (iI ip), .int (iI wh)] : List Value).toArray below meth c H locs 0 0 (MQ below (gQi g (fun (z : Int) (w : gS) => R = w.2.1 ∧ J = w.2.2.1 ∧ AI = w.2.2.2.1 ∧ AJ = w.2.2.2.2.1 ∧ AR = w.2.2.2.2.2 ∧ (mInv g gh R (w.1) AI) ∧ (nF mo I (w.1)))) ([.ref mo, .int (iI rr), .int (iI ip), .int (iI wh)] : List Value).toArray s 0 0 (gA g)) (F0 m 0 ls []) by
    rw [hHe, hlo] at hw; exact hw
  clear hHe hlo
  have nf : nF mo I I := nF_r
  have iX7 : ∀ w ∈ u_ws RX7 TX7 32, w ∈ tsX7_at := fun w h => List.mem_cons_of_mem _ (inTB7 w h)
  have k60 : Cond.fieldLink RX7 60 (TX7 17).1 (TX7 17).2.1 (TX7 17).2.2.1 ∈ tsX7_at := List.mem_cons_of_mem _ fl_60
  have k24 : Cond.fieldLink RX7 24 (TX7 6).1 (TX7 6).2.1 (TX7 6).2.2.1 ∈ tsX7_at := List.mem_cons_of_mem _ fl_24
  refine lv_aload_n F.1 F.2.1 dX7_at_0 rfl (lv_at hl 0 rfl) ?_
  refine lv_aload_n F.1 F.2.1 dX7_at_1 rfl (lv_at hl 0 rfl) ?_
  refine lv_iload_n F.1 F.2.1 dX7_at_2 rfl (lv_at hl 1 rfl) ?_
  refine lv_iload_n F.1 F.2.1 dX7_at_3 rfl (lv_at hl 3 rfl) ?_
  have b_1 := mJ hv hm
  unfold mNum1 at b_1
  refine g_calli (g_runV (As := [.int (iI rr), .int (iI wh)]) (rest := [.ref mo]) (ci := 7) F hl.1 hH hS hz (c_X7_isTold l g gh T I R J AI AJ AR mo rr wh zrr zwh hv hm hT) (cwV 2 F.2.2.2.2.1 (good_up gT_X7_isTold) rfl rfl rfl hdX7_isTold ⟨Nat.le_of_ble_eq_true rfl, Nat.le_of_ble_eq_true rfl⟩) hm (by decide) rfl rfl rfl (Nat.le_of_ble_eq_true rfl) dX7_at_4 ⟨Nat.zero_le _, Nat.zero_le _⟩) hS (fun v_8 I_2 R_3 J_4 AI_5 AJ_6 AR_7 H locs zv_8 hp_9 hH hS => ?_)
  dsimp only at hp_9
  obtain ⟨rfl, rfl, rfl, rfl, rfl, rfl, q_10⟩ := hp_9
  refine z_if_eq (tgt := 30) F dX7_at_7 (by decide) zv_8 (fun c_11 => ?_) (fun c_11 => ?_)
  · refine z_iconst F dX7_at_30 ?_
    refine g_putI (ci := 7) (k := 17) F hH hS rfl (by decide) iX7 hm (by decide) tyX7 tyX7_ok nmX7 rfl rfl rfl k60 dX7_at_31 (fun H locs hH hS => ?_)
    obtain ⟨I_12, eI_12⟩ : ∃ qQ, qQ = gup2 I mo 17 (iI (1)) := ⟨_, rfl⟩
    rw [← eI_12] at hH
    have kI_12 : ∀ b, b ≠ mo → I_12 b = I b := fun b hb => by rw [eI_12]; exact funext fun j => gup2_a _ _ hb
    have w_13 : (I_12 mo 17).toInt = 1 := by rw [eI_12, gup2_s]; exact iI_val ⟨by decide, by decide⟩
    have hv : mInv g gh R I_12 AI := by rw [eI_12]; exact mP17 hv hm
    have nf : nF mo I I_12 := nF_t nf (by rw [eI_12]; exact nF_p (by decide))
    have u_14_2 : (I_12 mo 2).toInt = (I mo 2).toInt := by rw [nf 2 (by decide) (by decide) (by decide) (by decide) (by decide)]
    have u_14_5 : (I_12 mo 5).toInt = (I mo 5).toInt := by rw [nf 5 (by decide) (by decide) (by decide) (by decide) (by decide)]
    have u_14_14 : (I_12 mo 14).toInt = (I mo 14).toInt := by rw [nf 14 (by decide) (by decide) (by decide) (by decide) (by decide)]
    have u_14_16 : (I_12 mo 16).toInt = (I mo 16).toInt := by rw [nf 16 (by decide) (by decide) (by decide) (by decide) (by decide)]
    have u_14_24 : (I_12 mo 24).toInt = (I mo 24).toInt := by rw [nf 24 (by decide) (by decide) (by decide) (by decide) (by decide)]
    refine lv_aload_n F.1 F.2.1 dX7_at_34 rfl (lv_at hl 0 rfl) ?_
    refine g_getI (ci := 7) (k := 17) F hH rfl (by decide) iX7 hm (by decide) rfl k60 dX7_at_35 ?_
    refine z_if_ne (tgt := 57) F dX7_at_38 (by decide) (zr_t _) (fun c_15 => ?_) (fun c_15 => ?_)
    · refine z_iconst F dX7_at_57 ?_
      exact g_iret F hr hlk hH hS hz ⟨by decide, by decide⟩ ⟨rfl, rfl, rfl, rfl, rfl, hv, nf⟩ dX7_at_58
    · refine lv_aload_n F.1 F.2.1 dX7_at_41 rfl (lv_at hl 0 rfl) ?_
      obtain ⟨r_16a, r_16b⟩ : R mo 6 = some (gh 56 0) ∧ gAr g (gh 56 0) 9 126720 := mR hv hm (q := (6, 126720)) (by decide)
      refine g_getR (ci := 7) (k := 6) F hH rfl (by decide) iX7 hm (by decide) rfl (b := gh 56 0) r_16a k24 dX7_at_42 ?_
      refine z_iconst F dX7_at_45 ?_
      refine lv_iload_n F.1 F.2.1 dX7_at_46 rfl (lv_at hl 1 rfl) ?_
      refine lv_iload_n F.1 F.2.1 dX7_at_47 rfl (lv_at hl 2 rfl) ?_
      refine g_calli (g_runS (As := [.int (iI 0), .int (iI rr), .int (iI ip)]) (rest := [.ref (gh 56 0)]) F hl.1 hH hS hz (c_X7_spot l g  I_12 R J AI AJ AR 0 rr ip ⟨by decide, by decide⟩ zrr zip (by omega) (by omega) (by omega)) (va_cwS 3 F.2.2.2.2.1 (good_up gT_X7_spot) rfl rfl rfl hdX7_spot.2 ⟨Nat.le_of_ble_eq_true rfl, Nat.le_of_ble_eq_true rfl⟩) rfl rfl (Nat.le_of_ble_eq_true rfl) dX7_at_48 ⟨Nat.zero_le _, Nat.zero_le _⟩) hS (fun v_23 I_17 R_18 J_19 AI_20 AJ_21 AR_22 H locs zv_23 hp_24 hH hS => ?_)
      dsimp only at hp_24
      obtain ⟨rfl, rfl, rfl, rfl, rfl, rfl, q_25⟩ := hp_24
      refine lv_iload_n F.1 F.2.1 dX7_at_51 rfl (lv_at hl 3 rfl) ?_
      refine z_iadd F dX7_at_52 ?_
      have hx53 : 0 ≤ (v_23 + wh) ∧ (v_23 + wh) < ((126720 : Nat) : Int) ∧ (v_23 + wh) ≤ 2147483647 := ⟨by omega, by omega, by omega⟩
      refine g_iald F hH r_16b hx53.1 hx53.2.1 hx53.2.2 dX7_at_53 ?_
      refine z_name (fun v_26 ev_26 => ?_)
      have zv_26 : zr v_26 := by rw [ev_26]; exact zr_t _
      refine z_goto (tgt := 58) F dX7_at_54 (by decide) ?_
      exact g_iret F hr hlk hH hS hz zv_26 ⟨rfl, rfl, rfl, rfl, rfl, hv, nf⟩ dX7_at_58
  · refine lv_iload_n F.1 F.2.1 dX7_at_10 rfl (lv_at hl 2 rfl) ?_
    refine z_iconst F dX7_at_11 ?_
    refine lv_aload_n F.1 F.2.1 dX7_at_12 rfl (lv_at hl 0 rfl) ?_
    refine z_iconst F dX7_at_13 ?_
    refine lv_iload_n F.1 F.2.1 dX7_at_14 rfl (lv_at hl 1 rfl) ?_
    refine g_calli (g_runV (As := [.int (iI 0), .int (iI rr)]) (rest := [.int (iI 0), .int (iI ip), .ref mo]) (ci := 7) F hl.1 hH hS hz (c_X7_sizeOf l g gh T I R J AI AJ AR mo 0 rr ⟨by decide, by decide⟩ zrr hv hm hT (by omega) (by omega)) (cwV 2 F.2.2.2.2.1 (good_up gT_X7_sizeOf) rfl rfl rfl hdX7_sizeOf ⟨Nat.le_of_ble_eq_true rfl, Nat.le_of_ble_eq_true rfl⟩) hm (by decide) rfl rfl rfl (Nat.le_of_ble_eq_true rfl) dX7_at_15 ⟨Nat.zero_le _, Nat.zero_le _⟩) hS (fun v_33 I_27 R_28 J_29 AI_30 AJ_31 AR_32 H locs zv_33 hp_34 hH hS => ?_)
    dsimp only at hp_34
    obtain ⟨rfl, rfl, rfl, rfl, rfl, rfl, q_35, q_36⟩ := hp_34
    refine z_iconst F dX7_at_18 ?_
    refine z_isub F dX7_at_19 ?_
    refine g_calli (g_runS (As := [.int (iI ip), .int (iI 0), .int (iI (v_33 - 1))]) (rest := [.ref mo]) F hl.1 hH hS hz (c_X7_within l g  I R J AI AJ AR ip 0 (v_33 - 1) zip ⟨by decide, by decide⟩ ⟨by omega, by omega⟩) (va_cwS 3 F.2.2.2.2.1 (good_up gT_X7_within) rfl rfl rfl hdX7_within.2 ⟨Nat.le_of_ble_eq_true rfl, Nat.le_of_ble_eq_true rfl⟩) rfl rfl (Nat.le_of_ble_eq_true rfl) dX7_at_20 ⟨Nat.zero_le _, Nat.zero_le _⟩) hS (fun v_43 I_37 R_38 J_39 AI_40 AJ_41 AR_42 H locs zv_43 hp_44 hH hS => ?_)
    dsimp only at hp_44
    obtain ⟨rfl, rfl, rfl, rfl, rfl, rfl, q_45⟩ := hp_44
    refine z_if_eq (tgt := 30) F dX7_at_23 (by decide) zv_43 (fun c_46 => ?_) (fun c_46 => ?_)
    · refine z_iconst F dX7_at_30 ?_
      refine g_putI (ci := 7) (k := 17) F hH hS rfl (by decide) iX7 hm (by decide) tyX7 tyX7_ok nmX7 rfl rfl rfl k60 dX7_at_31 (fun H locs hH hS => ?_)
      obtain ⟨I_47, eI_47⟩ : ∃ qQ, qQ = gup2 I mo 17 (iI (1)) := ⟨_, rfl⟩
      rw [← eI_47] at hH
      have kI_47 : ∀ b, b ≠ mo → I_47 b = I b := fun b hb => by rw [eI_47]; exact funext fun j => gup2_a _ _ hb
      have w_48 : (I_47 mo 17).toInt = 1 := by rw [eI_47, gup2_s]; exact iI_val ⟨by decide, by decide⟩
      have hv : mInv g gh R I_47 AI := by rw [eI_47]; exact mP17 hv hm
      have nf : nF mo I I_47 := nF_t nf (by rw [eI_47]; exact nF_p (by decide))
      have u_49_2 : (I_47 mo 2).toInt = (I mo 2).toInt := by rw [nf 2 (by decide) (by decide) (by decide) (by decide) (by decide)]
      have u_49_5 : (I_47 mo 5).toInt = (I mo 5).toInt := by rw [nf 5 (by decide) (by decide) (by decide) (by decide) (by decide)]
      have u_49_14 : (I_47 mo 14).toInt = (I mo 14).toInt := by rw [nf 14 (by decide) (by decide) (by decide) (by decide) (by decide)]
      have u_49_16 : (I_47 mo 16).toInt = (I mo 16).toInt := by rw [nf 16 (by decide) (by decide) (by decide) (by decide) (by decide)]
      have u_49_24 : (I_47 mo 24).toInt = (I mo 24).toInt := by rw [nf 24 (by decide) (by decide) (by decide) (by decide) (by decide)]
      refine lv_aload_n F.1 F.2.1 dX7_at_34 rfl (lv_at hl 0 rfl) ?_
      refine g_getI (ci := 7) (k := 17) F hH rfl (by decide) iX7 hm (by decide) rfl k60 dX7_at_35 ?_
      refine z_if_ne (tgt := 57) F dX7_at_38 (by decide) (zr_t _) (fun c_50 => ?_) (fun c_50 => ?_)
      · refine z_iconst F dX7_at_57 ?_
        exact g_iret F hr hlk hH hS hz ⟨by decide, by decide⟩ ⟨rfl, rfl, rfl, rfl, rfl, hv, nf⟩ dX7_at_58
      · refine lv_aload_n F.1 F.2.1 dX7_at_41 rfl (lv_at hl 0 rfl) ?_
        obtain ⟨r_51a, r_51b⟩ : R mo 6 = some (gh 56 0) ∧ gAr g (gh 56 0) 9 126720 := mR hv hm (q := (6, 126720)) (by decide)
        refine g_getR (ci := 7) (k := 6) F hH rfl (by decide) iX7 hm (by decide) rfl (b := gh 56 0) r_51a k24 dX7_at_42 ?_
        refine z_iconst F dX7_at_45 ?_
        refine lv_iload_n F.1 F.2.1 dX7_at_46 rfl (lv_at hl 1 rfl) ?_
        refine lv_iload_n F.1 F.2.1 dX7_at_47 rfl (lv_at hl 2 rfl) ?_
        refine g_calli (g_runS (As := [.int (iI 0), .int (iI rr), .int (iI ip)]) (rest := [.ref (gh 56 0)]) F hl.1 hH hS hz (c_X7_spot l g  I_47 R J AI AJ AR 0 rr ip ⟨by decide, by decide⟩ zrr zip (by omega) (by omega) (by omega)) (va_cwS 3 F.2.2.2.2.1 (good_up gT_X7_spot) rfl rfl rfl hdX7_spot.2 ⟨Nat.le_of_ble_eq_true rfl, Nat.le_of_ble_eq_true rfl⟩) rfl rfl (Nat.le_of_ble_eq_true rfl) dX7_at_48 ⟨Nat.zero_le _, Nat.zero_le _⟩) hS (fun v_58 I_52 R_53 J_54 AI_55 AJ_56 AR_57 H locs zv_58 hp_59 hH hS => ?_)
        dsimp only at hp_59
        obtain ⟨rfl, rfl, rfl, rfl, rfl, rfl, q_60⟩ := hp_59
        refine lv_iload_n F.1 F.2.1 dX7_at_51 rfl (lv_at hl 3 rfl) ?_
        refine z_iadd F dX7_at_52 ?_
        have hx53 : 0 ≤ (v_58 + wh) ∧ (v_58 + wh) < ((126720 : Nat) : Int) ∧ (v_58 + wh) ≤ 2147483647 := ⟨by omega, by omega, by omega⟩
        refine g_iald F hH r_51b hx53.1 hx53.2.1 hx53.2.2 dX7_at_53 ?_
        refine z_name (fun v_61 ev_61 => ?_)
        have zv_61 : zr v_61 := by rw [ev_61]; exact zr_t _
        refine z_goto (tgt := 58) F dX7_at_54 (by decide) ?_
        exact g_iret F hr hlk hH hS hz zv_61 ⟨rfl, rfl, rfl, rfl, rfl, hv, nf⟩ dX7_at_58
    · refine z_iconst F dX7_at_26 ?_
      refine z_goto (tgt := 31) F dX7_at_27 (by decide) ?_
      refine g_putI (ci := 7) (k := 17) F hH hS rfl (by decide) iX7 hm (by decide) tyX7 tyX7_ok nmX7 rfl rfl rfl k60 dX7_at_31 (fun H locs hH hS => ?_)
      obtain ⟨I_62, eI_62⟩ : ∃ qQ, qQ = gup2 I mo 17 (iI (0)) := ⟨_, rfl⟩
      rw [← eI_62] at hH
      have kI_62 : ∀ b, b ≠ mo → I_62 b = I b := fun b hb => by rw [eI_62]; exact funext fun j => gup2_a _ _ hb
      have w_63 : (I_62 mo 17).toInt = 0 := by rw [eI_62, gup2_s]; exact iI_val ⟨by decide, by decide⟩
      have hv : mInv g gh R I_62 AI := by rw [eI_62]; exact mP17 hv hm
      have nf : nF mo I I_62 := nF_t nf (by rw [eI_62]; exact nF_p (by decide))
      have u_64_2 : (I_62 mo 2).toInt = (I mo 2).toInt := by rw [nf 2 (by decide) (by decide) (by decide) (by decide) (by decide)]
      have u_64_5 : (I_62 mo 5).toInt = (I mo 5).toInt := by rw [nf 5 (by decide) (by decide) (by decide) (by decide) (by decide)]
      have u_64_14 : (I_62 mo 14).toInt = (I mo 14).toInt := by rw [nf 14 (by decide) (by decide) (by decide) (by decide) (by decide)]
      have u_64_16 : (I_62 mo 16).toInt = (I mo 16).toInt := by rw [nf 16 (by decide) (by decide) (by decide) (by decide) (by decide)]
      have u_64_24 : (I_62 mo 24).toInt = (I mo 24).toInt := by rw [nf 24 (by decide) (by decide) (by decide) (by decide) (by decide)]
      refine lv_aload_n F.1 F.2.1 dX7_at_34 rfl (lv_at hl 0 rfl) ?_
      refine g_getI (ci := 7) (k := 17) F hH rfl (by decide) iX7 hm (by decide) rfl k60 dX7_at_35 ?_
      refine z_if_ne (tgt := 57) F dX7_at_38 (by decide) (zr_t _) (fun c_65 => ?_) (fun c_65 => ?_)
      · refine z_iconst F dX7_at_57 ?_
        exact g_iret F hr hlk hH hS hz ⟨by decide, by decide⟩ ⟨rfl, rfl, rfl, rfl, rfl, hv, nf⟩ dX7_at_58
      · refine lv_aload_n F.1 F.2.1 dX7_at_41 rfl (lv_at hl 0 rfl) ?_
        obtain ⟨r_66a, r_66b⟩ : R mo 6 = some (gh 56 0) ∧ gAr g (gh 56 0) 9 126720 := mR hv hm (q := (6, 126720)) (by decide)
        refine g_getR (ci := 7) (k := 6) F hH rfl (by decide) iX7 hm (by decide) rfl (b := gh 56 0) r_66a k24 dX7_at_42 ?_
        refine z_iconst F dX7_at_45 ?_
        refine lv_iload_n F.1 F.2.1 dX7_at_46 rfl (lv_at hl 1 rfl) ?_
        refine lv_iload_n F.1 F.2.1 dX7_at_47 rfl (lv_at hl 2 rfl) ?_
        refine g_calli (g_runS (As := [.int (iI 0), .int (iI rr), .int (iI ip)]) (rest := [.ref (gh 56 0)]) F hl.1 hH hS hz (c_X7_spot l g  I_62 R J AI AJ AR 0 rr ip ⟨by decide, by decide⟩ zrr zip (by omega) (by omega) (by omega)) (va_cwS 3 F.2.2.2.2.1 (good_up gT_X7_spot) rfl rfl rfl hdX7_spot.2 ⟨Nat.le_of_ble_eq_true rfl, Nat.le_of_ble_eq_true rfl⟩) rfl rfl (Nat.le_of_ble_eq_true rfl) dX7_at_48 ⟨Nat.zero_le _, Nat.zero_le _⟩) hS (fun v_73 I_67 R_68 J_69 AI_70 AJ_71 AR_72 H locs zv_73 hp_74 hH hS => ?_)
        dsimp only at hp_74
        obtain ⟨rfl, rfl, rfl, rfl, rfl, rfl, q_75⟩ := hp_74
        refine lv_iload_n F.1 F.2.1 dX7_at_51 rfl (lv_at hl 3 rfl) ?_
        refine z_iadd F dX7_at_52 ?_
        have hx53 : 0 ≤ (v_73 + wh) ∧ (v_73 + wh) < ((126720 : Nat) : Int) ∧ (v_73 + wh) ≤ 2147483647 := ⟨by omega, by omega, by omega⟩
        refine g_iald F hH r_66b hx53.1 hx53.2.1 hx53.2.2 dX7_at_53 ?_
        refine z_name (fun v_76 ev_76 => ?_)
        have zv_76 : zr v_76 := by rw [ev_76]; exact zr_t _
        refine z_goto (tgt := 58) F dX7_at_54 (by decide) ?_
        exact g_iret F hr hlk hH hS hz zv_76 ⟨rfl, rfl, rfl, rfl, rfl, hv, nf⟩ dX7_at_58

def rmX7_find : Room := { frames := 1, cells := 0, slots := 0, locals := 24 }
theorem hdX7_find : yX7_find.cls = RX7 ∧ yX7_find.cls ≠ "java/lang/invoke/MethodHandle" ∧ yX7_find.cls ≠ "java/lang/invoke/VarHandle" ∧ (parseMethodDescriptor yX7_find.desc).map (fun d => d.parameters.length) = some 6 := by decide +kernel
set_option maxHeartbeats 4000000 in
set_option maxRecDepth 100000 in
/-- find -/
theorem c_X7_find (l : Launch) (g : gG) (gh : gGh) (T : Nat → Int32) (I : gI) (R : gR) (J : gJ) (AI : gI) (AJ : gJ) (AR : gR) (mo : Nat) (sd : Int) (rr : Int) (a1 : Int) (b1 : Int) (c1 : Int) (d1 : Int) (zsd : zr sd) (zrr : zr rr) (za1 : zr a1) (zb1 : zr b1) (zc1 : zr c1) (zd1 : zr d1) (hv : mInv g gh R I AI) (hm : gO g mo 7) (hT : AI (gh 50 0) = T) (hs : 0 ≤ sd ∧ sd ≤ 10) (hr0 : 0 ≤ rr ∧ rr ≤ 15) : gMet l g yX7_find tsX7_find rmX7_find [.ref mo, .int (iI sd), .int (iI rr), .int (iI a1), .int (iI b1), .int (iI c1), .int (iI d1)] (I, R, J, AI, AJ, AR) (gQi g (fun (z : Int) (w : gS) => I = w.1 ∧ R = w.2.1 ∧ J = w.2.2.1 ∧ AJ = w.2.2.2.2.1 ∧ AR = w.2.2.2.2.2 ∧ (mInv g gh R I (w.2.2.2.1)) ∧ ((w.2.2.2.1) (gh 50 0) = T) ∧ (-1 ≤ z ∧ z ≤ 119))) := by
  refine gStart (cc := cX7_find) (maxL := 9) (ret := (some (.int))) (by decide) rfl (Nat.le_of_ble_eq_true rfl) ?_
  intro p e s m below meth c ls F hr hlk hH hz hS hl
  have hl : lv_has ls 9 [(0, .ref mo), (1, .int (iI sd)), (2, .int (iI rr)), (3, .int (iI a1)), (4, .int (iI b1)), (5, .int (iI c1)), (6, .int (iI d1))] := hl
  have hS : va_S (gA g) s.heap s.heap [] := hS
  obtain ⟨H, hHe⟩ : ∃ H : Heap, H = s.heap := ⟨_, rfl⟩
  obtain ⟨locs, hlo⟩ : ∃ k : List Loc, k = [] := ⟨_, rfl⟩
  have hH : gH g I R J AI AJ AR H := by rw [hHe]; exact hH
  have hS : va_S (gA g) s.heap H locs := by rw [hHe, hlo]; exact hS
  suffices hw : W p l e rmX7_find s m ([.ref mo, .int (iI sd), .int (iI rr), .int (iI a1), .int (iI b1), .int (iI c1), .int (iI d1)] : List Value).toArray below meth c H locs 0 0 (MQ below (gQi g (fun (z : Int) (w : gS) => I = w.1 ∧ R = w.2.1 ∧ J = w.2.2.1 ∧ AJ = w.2.2.2.2.1 ∧ AR = w.2.2.2.2.2 ∧ (mInv g gh R I (w.2.2.2.1)) ∧ ((w.2.2.2.1) (gh 50 0) = T) ∧ (-1 ≤ z ∧ z ≤ 119))) ([.ref mo, .int (iI sd), .int (iI rr), .int (iI a1), .int (iI b1), .int (iI c1), .int (iI d1)] : List Value).toArray s 0 0 (gA g)) (F0 m 0 ls []) by
    rw [hHe, hlo] at hw; exact hw
  clear hHe hlo
  have iX7 : ∀ w ∈ u_ws RX7 TX7 32, w ∈ tsX7_find := fun w h => List.mem_cons_of_mem _ (inTB7 w h)
  have k45 : Cond.fieldLink RX7 45 (TX7 27).1 (TX7 27).2.1 (TX7 27).2.2.1 ∈ tsX7_find := List.mem_cons_of_mem _ fl_45
  have k24 : Cond.fieldLink RX7 24 (TX7 6).1 (TX7 6).2.1 (TX7 6).2.2.1 ∈ tsX7_find := List.mem_cons_of_mem _ fl_24
  refine lv_aload_n F.1 F.2.1 dX7_find_0 rfl (lv_at hl 0 rfl) ?_
  refine lv_iload_n F.1 F.2.1 dX7_find_1 rfl (lv_at hl 2 rfl) ?_
  have b_1 := mJ hv hm
  unfold mNum1 at b_1
  refine g_calli (g_runV (As := [.int (iI rr)]) (rest := []) (ci := 7) F hl.1 hH hS hz (c_X7_columnsOf l g gh T I R J AI AJ AR mo rr zrr hv hm hT (by omega)) (cwV 1 F.2.2.2.2.1 (good_up gT_X7_columnsOf) rfl rfl rfl hdX7_columnsOf ⟨Nat.le_of_ble_eq_true rfl, Nat.le_of_ble_eq_true rfl⟩) hm (by decide) rfl rfl rfl (Nat.le_of_ble_eq_true rfl) dX7_find_2 ⟨Nat.zero_le _, Nat.zero_le _⟩) hS (fun v_8 I_2 R_3 J_4 AI_5 AJ_6 AR_7 H locs zv_8 hp_9 hH hS => ?_)
  dsimp only at hp_9
  obtain ⟨rfl, rfl, rfl, rfl, rfl, rfl, q_10⟩ := hp_9
  refine lv_istore (lv' := [(7, .int (iI v_8)), (0, .ref mo), (1, .int (iI sd)), (2, .int (iI rr)), (3, .int (iI a1)), (4, .int (iI b1)), (5, .int (iI c1)), (6, .int (iI d1))]) F.1 F.2.1 dX7_find_5 hl (by decide) rfl (fun ls hl => ?_)
  refine lv_aload_n F.1 F.2.1 dX7_find_7 rfl (lv_at hl 1 rfl) ?_
  obtain ⟨r_11a, r_11b⟩ : R mo 27 = some (gh 77 0) ∧ gAr g (gh 77 0) 9 4 := mR hv hm (q := (27, 4)) (by decide)
  refine g_getR (ci := 7) (k := 27) F hH rfl (by decide) iX7 hm (by decide) rfl (b := gh 77 0) r_11a k45 dX7_find_8 ?_
  refine z_iconst F dX7_find_11 ?_
  refine lv_iload_n F.1 F.2.1 dX7_find_12 rfl (lv_at hl 4 rfl) ?_
  have hx13 : 0 ≤ (0 : Int) ∧ (0 : Int) < ((4 : Nat) : Int) ∧ (0 : Int) ≤ 2147483647 := ⟨by omega, by omega, by omega⟩
  refine g_iast F hH hS r_11b hx13.1 hx13.2.1 hx13.2.2 dX7_find_13 (fun H locs hH hS => ?_)
  obtain ⟨AI_12, eAI_12⟩ : ∃ qQ, qQ = gup2 AI (gh 77 0) ((0 : Int)).toNat (iI (a1)) := ⟨_, rfl⟩
  rw [← eAI_12] at hH
  have kAI_12 : ∀ b, b ≠ (gh 77 0) → AI_12 b = AI b := fun b hb => by rw [eAI_12]; exact funext fun j => gup2_a _ _ hb
  have t_13 : AI_12 (gh 50 0) = AI (gh 50 0) := mK hv hm (p := (0, 640)) (q := (27, 4)) (by decide) (by decide) (by decide) kAI_12
  have hv : mInv g gh R I AI_12 := mInv_a hv hm (q := (27, 4)) (by decide) (by decide) kAI_12
  have hT : AI_12 (gh 50 0) = T := t_13.trans hT
  refine lv_aload_n F.1 F.2.1 dX7_find_14 rfl (lv_at hl 1 rfl) ?_
  refine g_getR (ci := 7) (k := 27) F hH rfl (by decide) iX7 hm (by decide) rfl (b := gh 77 0) r_11a k45 dX7_find_15 ?_
  refine z_iconst F dX7_find_18 ?_
  have cut_31_13 : ∀ (t1 : Int) (H : Heap) (locs : List Loc) (ls : Array Slot), zr t1 → gH g I R J AI_12 AJ AR H → va_S (gA g) s.heap H locs → lv_has ls 9 [(7, .int (iI v_8)), (0, .ref mo), (1, .int (iI sd)), (2, .int (iI rr)), (3, .int (iI a1)), (4, .int (iI b1)), (5, .int (iI c1)), (6, .int (iI d1))] → W p l e rmX7_find s m ([.ref mo, .int (iI sd), .int (iI rr), .int (iI a1), .int (iI b1), .int (iI c1), .int (iI d1)] : List Value).toArray below meth c H locs 0 0 (MQ below (gQi g (fun (z : Int) (w : gS) => I = w.1 ∧ R = w.2.1 ∧ J = w.2.2.1 ∧ AJ = w.2.2.2.2.1 ∧ AR = w.2.2.2.2.2 ∧ (mInv g gh R I (w.2.2.2.1)) ∧ ((w.2.2.2.1) (gh 50 0) = T) ∧ (-1 ≤ z ∧ z ≤ 119))) ([.ref mo, .int (iI sd), .int (iI rr), .int (iI a1), .int (iI b1), .int (iI c1), .int (iI d1)] : List Value).toArray s 0 0 (gA g)) (F0 m 31 ls [.int (iI t1), .int (iI 1), .ref (gh 77 0)]) := by
    intro t1 H locs ls zt1 hH hS hl
    have hx31 : 0 ≤ (1 : Int) ∧ (1 : Int) < ((4 : Nat) : Int) ∧ (1 : Int) ≤ 2147483647 := ⟨by omega, by omega, by omega⟩
    refine g_iast F hH hS r_11b hx31.1 hx31.2.1 hx31.2.2 dX7_find_31 (fun H locs hH hS => ?_)
    obtain ⟨AI_15, eAI_15⟩ : ∃ qQ, qQ = gup2 AI_12 (gh 77 0) ((1 : Int)).toNat (iI (t1)) := ⟨_, rfl⟩
    rw [← eAI_15] at hH
    have kAI_15 : ∀ b, b ≠ (gh 77 0) → AI_15 b = AI_12 b := fun b hb => by rw [eAI_15]; exact funext fun j => gup2_a _ _ hb
    have t_16 : AI_15 (gh 50 0) = AI_12 (gh 50 0) := mK hv hm (p := (0, 640)) (q := (27, 4)) (by decide) (by decide) (by decide) kAI_15
    have hv : mInv g gh R I AI_15 := mInv_a hv hm (q := (27, 4)) (by decide) (by decide) kAI_15
    have hT : AI_15 (gh 50 0) = T := t_16.trans hT
    refine lv_aload_n F.1 F.2.1 dX7_find_32 rfl (lv_at hl 1 rfl) ?_
    refine g_getR (ci := 7) (k := 27) F hH rfl (by decide) iX7 hm (by decide) rfl (b := gh 77 0) r_11a k45 dX7_find_33 ?_
    refine z_iconst F dX7_find_36 ?_
    have cut_49_16 : ∀ (t2 : Int) (H : Heap) (locs : List Loc) (ls : Array Slot), zr t2 → gH g I R J AI_15 AJ AR H → va_S (gA g) s.heap H locs → lv_has ls 9 [(7, .int (iI v_8)), (0, .ref mo), (1, .int (iI sd)), (2, .int (iI rr)), (3, .int (iI a1)), (4, .int (iI b1)), (5, .int (iI c1)), (6, .int (iI d1))] → W p l e rmX7_find s m ([.ref mo, .int (iI sd), .int (iI rr), .int (iI a1), .int (iI b1), .int (iI c1), .int (iI d1)] : List Value).toArray below meth c H locs 0 0 (MQ below (gQi g (fun (z : Int) (w : gS) => I = w.1 ∧ R = w.2.1 ∧ J = w.2.2.1 ∧ AJ = w.2.2.2.2.1 ∧ AR = w.2.2.2.2.2 ∧ (mInv g gh R I (w.2.2.2.1)) ∧ ((w.2.2.2.1) (gh 50 0) = T) ∧ (-1 ≤ z ∧ z ≤ 119))) ([.ref mo, .int (iI sd), .int (iI rr), .int (iI a1), .int (iI b1), .int (iI c1), .int (iI d1)] : List Value).toArray s 0 0 (gA g)) (F0 m 49 ls [.int (iI t2), .int (iI 2), .ref (gh 77 0)]) := by
      intro t2 H locs ls zt2 hH hS hl
      have hx49 : 0 ≤ (2 : Int) ∧ (2 : Int) < ((4 : Nat) : Int) ∧ (2 : Int) ≤ 2147483647 := ⟨by omega, by omega, by omega⟩
      refine g_iast F hH hS r_11b hx49.1 hx49.2.1 hx49.2.2 dX7_find_49 (fun H locs hH hS => ?_)
      obtain ⟨AI_18, eAI_18⟩ : ∃ qQ, qQ = gup2 AI_15 (gh 77 0) ((2 : Int)).toNat (iI (t2)) := ⟨_, rfl⟩
      rw [← eAI_18] at hH
      have kAI_18 : ∀ b, b ≠ (gh 77 0) → AI_18 b = AI_15 b := fun b hb => by rw [eAI_18]; exact funext fun j => gup2_a _ _ hb
      have t_19 : AI_18 (gh 50 0) = AI_15 (gh 50 0) := mK hv hm (p := (0, 640)) (q := (27, 4)) (by decide) (by decide) (by decide) kAI_18
      have hv : mInv g gh R I AI_18 := mInv_a hv hm (q := (27, 4)) (by decide) (by decide) kAI_18
      have hT : AI_18 (gh 50 0) = T := t_19.trans hT
      refine lv_aload_n F.1 F.2.1 dX7_find_50 rfl (lv_at hl 1 rfl) ?_
      refine g_getR (ci := 7) (k := 27) F hH rfl (by decide) iX7 hm (by decide) rfl (b := gh 77 0) r_11a k45 dX7_find_51 ?_
      refine z_iconst F dX7_find_54 ?_
      have cut_67_19 : ∀ (t3 : Int) (H : Heap) (locs : List Loc) (ls : Array Slot), zr t3 → gH g I R J AI_18 AJ AR H → va_S (gA g) s.heap H locs → lv_has ls 9 [(7, .int (iI v_8)), (0, .ref mo), (1, .int (iI sd)), (2, .int (iI rr)), (3, .int (iI a1)), (4, .int (iI b1)), (5, .int (iI c1)), (6, .int (iI d1))] → W p l e rmX7_find s m ([.ref mo, .int (iI sd), .int (iI rr), .int (iI a1), .int (iI b1), .int (iI c1), .int (iI d1)] : List Value).toArray below meth c H locs 0 0 (MQ below (gQi g (fun (z : Int) (w : gS) => I = w.1 ∧ R = w.2.1 ∧ J = w.2.2.1 ∧ AJ = w.2.2.2.2.1 ∧ AR = w.2.2.2.2.2 ∧ (mInv g gh R I (w.2.2.2.1)) ∧ ((w.2.2.2.1) (gh 50 0) = T) ∧ (-1 ≤ z ∧ z ≤ 119))) ([.ref mo, .int (iI sd), .int (iI rr), .int (iI a1), .int (iI b1), .int (iI c1), .int (iI d1)] : List Value).toArray s 0 0 (gA g)) (F0 m 67 ls [.int (iI t3), .int (iI 3), .ref (gh 77 0)]) := by
        intro t3 H locs ls zt3 hH hS hl
        have hx67 : 0 ≤ (3 : Int) ∧ (3 : Int) < ((4 : Nat) : Int) ∧ (3 : Int) ≤ 2147483647 := ⟨by omega, by omega, by omega⟩
        refine g_iast F hH hS r_11b hx67.1 hx67.2.1 hx67.2.2 dX7_find_67 (fun H locs hH hS => ?_)
        obtain ⟨AI_21, eAI_21⟩ : ∃ qQ, qQ = gup2 AI_18 (gh 77 0) ((3 : Int)).toNat (iI (t3)) := ⟨_, rfl⟩
        rw [← eAI_21] at hH
        have kAI_21 : ∀ b, b ≠ (gh 77 0) → AI_21 b = AI_18 b := fun b hb => by rw [eAI_21]; exact funext fun j => gup2_a _ _ hb
        have t_22 : AI_21 (gh 50 0) = AI_18 (gh 50 0) := mK hv hm (p := (0, 640)) (q := (27, 4)) (by decide) (by decide) (by decide) kAI_21
        have hv : mInv g gh R I AI_21 := mInv_a hv hm (q := (27, 4)) (by decide) (by decide) kAI_21
        have hT : AI_21 (gh 50 0) = T := t_22.trans hT
        refine z_iconst F dX7_find_68 ?_
        refine lv_istore (lv' := [(8, .int (iI 0)), (7, .int (iI v_8)), (0, .ref mo), (1, .int (iI sd)), (2, .int (iI rr)), (3, .int (iI a1)), (4, .int (iI b1)), (5, .int (iI c1)), (6, .int (iI d1))]) F.1 F.2.1 dX7_find_69 hl (by decide) rfl (fun ls hl => ?_)
        have cut_71_22 : ∀ (NN : Nat) (i : Int) (H : Heap) (locs : List Loc) (ls : Array Slot), zr i → (0 ≤ i ∧ i ≤ 120) → (120 - i) < ((NN : Nat) : Int) → gH g I R J AI_21 AJ AR H → va_S (gA g) s.heap H locs → lv_has ls 9 [(8, .int (iI i)), (7, .int (iI v_8)), (0, .ref mo), (1, .int (iI sd)), (2, .int (iI rr)), (3, .int (iI a1)), (4, .int (iI b1)), (5, .int (iI c1)), (6, .int (iI d1))] → W p l e rmX7_find s m ([.ref mo, .int (iI sd), .int (iI rr), .int (iI a1), .int (iI b1), .int (iI c1), .int (iI d1)] : List Value).toArray below meth c H locs 0 0 (MQ below (gQi g (fun (z : Int) (w : gS) => I = w.1 ∧ R = w.2.1 ∧ J = w.2.2.1 ∧ AJ = w.2.2.2.2.1 ∧ AR = w.2.2.2.2.2 ∧ (mInv g gh R I (w.2.2.2.1)) ∧ ((w.2.2.2.1) (gh 50 0) = T) ∧ (-1 ≤ z ∧ z ≤ 119))) ([.ref mo, .int (iI sd), .int (iI rr), .int (iI a1), .int (iI b1), .int (iI c1), .int (iI d1)] : List Value).toArray s 0 0 (gA g)) (F0 m 71 ls []) := by
          intro NN71
          induction NN71 with
          | zero =>
            intro i H locs ls zi hi hm71 hH hS hl
            exact absurd hm71 (by omega)
          | succ NN71 ih71 =>
            intro i H locs ls zi hi hm71 hH hS hl
            refine lv_iload F.1 F.2.1 dX7_find_71 (lv_at hl 0 rfl) ?_
            refine lv_aload_n F.1 F.2.1 dX7_find_73 rfl (lv_at hl 2 rfl) ?_
            refine lv_iload_n F.1 F.2.1 dX7_find_74 rfl (lv_at hl 3 rfl) ?_
            refine lv_iload_n F.1 F.2.1 dX7_find_75 rfl (lv_at hl 4 rfl) ?_
            refine g_calli (g_runV (As := [.int (iI sd), .int (iI rr)]) (rest := [.int (iI i)]) (ci := 7) F hl.1 hH hS hz (c_X7_sizeOf l g gh T I R J AI_21 AJ AR mo sd rr zsd zrr hv hm hT (by omega) (by omega)) (cwV 2 F.2.2.2.2.1 (good_up gT_X7_sizeOf) rfl rfl rfl hdX7_sizeOf ⟨Nat.le_of_ble_eq_true rfl, Nat.le_of_ble_eq_true rfl⟩) hm (by decide) rfl rfl rfl (Nat.le_of_ble_eq_true rfl) dX7_find_76 ⟨Nat.zero_le _, Nat.zero_le _⟩) hS (fun v_30 I_24 R_25 J_26 AI_27 AJ_28 AR_29 H locs zv_30 hp_31 hH hS => ?_)
            dsimp only at hp_31
            obtain ⟨rfl, rfl, rfl, rfl, rfl, rfl, q_32, q_33⟩ := hp_31
            refine z_icmp_ge (tgt := 113) F dX7_find_79 (by decide) zi zv_30 (fun c_34 => ?_) (fun c_34 => ?_)
            · refine z_iconst F dX7_find_113 ?_
              exact g_iret F hr hlk hH hS hz ⟨by decide, by decide⟩ ⟨rfl, rfl, rfl, rfl, rfl, hv, hT, by first | omega | rfl | (dsimp only; omega)⟩ dX7_find_114
            · refine lv_aload_n F.1 F.2.1 dX7_find_82 rfl (lv_at hl 2 rfl) ?_
              obtain ⟨r_35a, r_35b⟩ : R mo 6 = some (gh 56 0) ∧ gAr g (gh 56 0) 9 126720 := mR hv hm (q := (6, 126720)) (by decide)
              refine g_getR (ci := 7) (k := 6) F hH rfl (by decide) iX7 hm (by decide) rfl (b := gh 56 0) r_35a k24 dX7_find_83 ?_
              refine lv_iload_n F.1 F.2.1 dX7_find_86 rfl (lv_at hl 3 rfl) ?_
              refine lv_iload_n F.1 F.2.1 dX7_find_87 rfl (lv_at hl 4 rfl) ?_
              refine lv_iload F.1 F.2.1 dX7_find_88 (lv_at hl 0 rfl) ?_
              refine g_calli (g_runS (As := [.int (iI sd), .int (iI rr), .int (iI i)]) (rest := [.ref (gh 56 0)]) F hl.1 hH hS hz (c_X7_spot l g  I R J AI_21 AJ AR sd rr i zsd zrr zi (by omega) (by omega) (by omega)) (va_cwS 3 F.2.2.2.2.1 (good_up gT_X7_spot) rfl rfl rfl hdX7_spot.2 ⟨Nat.le_of_ble_eq_true rfl, Nat.le_of_ble_eq_true rfl⟩) rfl rfl (Nat.le_of_ble_eq_true rfl) dX7_find_90 ⟨Nat.zero_le _, Nat.zero_le _⟩) hS (fun v_42 I_36 R_37 J_38 AI_39 AJ_40 AR_41 H locs zv_42 hp_43 hH hS => ?_)
              dsimp only at hp_43
              obtain ⟨rfl, rfl, rfl, rfl, rfl, rfl, q_44⟩ := hp_43
              refine lv_aload_n F.1 F.2.1 dX7_find_93 rfl (lv_at hl 2 rfl) ?_
              refine g_getR (ci := 7) (k := 27) F hH rfl (by decide) iX7 hm (by decide) rfl (b := gh 77 0) r_11a k45 dX7_find_94 ?_
              refine z_iconst F dX7_find_97 ?_
              refine g_calli (g_runS (As := [.ref (gh 56 0), .int (iI v_42), .ref (gh 77 0), .int (iI 0)]) (rest := []) F hl.1 hH hS hz (c_X7_compare l g 126720 4 I R J AI_21 AJ AR (gh 56 0) v_42 (gh 77 0) 0 zv_42 ⟨by decide, by decide⟩ r_35b r_11b (by omega) (by omega) (by omega) (by omega)) (va_cwS 4 F.2.2.2.2.1 (good_up gT_X7_compare) rfl rfl rfl hdX7_compare.2 ⟨Nat.le_of_ble_eq_true rfl, Nat.le_of_ble_eq_true rfl⟩) rfl rfl (Nat.le_of_ble_eq_true rfl) dX7_find_98 ⟨Nat.zero_le _, Nat.zero_le _⟩) hS (fun v_51 I_45 R_46 J_47 AI_48 AJ_49 AR_50 H locs zv_51 hp_52 hH hS => ?_)
              dsimp only at hp_52
              obtain ⟨rfl, rfl, rfl, rfl, rfl, rfl, q_53⟩ := hp_52
              refine z_if_ne (tgt := 107) F dX7_find_101 (by decide) zv_51 (fun c_54 => ?_) (fun c_54 => ?_)
              · refine z_iinc (lv' := [(8, .int (iI (i + 1))), (7, .int (iI v_8)), (0, .ref mo), (1, .int (iI sd)), (2, .int (iI rr)), (3, .int (iI a1)), (4, .int (iI b1)), (5, .int (iI c1)), (6, .int (iI d1))]) F dX7_find_107 hl (k := 0) rfl (by decide) rfl (fun ls hl => ?_)
                refine z_goto (tgt := 71) F dX7_find_110 (by decide) ?_
                exact ih71 (i + 1) H locs ls ⟨by omega, by omega⟩ (by omega) (by omega) hH hS (lv_sub hl [0, 1, 2, 3, 4, 5, 6, 7, 8] rfl)
              · refine lv_iload F.1 F.2.1 dX7_find_104 (lv_at hl 0 rfl) ?_
                exact g_iret F hr hlk hH hS hz zi ⟨rfl, rfl, rfl, rfl, rfl, hv, hT, by first | omega | rfl | (dsimp only; omega)⟩ dX7_find_106
        exact cut_71_22 (((120 - 0) + 1 : Int).toNat) 0 H locs ls ⟨by decide, by decide⟩ (by omega) (by omega) hH hS (lv_sub hl [0, 1, 2, 3, 4, 5, 6, 7, 8] rfl)
      refine lv_iload F.1 F.2.1 dX7_find_55 (lv_at hl 0 rfl) ?_
      refine z_iconst F dX7_find_57 ?_
      refine z_icmp_le (tgt := 66) F dX7_find_58 (by decide) zv_8 ⟨by decide, by decide⟩ (fun c_55 => ?_) (fun c_55 => ?_)
      · refine z_iconst F dX7_find_66 ?_
        exact cut_67_19 0 H locs ls ⟨by decide, by decide⟩ hH hS (lv_sub hl [0, 1, 2, 3, 4, 5, 6, 7] rfl)
      · refine lv_iload F.1 F.2.1 dX7_find_61 (lv_at hl 7 rfl) ?_
        refine z_goto (tgt := 67) F dX7_find_63 (by decide) ?_
        exact cut_67_19 d1 H locs ls zd1 hH hS (lv_sub hl [0, 1, 2, 3, 4, 5, 6, 7] rfl)
    refine lv_iload F.1 F.2.1 dX7_find_37 (lv_at hl 0 rfl) ?_
    refine z_iconst F dX7_find_39 ?_
    refine z_icmp_le (tgt := 48) F dX7_find_40 (by decide) zv_8 ⟨by decide, by decide⟩ (fun c_56 => ?_) (fun c_56 => ?_)
    · refine z_iconst F dX7_find_48 ?_
      exact cut_49_16 0 H locs ls ⟨by decide, by decide⟩ hH hS (lv_sub hl [0, 1, 2, 3, 4, 5, 6, 7] rfl)
    · refine lv_iload F.1 F.2.1 dX7_find_43 (lv_at hl 6 rfl) ?_
      refine z_goto (tgt := 49) F dX7_find_45 (by decide) ?_
      exact cut_49_16 c1 H locs ls zc1 hH hS (lv_sub hl [0, 1, 2, 3, 4, 5, 6, 7] rfl)
  refine lv_iload F.1 F.2.1 dX7_find_19 (lv_at hl 0 rfl) ?_
  refine z_iconst F dX7_find_21 ?_
  refine z_icmp_le (tgt := 30) F dX7_find_22 (by decide) zv_8 ⟨by decide, by decide⟩ (fun c_57 => ?_) (fun c_57 => ?_)
  · refine z_iconst F dX7_find_30 ?_
    exact cut_31_13 0 H locs ls ⟨by decide, by decide⟩ hH hS (lv_sub hl [0, 1, 2, 3, 4, 5, 6, 7] rfl)
  · refine lv_iload F.1 F.2.1 dX7_find_25 (lv_at hl 5 rfl) ?_
    refine z_goto (tgt := 31) F dX7_find_27 (by decide) ?_
    exact cut_31_13 b1 H locs ls zb1 hH hS (lv_sub hl [0, 1, 2, 3, 4, 5, 6, 7] rfl)

def rmX7_count : Room := { frames := 2, cells := 0, slots := 0, locals := 52 }
theorem hdX7_count : yX7_count.cls = RX7 ∧ yX7_count.cls ≠ "java/lang/invoke/MethodHandle" ∧ yX7_count.cls ≠ "java/lang/invoke/VarHandle" ∧ (parseMethodDescriptor yX7_count.desc).map (fun d => d.parameters.length) = some 5 := by decide +kernel
set_option maxHeartbeats 4000000 in
set_option maxRecDepth 100000 in
/-- count -/
theorem c_X7_count (l : Launch) (g : gG) (gh : gGh) (T : Nat → Int32) (I : gI) (R : gR) (J : gJ) (AI : gI) (AJ : gJ) (AR : gR) (mo : Nat) (rr : Int) (a1 : Int) (b1 : Int) (c1 : Int) (d1 : Int) (zrr : zr rr) (za1 : zr a1) (zb1 : zr b1) (zc1 : zr c1) (zd1 : zr d1) (hv : mInv g gh R I AI) (hm : gO g mo 7) (hT : AI (gh 50 0) = T) : gMet l g yX7_count tsX7_count rmX7_count [.ref mo, .int (iI rr), .int (iI a1), .int (iI b1), .int (iI c1), .int (iI d1)] (I, R, J, AI, AJ, AR) (gQi g (fun (z : Int) (w : gS) => R = w.2.1 ∧ J = w.2.2.1 ∧ AJ = w.2.2.2.2.1 ∧ AR = w.2.2.2.2.2 ∧ (mInv g gh R (w.1) (w.2.2.2.1)) ∧ ((w.2.2.2.1) (gh 50 0) = T) ∧ (nF mo I (w.1)))) := by
  refine gStart (cc := cX7_count) (maxL := 7) (ret := (some (.int))) (by decide) rfl (Nat.le_of_ble_eq_true rfl) ?_
  intro p e s m below meth c ls F hr hlk hH hz hS hl
  have hl : lv_has ls 7 [(0, .ref mo), (1, .int (iI rr)), (2, .int (iI a1)), (3, .int (iI b1)), (4, .int (iI c1)), (5, .int (iI d1))] := hl
  have hS : va_S (gA g) s.heap s.heap [] := hS
  obtain ⟨H, hHe⟩ : ∃ H : Heap, H = s.heap := ⟨_, rfl⟩
  obtain ⟨locs, hlo⟩ : ∃ k : List Loc, k = [] := ⟨_, rfl⟩
  have hH : gH g I R J AI AJ AR H := by rw [hHe]; exact hH
  have hS : va_S (gA g) s.heap H locs := by rw [hHe, hlo]; exact hS
  suffices hw : W p l e rmX7_count s m ([.ref mo, .int (iI rr), .int (iI a1), .int (iI b1), .int (iI c1), .int (iI d1)] : List Value).toArray below meth c H locs 0 0 (MQ below (gQi g (fun (z : Int) (w : gS) => R = w.2.1 ∧ J = w.2.2.1 ∧ AJ = w.2.2.2.2.1 ∧ AR = w.2.2.2.2.2 ∧ (mInv g gh R (w.1) (w.2.2.2.1)) ∧ ((w.2.2.2.1) (gh 50 0) = T) ∧ (nF mo I (w.1)))) ([.ref mo, .int (iI rr), .int (iI a1), .int (iI b1), .int (iI c1), .int (iI d1)] : List Value).toArray s 0 0 (gA g)) (F0 m 0 ls []) by
    rw [hHe, hlo] at hw; exact hw
  clear hHe hlo
  have nf : nF mo I I := nF_r
  have iX7 : ∀ w ∈ u_ws RX7 TX7 32, w ∈ tsX7_count := fun w h => List.mem_cons_of_mem _ (inTB7 w h)
  have k60 : Cond.fieldLink RX7 60 (TX7 17).1 (TX7 17).2.1 (TX7 17).2.2.1 ∈ tsX7_count := List.mem_cons_of_mem _ fl_60
  have k24 : Cond.fieldLink RX7 24 (TX7 6).1 (TX7 6).2.1 (TX7 6).2.2.1 ∈ tsX7_count := List.mem_cons_of_mem _ fl_24
  refine lv_aload_n F.1 F.2.1 dX7_count_0 rfl (lv_at hl 0 rfl) ?_
  have cut_14_0 : ∀ (th : Int) (H : Heap) (locs : List Loc) (ls : Array Slot), zr th → ((th = 0 ∧ 0 ≤ rr ∧ rr ≤ 15) ∨ th = 1) → gH g I R J AI AJ AR H → va_S (gA g) s.heap H locs → lv_has ls 7 [(0, .ref mo), (1, .int (iI rr)), (2, .int (iI a1)), (3, .int (iI b1)), (4, .int (iI c1)), (5, .int (iI d1))] → W p l e rmX7_count s m ([.ref mo, .int (iI rr), .int (iI a1), .int (iI b1), .int (iI c1), .int (iI d1)] : List Value).toArray below meth c H locs 0 0 (MQ below (gQi g (fun (z : Int) (w : gS) => R = w.2.1 ∧ J = w.2.2.1 ∧ AJ = w.2.2.2.2.1 ∧ AR = w.2.2.2.2.2 ∧ (mInv g gh R (w.1) (w.2.2.2.1)) ∧ ((w.2.2.2.1) (gh 50 0) = T) ∧ (nF mo I (w.1)))) ([.ref mo, .int (iI rr), .int (iI a1), .int (iI b1), .int (iI c1), .int (iI d1)] : List Value).toArray s 0 0 (gA g)) (F0 m 14 ls [.int (iI th), .ref mo]) := by
    intro th H locs ls zth hth hH hS hl
    refine g_putI (ci := 7) (k := 17) F hH hS rfl (by decide) iX7 hm (by decide) tyX7 tyX7_ok nmX7 rfl rfl rfl k60 dX7_count_14 (fun H locs hH hS => ?_)
    obtain ⟨I_2, eI_2⟩ : ∃ qQ, qQ = gup2 I mo 17 (iI (th)) := ⟨_, rfl⟩
    rw [← eI_2] at hH
    have kI_2 : ∀ b, b ≠ mo → I_2 b = I b := fun b hb => by rw [eI_2]; exact funext fun j => gup2_a _ _ hb
    have w_3 : (I_2 mo 17).toInt = th := by rw [eI_2, gup2_s]; exact iI_val zth
    have hv : mInv g gh R I_2 AI := by rw [eI_2]; exact mP17 hv hm
    have nf : nF mo I I_2 := nF_t nf (by rw [eI_2]; exact nF_p (by decide))
    have u_4_2 : (I_2 mo 2).toInt = (I mo 2).toInt := by rw [nf 2 (by decide) (by decide) (by decide) (by decide) (by decide)]
    have u_4_5 : (I_2 mo 5).toInt = (I mo 5).toInt := by rw [nf 5 (by decide) (by decide) (by decide) (by decide) (by decide)]
    have u_4_14 : (I_2 mo 14).toInt = (I mo 14).toInt := by rw [nf 14 (by decide) (by decide) (by decide) (by decide) (by decide)]
    have u_4_16 : (I_2 mo 16).toInt = (I mo 16).toInt := by rw [nf 16 (by decide) (by decide) (by decide) (by decide) (by decide)]
    have u_4_24 : (I_2 mo 24).toInt = (I mo 24).toInt := by rw [nf 24 (by decide) (by decide) (by decide) (by decide) (by decide)]
    refine lv_aload_n F.1 F.2.1 dX7_count_17 rfl (lv_at hl 0 rfl) ?_
    refine g_getI (ci := 7) (k := 17) F hH rfl (by decide) iX7 hm (by decide) rfl k60 dX7_count_18 ?_
    refine z_iconst F dX7_count_21 ?_
    refine z_icmp_ne (tgt := 27) F dX7_count_22 (by decide) (zr_t _) ⟨by decide, by decide⟩ (fun c_5 => ?_) (fun c_5 => ?_)
    · refine lv_aload_n F.1 F.2.1 dX7_count_27 rfl (lv_at hl 0 rfl) ?_
      refine z_iconst F dX7_count_28 ?_
      refine lv_iload_n F.1 F.2.1 dX7_count_29 rfl (lv_at hl 1 rfl) ?_
      refine lv_iload_n F.1 F.2.1 dX7_count_30 rfl (lv_at hl 2 rfl) ?_
      refine lv_iload_n F.1 F.2.1 dX7_count_31 rfl (lv_at hl 3 rfl) ?_
      refine lv_iload F.1 F.2.1 dX7_count_32 (lv_at hl 4 rfl) ?_
      refine lv_iload F.1 F.2.1 dX7_count_34 (lv_at hl 5 rfl) ?_
      have b_6 := mJ hv hm
      unfold mNum1 at b_6
      refine g_calli (g_runV (As := [.int (iI 0), .int (iI rr), .int (iI a1), .int (iI b1), .int (iI c1), .int (iI d1)]) (rest := []) (ci := 7) F hl.1 hH hS hz (c_X7_find l g gh T I_2 R J AI AJ AR mo 0 rr a1 b1 c1 d1 ⟨by decide, by decide⟩ zrr za1 zb1 zc1 zd1 hv hm hT (by omega) (by omega)) (cwV 6 F.2.2.2.2.1 (good_up gT_X7_find) rfl rfl rfl hdX7_find ⟨Nat.le_of_ble_eq_true rfl, Nat.le_of_ble_eq_true rfl⟩) hm (by decide) rfl rfl rfl (Nat.le_of_ble_eq_true rfl) dX7_count_36 ⟨Nat.zero_le _, Nat.zero_le _⟩) hS (fun v_13 I_7 R_8 J_9 AI_10 AJ_11 AR_12 H locs zv_13 hp_14 hH hS => ?_)
      dsimp only at hp_14
      obtain ⟨rfl, rfl, rfl, rfl, rfl, hv, hT, q_15⟩ := hp_14
      refine lv_istore (lv' := [(6, .int (iI v_13)), (0, .ref mo), (1, .int (iI rr)), (2, .int (iI a1)), (3, .int (iI b1)), (4, .int (iI c1)), (5, .int (iI d1))]) F.1 F.2.1 dX7_count_39 hl (by decide) rfl (fun ls hl => ?_)
      refine lv_iload F.1 F.2.1 dX7_count_41 (lv_at hl 0 rfl) ?_
      refine z_if_ge (tgt := 50) F dX7_count_43 (by decide) zv_13 (fun c_16 => ?_) (fun c_16 => ?_)
      · refine lv_aload_n F.1 F.2.1 dX7_count_50 rfl (lv_at hl 1 rfl) ?_
        obtain ⟨r_17a, r_17b⟩ : R mo 6 = some (gh 56 0) ∧ gAr g (gh 56 0) 9 126720 := mR hv hm (q := (6, 126720)) (by decide)
        refine g_getR (ci := 7) (k := 6) F hH rfl (by decide) iX7 hm (by decide) rfl (b := gh 56 0) r_17a k24 dX7_count_51 ?_
        refine z_iconst F dX7_count_54 ?_
        refine lv_iload_n F.1 F.2.1 dX7_count_55 rfl (lv_at hl 2 rfl) ?_
        refine lv_iload F.1 F.2.1 dX7_count_56 (lv_at hl 0 rfl) ?_
        refine g_calli (g_runS (As := [.int (iI 0), .int (iI rr), .int (iI v_13)]) (rest := [.ref (gh 56 0)]) F hl.1 hH hS hz (c_X7_spot l g  I_2 R J AI_10 AJ AR 0 rr v_13 ⟨by decide, by decide⟩ zrr zv_13 (by omega) (by omega) (by omega)) (va_cwS 3 F.2.2.2.2.1 (good_up gT_X7_spot) rfl rfl rfl hdX7_spot.2 ⟨Nat.le_of_ble_eq_true rfl, Nat.le_of_ble_eq_true rfl⟩) rfl rfl (Nat.le_of_ble_eq_true rfl) dX7_count_58 ⟨Nat.zero_le _, Nat.zero_le _⟩) hS (fun v_24 I_18 R_19 J_20 AI_21 AJ_22 AR_23 H locs zv_24 hp_25 hH hS => ?_)
        dsimp only at hp_25
        obtain ⟨rfl, rfl, rfl, rfl, rfl, rfl, q_26⟩ := hp_25
        refine z_iconst F dX7_count_61 ?_
        refine z_iadd F dX7_count_62 ?_
        have hx63 : 0 ≤ (v_24 + 4) ∧ (v_24 + 4) < ((126720 : Nat) : Int) ∧ (v_24 + 4) ≤ 2147483647 := ⟨by omega, by omega, by omega⟩
        refine g_iald F hH r_17b hx63.1 hx63.2.1 hx63.2.2 dX7_count_63 ?_
        refine z_name (fun v_27 ev_27 => ?_)
        have zv_27 : zr v_27 := by rw [ev_27]; exact zr_t _
        exact g_iret F hr hlk hH hS hz zv_27 ⟨rfl, rfl, rfl, rfl, hv, hT, nf⟩ dX7_count_64
      · refine z_iconst F dX7_count_46 ?_
        refine z_goto (tgt := 64) F dX7_count_47 (by decide) ?_
        exact g_iret F hr hlk hH hS hz ⟨by decide, by decide⟩ ⟨rfl, rfl, rfl, rfl, hv, hT, nf⟩ dX7_count_64
    · refine z_iconst F dX7_count_25 ?_
      exact g_iret F hr hlk hH hS hz ⟨by decide, by decide⟩ ⟨rfl, rfl, rfl, rfl, hv, hT, nf⟩ dX7_count_26
  refine lv_aload_n F.1 F.2.1 dX7_count_1 rfl (lv_at hl 0 rfl) ?_
  refine lv_iload_n F.1 F.2.1 dX7_count_2 rfl (lv_at hl 1 rfl) ?_
  have b_28 := mJ hv hm
  unfold mNum1 at b_28
  refine g_calli (g_runV (As := [.int (iI rr)]) (rest := [.ref mo]) (ci := 7) F hl.1 hH hS hz (c_X7_isRelation l g gh T I R J AI AJ AR mo rr zrr hv hm hT) (cwV 1 F.2.2.2.2.1 (good_up gT_X7_isRelation) rfl rfl rfl hdX7_isRelation ⟨Nat.le_of_ble_eq_true rfl, Nat.le_of_ble_eq_true rfl⟩) hm (by decide) rfl rfl rfl (Nat.le_of_ble_eq_true rfl) dX7_count_3 ⟨Nat.zero_le _, Nat.zero_le _⟩) hS (fun v_35 I_29 R_30 J_31 AI_32 AJ_33 AR_34 H locs zv_35 hp_36 hH hS => ?_)
  dsimp only at hp_36
  obtain ⟨rfl, rfl, rfl, rfl, rfl, rfl, q_37⟩ := hp_36
  refine z_if_eq (tgt := 13) F dX7_count_6 (by decide) zv_35 (fun c_38 => ?_) (fun c_38 => ?_)
  · refine z_iconst F dX7_count_13 ?_
    exact cut_14_0 1 H locs ls ⟨by decide, by decide⟩ (by omega) hH hS (lv_sub hl [0, 1, 2, 3, 4, 5] rfl)
  · refine z_iconst F dX7_count_9 ?_
    refine z_goto (tgt := 14) F dX7_count_10 (by decide) ?_
    exact cut_14_0 0 H locs ls ⟨by decide, by decide⟩ (by omega) hH hS (lv_sub hl [0, 1, 2, 3, 4, 5] rfl)

def rmX7_total : Room := { frames := 2, cells := 0, slots := 0, locals := 43 }
theorem hdX7_total : yX7_total.cls = RX7 ∧ yX7_total.cls ≠ "java/lang/invoke/MethodHandle" ∧ yX7_total.cls ≠ "java/lang/invoke/VarHandle" ∧ (parseMethodDescriptor yX7_total.desc).map (fun d => d.parameters.length) = some 1 := by decide +kernel
set_option maxHeartbeats 4000000 in
set_option maxRecDepth 100000 in
/-- total -/
theorem c_X7_total (l : Launch) (g : gG) (gh : gGh) (T : Nat → Int32) (I : gI) (R : gR) (J : gJ) (AI : gI) (AJ : gJ) (AR : gR) (mo : Nat) (rr : Int) (zrr : zr rr) (hv : mInv g gh R I AI) (hm : gO g mo 7) (hT : AI (gh 50 0) = T) : gMet l g yX7_total tsX7_total rmX7_total [.ref mo, .int (iI rr)] (I, R, J, AI, AJ, AR) (gQi g (fun (z : Int) (w : gS) => R = w.2.1 ∧ J = w.2.2.1 ∧ AI = w.2.2.2.1 ∧ AJ = w.2.2.2.2.1 ∧ AR = w.2.2.2.2.2 ∧ (mInv g gh R (w.1) AI) ∧ (nF mo I (w.1)))) := by
  refine gStart (cc := cX7_total) (maxL := 4) (ret := (some (.int))) (by decide) rfl (Nat.le_of_ble_eq_true rfl) ?_
  intro p e s m below meth c ls F hr hlk hH hz hS hl
  have hl : lv_has ls 4 [(0, .ref mo), (1, .int (iI rr))] := hl
  have hS : va_S (gA g) s.heap s.heap [] := hS
  obtain ⟨H, hHe⟩ : ∃ H : Heap, H = s.heap := ⟨_, rfl⟩
  obtain ⟨locs, hlo⟩ : ∃ k : List Loc, k = [] := ⟨_, rfl⟩
  have hH : gH g I R J AI AJ AR H := by rw [hHe]; exact hH
  have hS : va_S (gA g) s.heap H locs := by rw [hHe, hlo]; exact hS
  suffices hw : W p l e rmX7_total s m ([.ref mo, .int (iI rr)] : List Value).toArray below meth c H locs 0 0 (MQ below (gQi g (fun (z : Int) (w : gS) => R = w.2.1 ∧ J = w.2.2.1 ∧ AI = w.2.2.2.1 ∧ AJ = w.2.2.2.2.1 ∧ AR = w.2.2.2.2.2 ∧ (mInv g gh R (w.1) AI) ∧ (nF mo I (w.1)))) ([.ref mo, .int (iI rr)] : List Value).toArray s 0 0 (gA g)) (F0 m 0 ls []) by
    rw [hHe, hlo] at hw; exact hw
  clear hHe hlo
  have nf : nF mo I I := nF_r
  have iX7 : ∀ w ∈ u_ws RX7 TX7 32, w ∈ tsX7_total := fun w h => List.mem_cons_of_mem _ (inTB7 w h)
  have k60 : Cond.fieldLink RX7 60 (TX7 17).1 (TX7 17).2.1 (TX7 17).2.2.1 ∈ tsX7_total := List.mem_cons_of_mem _ fl_60
  have k24 : Cond.fieldLink RX7 24 (TX7 6).1 (TX7 6).2.1 (TX7 6).2.2.1 ∈ tsX7_total := List.mem_cons_of_mem _ fl_24
  refine lv_aload_n F.1 F.2.1 dX7_total_0 rfl (lv_at hl 0 rfl) ?_
  have cut_14_0 : ∀ (th : Int) (H : Heap) (locs : List Loc) (ls : Array Slot), zr th → ((th = 0 ∧ 0 ≤ rr ∧ rr ≤ 15) ∨ th = 1) → gH g I R J AI AJ AR H → va_S (gA g) s.heap H locs → lv_has ls 4 [(0, .ref mo), (1, .int (iI rr))] → W p l e rmX7_total s m ([.ref mo, .int (iI rr)] : List Value).toArray below meth c H locs 0 0 (MQ below (gQi g (fun (z : Int) (w : gS) => R = w.2.1 ∧ J = w.2.2.1 ∧ AI = w.2.2.2.1 ∧ AJ = w.2.2.2.2.1 ∧ AR = w.2.2.2.2.2 ∧ (mInv g gh R (w.1) AI) ∧ (nF mo I (w.1)))) ([.ref mo, .int (iI rr)] : List Value).toArray s 0 0 (gA g)) (F0 m 14 ls [.int (iI th), .ref mo]) := by
    intro th H locs ls zth hth hH hS hl
    refine g_putI (ci := 7) (k := 17) F hH hS rfl (by decide) iX7 hm (by decide) tyX7 tyX7_ok nmX7 rfl rfl rfl k60 dX7_total_14 (fun H locs hH hS => ?_)
    obtain ⟨I_2, eI_2⟩ : ∃ qQ, qQ = gup2 I mo 17 (iI (th)) := ⟨_, rfl⟩
    rw [← eI_2] at hH
    have kI_2 : ∀ b, b ≠ mo → I_2 b = I b := fun b hb => by rw [eI_2]; exact funext fun j => gup2_a _ _ hb
    have w_3 : (I_2 mo 17).toInt = th := by rw [eI_2, gup2_s]; exact iI_val zth
    have hv : mInv g gh R I_2 AI := by rw [eI_2]; exact mP17 hv hm
    have nf : nF mo I I_2 := nF_t nf (by rw [eI_2]; exact nF_p (by decide))
    have u_4_2 : (I_2 mo 2).toInt = (I mo 2).toInt := by rw [nf 2 (by decide) (by decide) (by decide) (by decide) (by decide)]
    have u_4_5 : (I_2 mo 5).toInt = (I mo 5).toInt := by rw [nf 5 (by decide) (by decide) (by decide) (by decide) (by decide)]
    have u_4_14 : (I_2 mo 14).toInt = (I mo 14).toInt := by rw [nf 14 (by decide) (by decide) (by decide) (by decide) (by decide)]
    have u_4_16 : (I_2 mo 16).toInt = (I mo 16).toInt := by rw [nf 16 (by decide) (by decide) (by decide) (by decide) (by decide)]
    have u_4_24 : (I_2 mo 24).toInt = (I mo 24).toInt := by rw [nf 24 (by decide) (by decide) (by decide) (by decide) (by decide)]
    refine z_iconst F dX7_total_17 ?_
    refine lv_istore_n (lv' := [(2, .int (iI 0)), (0, .ref mo), (1, .int (iI rr))]) F.1 F.2.1 dX7_total_18 rfl hl (by decide) rfl (fun ls hl => ?_)
    refine z_iconst F dX7_total_19 ?_
    refine lv_istore_n (lv' := [(3, .int (iI 0)), (2, .int (iI 0)), (0, .ref mo), (1, .int (iI rr))]) F.1 F.2.1 dX7_total_20 rfl hl (by decide) rfl (fun ls hl => ?_)
    have cut_21_4 : ∀ (NN : Nat) (su i : Int) (H : Heap) (locs : List Loc) (ls : Array Slot), zr su → zr i → (0 ≤ i ∧ i ≤ 120) → (120 - i) < ((NN : Nat) : Int) → gH g I_2 R J AI AJ AR H → va_S (gA g) s.heap H locs → lv_has ls 4 [(3, .int (iI i)), (2, .int (iI su)), (0, .ref mo), (1, .int (iI rr))] → W p l e rmX7_total s m ([.ref mo, .int (iI rr)] : List Value).toArray below meth c H locs 0 0 (MQ below (gQi g (fun (z : Int) (w : gS) => R = w.2.1 ∧ J = w.2.2.1 ∧ AI = w.2.2.2.1 ∧ AJ = w.2.2.2.2.1 ∧ AR = w.2.2.2.2.2 ∧ (mInv g gh R (w.1) AI) ∧ (nF mo I (w.1)))) ([.ref mo, .int (iI rr)] : List Value).toArray s 0 0 (gA g)) (F0 m 21 ls []) := by
      intro NN21
      induction NN21 with
      | zero =>
        intro su i H locs ls zsu zi hi hm21 hH hS hl
        exact absurd hm21 (by omega)
      | succ NN21 ih21 =>
        intro su i H locs ls zsu zi hi hm21 hH hS hl
        refine lv_aload_n F.1 F.2.1 dX7_total_21 rfl (lv_at hl 2 rfl) ?_
        refine g_getI (ci := 7) (k := 17) F hH rfl (by decide) iX7 hm (by decide) rfl k60 dX7_total_22 ?_
        refine z_if_ne (tgt := 60) F dX7_total_25 (by decide) (zr_t _) (fun c_6 => ?_) (fun c_6 => ?_)
        · refine lv_iload_n F.1 F.2.1 dX7_total_60 rfl (lv_at hl 1 rfl) ?_
          exact g_iret F hr hlk hH hS hz zsu ⟨rfl, rfl, rfl, rfl, rfl, hv, nf⟩ dX7_total_61
        · refine lv_iload_n F.1 F.2.1 dX7_total_28 rfl (lv_at hl 0 rfl) ?_
          refine lv_aload_n F.1 F.2.1 dX7_total_29 rfl (lv_at hl 2 rfl) ?_
          refine z_iconst F dX7_total_30 ?_
          refine lv_iload_n F.1 F.2.1 dX7_total_31 rfl (lv_at hl 3 rfl) ?_
          have b_7 := mJ hv hm
          unfold mNum1 at b_7
          refine g_calli (g_runV (As := [.int (iI 0), .int (iI rr)]) (rest := [.int (iI i)]) (ci := 7) F hl.1 hH hS hz (c_X7_sizeOf l g gh T I_2 R J AI AJ AR mo 0 rr ⟨by decide, by decide⟩ zrr hv hm hT (by omega) (by omega)) (cwV 2 F.2.2.2.2.1 (good_up gT_X7_sizeOf) rfl rfl rfl hdX7_sizeOf ⟨Nat.le_of_ble_eq_true rfl, Nat.le_of_ble_eq_true rfl⟩) hm (by decide) rfl rfl rfl (Nat.le_of_ble_eq_true rfl) dX7_total_32 ⟨Nat.zero_le _, Nat.zero_le _⟩) hS (fun v_14 I_8 R_9 J_10 AI_11 AJ_12 AR_13 H locs zv_14 hp_15 hH hS => ?_)
          dsimp only at hp_15
          obtain ⟨rfl, rfl, rfl, rfl, rfl, rfl, q_16, q_17⟩ := hp_15
          refine z_icmp_ge (tgt := 60) F dX7_total_35 (by decide) zi zv_14 (fun c_18 => ?_) (fun c_18 => ?_)
          · refine lv_iload_n F.1 F.2.1 dX7_total_60 rfl (lv_at hl 1 rfl) ?_
            exact g_iret F hr hlk hH hS hz zsu ⟨rfl, rfl, rfl, rfl, rfl, hv, nf⟩ dX7_total_61
          · refine lv_iload_n F.1 F.2.1 dX7_total_38 rfl (lv_at hl 1 rfl) ?_
            refine lv_aload_n F.1 F.2.1 dX7_total_39 rfl (lv_at hl 2 rfl) ?_
            obtain ⟨r_19a, r_19b⟩ : R mo 6 = some (gh 56 0) ∧ gAr g (gh 56 0) 9 126720 := mR hv hm (q := (6, 126720)) (by decide)
            refine g_getR (ci := 7) (k := 6) F hH rfl (by decide) iX7 hm (by decide) rfl (b := gh 56 0) r_19a k24 dX7_total_40 ?_
            refine z_iconst F dX7_total_43 ?_
            refine lv_iload_n F.1 F.2.1 dX7_total_44 rfl (lv_at hl 3 rfl) ?_
            refine lv_iload_n F.1 F.2.1 dX7_total_45 rfl (lv_at hl 0 rfl) ?_
            refine g_calli (g_runS (As := [.int (iI 0), .int (iI rr), .int (iI i)]) (rest := [.ref (gh 56 0), .int (iI su)]) F hl.1 hH hS hz (c_X7_spot l g  I_2 R J AI AJ AR 0 rr i ⟨by decide, by decide⟩ zrr zi (by omega) (by omega) (by omega)) (va_cwS 3 F.2.2.2.2.1 (good_up gT_X7_spot) rfl rfl rfl hdX7_spot.2 ⟨Nat.le_of_ble_eq_true rfl, Nat.le_of_ble_eq_true rfl⟩) rfl rfl (Nat.le_of_ble_eq_true rfl) dX7_total_46 ⟨Nat.zero_le _, Nat.zero_le _⟩) hS (fun v_26 I_20 R_21 J_22 AI_23 AJ_24 AR_25 H locs zv_26 hp_27 hH hS => ?_)
            dsimp only at hp_27
            obtain ⟨rfl, rfl, rfl, rfl, rfl, rfl, q_28⟩ := hp_27
            refine z_iconst F dX7_total_49 ?_
            refine z_iadd F dX7_total_50 ?_
            have hx51 : 0 ≤ (v_26 + 4) ∧ (v_26 + 4) < ((126720 : Nat) : Int) ∧ (v_26 + 4) ≤ 2147483647 := ⟨by omega, by omega, by omega⟩
            refine g_iald F hH r_19b hx51.1 hx51.2.1 hx51.2.2 dX7_total_51 ?_
            refine z_name (fun v_29 ev_29 => ?_)
            have zv_29 : zr v_29 := by rw [ev_29]; exact zr_t _
            refine z_iadd F dX7_total_52 ?_
            refine z_norm (fun v_30 zv_30 ev_30 => ?_)
            refine lv_istore_n (lv' := [(2, .int (iI v_30)), (3, .int (iI i)), (0, .ref mo), (1, .int (iI rr))]) F.1 F.2.1 dX7_total_53 rfl hl (by decide) rfl (fun ls hl => ?_)
            refine z_iinc (lv' := [(3, .int (iI (i + 1))), (2, .int (iI v_30)), (0, .ref mo), (1, .int (iI rr))]) F dX7_total_54 hl (k := 1) rfl (by decide) rfl (fun ls hl => ?_)
            refine z_goto (tgt := 21) F dX7_total_57 (by decide) ?_
            exact ih21 v_30 (i + 1) H locs ls zv_30 ⟨by omega, by omega⟩ (by omega) (by omega) hH hS (lv_sub hl [0, 1, 2, 3] rfl)
    exact cut_21_4 (((120 - 0) + 1 : Int).toNat) 0 0 H locs ls ⟨by decide, by decide⟩ ⟨by decide, by decide⟩ (by omega) (by omega) hH hS (lv_sub hl [0, 1, 2, 3] rfl)
  refine lv_aload_n F.1 F.2.1 dX7_total_1 rfl (lv_at hl 0 rfl) ?_
  refine lv_iload_n F.1 F.2.1 dX7_total_2 rfl (lv_at hl 1 rfl) ?_
  have b_31 := mJ hv hm
  unfold mNum1 at b_31
  refine g_calli (g_runV (As := [.int (iI rr)]) (rest := [.ref mo]) (ci := 7) F hl.1 hH hS hz (c_X7_isRelation l g gh T I R J AI AJ AR mo rr zrr hv hm hT) (cwV 1 F.2.2.2.2.1 (good_up gT_X7_isRelation) rfl rfl rfl hdX7_isRelation ⟨Nat.le_of_ble_eq_true rfl, Nat.le_of_ble_eq_true rfl⟩) hm (by decide) rfl rfl rfl (Nat.le_of_ble_eq_true rfl) dX7_total_3 ⟨Nat.zero_le _, Nat.zero_le _⟩) hS (fun v_38 I_32 R_33 J_34 AI_35 AJ_36 AR_37 H locs zv_38 hp_39 hH hS => ?_)
  dsimp only at hp_39
  obtain ⟨rfl, rfl, rfl, rfl, rfl, rfl, q_40⟩ := hp_39
  refine z_if_eq (tgt := 13) F dX7_total_6 (by decide) zv_38 (fun c_41 => ?_) (fun c_41 => ?_)
  · refine z_iconst F dX7_total_13 ?_
    exact cut_14_0 1 H locs ls ⟨by decide, by decide⟩ (by omega) hH hS (lv_sub hl [0, 1] rfl)
  · refine z_iconst F dX7_total_9 ?_
    refine z_goto (tgt := 14) F dX7_total_10 (by decide) ?_
    exact cut_14_0 0 H locs ls ⟨by decide, by decide⟩ (by omega) hH hS (lv_sub hl [0, 1] rfl)

def rmX7_moved : Room := { frames := 2, cells := 0, slots := 0, locals := 54 }
theorem hdX7_moved : yX7_moved.cls = RX7 ∧ yX7_moved.cls ≠ "java/lang/invoke/MethodHandle" ∧ yX7_moved.cls ≠ "java/lang/invoke/VarHandle" ∧ (parseMethodDescriptor yX7_moved.desc).map (fun d => d.parameters.length) = some 1 := by decide +kernel
set_option maxHeartbeats 4000000 in
set_option maxRecDepth 100000 in
/-- moved -/
theorem c_X7_moved (l : Launch) (g : gG) (gh : gGh) (T : Nat → Int32) (I : gI) (R : gR) (J : gJ) (AI : gI) (AJ : gJ) (AR : gR) (mo : Nat) (rr : Int) (zrr : zr rr) (hv : mInv g gh R I AI) (hm : gO g mo 7) (hT : AI (gh 50 0) = T) : gMet l g yX7_moved tsX7_moved rmX7_moved [.ref mo, .int (iI rr)] (I, R, J, AI, AJ, AR) (gQi g (fun (z : Int) (w : gS) => R = w.2.1 ∧ J = w.2.2.1 ∧ AJ = w.2.2.2.2.1 ∧ AR = w.2.2.2.2.2 ∧ (mInv g gh R (w.1) (w.2.2.2.1)) ∧ ((w.2.2.2.1) (gh 50 0) = T) ∧ (nF mo I (w.1)))) := by
  refine gStart (cc := cX7_moved) (maxL := 2) (ret := (some (.int))) (by decide) rfl (Nat.le_of_ble_eq_true rfl) ?_
  intro p e s m below meth c ls F hr hlk hH hz hS hl
  have hl : lv_has ls 2 [(0, .ref mo), (1, .int (iI rr))] := hl
  have hS : va_S (gA g) s.heap s.heap [] := hS
  obtain ⟨H, hHe⟩ : ∃ H : Heap, H = s.heap := ⟨_, rfl⟩
  obtain ⟨locs, hlo⟩ : ∃ k : List Loc, k = [] := ⟨_, rfl⟩
  have hH : gH g I R J AI AJ AR H := by rw [hHe]; exact hH
  have hS : va_S (gA g) s.heap H locs := by rw [hHe, hlo]; exact hS
  suffices hw : W p l e rmX7_moved s m ([.ref mo, .int (iI rr)] : List Value).toArray below meth c H locs 0 0 (MQ below (gQi g (fun (z : Int) (w : gS) => R = w.2.1 ∧ J = w.2.2.1 ∧ AJ = w.2.2.2.2.1 ∧ AR = w.2.2.2.2.2 ∧ (mInv g gh R (w.1) (w.2.2.2.1)) ∧ ((w.2.2.2.1) (gh 50 0) = T) ∧ (nF mo I (w.1)))) ([.ref mo, .int (iI rr)] : List Value).toArray s 0 0 (gA g)) (F0 m 0 ls []) by
    rw [hHe, hlo] at hw; exact hw
  clear hHe hlo
  have nf : nF mo I I := nF_r
  have iX7 : ∀ w ∈ u_ws RX7 TX7 32, w ∈ tsX7_moved := fun w h => List.mem_cons_of_mem _ (inTB7 w h)
  have k60 : Cond.fieldLink RX7 60 (TX7 17).1 (TX7 17).2.1 (TX7 17).2.2.1 ∈ tsX7_moved := List.mem_cons_of_mem _ fl_60
  refine lv_aload_n F.1 F.2.1 dX7_moved_0 rfl (lv_at hl 0 rfl) ?_
  refine z_iconst F dX7_moved_1 ?_
  refine g_putI (ci := 7) (k := 17) F hH hS rfl (by decide) iX7 hm (by decide) tyX7 tyX7_ok nmX7 rfl rfl rfl k60 dX7_moved_2 (fun H locs hH hS => ?_)
  obtain ⟨I_1, eI_1⟩ : ∃ qQ, qQ = gup2 I mo 17 (iI (0)) := ⟨_, rfl⟩
  rw [← eI_1] at hH
  have kI_1 : ∀ b, b ≠ mo → I_1 b = I b := fun b hb => by rw [eI_1]; exact funext fun j => gup2_a _ _ hb
  have w_2 : (I_1 mo 17).toInt = 0 := by rw [eI_1, gup2_s]; exact iI_val ⟨by decide, by decide⟩
  have hv : mInv g gh R I_1 AI := by rw [eI_1]; exact mP17 hv hm
  have nf : nF mo I I_1 := nF_t nf (by rw [eI_1]; exact nF_p (by decide))
  have u_3_2 : (I_1 mo 2).toInt = (I mo 2).toInt := by rw [nf 2 (by decide) (by decide) (by decide) (by decide) (by decide)]
  have u_3_5 : (I_1 mo 5).toInt = (I mo 5).toInt := by rw [nf 5 (by decide) (by decide) (by decide) (by decide) (by decide)]
  have u_3_14 : (I_1 mo 14).toInt = (I mo 14).toInt := by rw [nf 14 (by decide) (by decide) (by decide) (by decide) (by decide)]
  have u_3_16 : (I_1 mo 16).toInt = (I mo 16).toInt := by rw [nf 16 (by decide) (by decide) (by decide) (by decide) (by decide)]
  have u_3_24 : (I_1 mo 24).toInt = (I mo 24).toInt := by rw [nf 24 (by decide) (by decide) (by decide) (by decide) (by decide)]
  refine lv_aload_n F.1 F.2.1 dX7_moved_5 rfl (lv_at hl 0 rfl) ?_
  refine lv_iload_n F.1 F.2.1 dX7_moved_6 rfl (lv_at hl 1 rfl) ?_
  have b_4 := mJ hv hm
  unfold mNum1 at b_4
  refine g_calli (g_runV (As := [.int (iI rr)]) (rest := []) (ci := 7) F hl.1 hH hS hz (c_X7_isRelation l g gh T I_1 R J AI AJ AR mo rr zrr hv hm hT) (cwV 1 F.2.2.2.2.1 (good_up gT_X7_isRelation) rfl rfl rfl hdX7_isRelation ⟨Nat.le_of_ble_eq_true rfl, Nat.le_of_ble_eq_true rfl⟩) hm (by decide) rfl rfl rfl (Nat.le_of_ble_eq_true rfl) dX7_moved_7 ⟨Nat.zero_le _, Nat.zero_le _⟩) hS (fun v_11 I_5 R_6 J_7 AI_8 AJ_9 AR_10 H locs zv_11 hp_12 hH hS => ?_)
  dsimp only at hp_12
  obtain ⟨rfl, rfl, rfl, rfl, rfl, rfl, q_13⟩ := hp_12
  refine z_if_eq (tgt := 21) F dX7_moved_10 (by decide) zv_11 (fun c_14 => ?_) (fun c_14 => ?_)
  · refine z_iconst F dX7_moved_21 ?_
    exact g_iret F hr hlk hH hS hz ⟨by decide, by decide⟩ ⟨rfl, rfl, rfl, rfl, hv, hT, nf⟩ dX7_moved_22
  · refine lv_aload_n F.1 F.2.1 dX7_moved_13 rfl (lv_at hl 0 rfl) ?_
    refine lv_iload_n F.1 F.2.1 dX7_moved_14 rfl (lv_at hl 1 rfl) ?_
    refine g_calli (g_runV (As := [.int (iI rr)]) (rest := []) (ci := 7) F hl.1 hH hS hz (c_X7_laysMoved l g gh T I_1 R J AI AJ AR mo rr zrr hv hm hT (by omega)) (cwV 1 F.2.2.2.2.1 (good_up gT_X7_laysMoved) rfl rfl rfl hdX7_laysMoved ⟨Nat.le_of_ble_eq_true rfl, Nat.le_of_ble_eq_true rfl⟩) hm (by decide) rfl rfl rfl (Nat.le_of_ble_eq_true rfl) dX7_moved_15 ⟨Nat.zero_le _, Nat.zero_le _⟩) hS (fun v_21 I_15 R_16 J_17 AI_18 AJ_19 AR_20 H locs zv_21 hp_22 hH hS => ?_)
    dsimp only at hp_22
    obtain ⟨rfl, rfl, rfl, rfl, rfl, hv, hT, haq7, q_23⟩ := hp_22
    refine z_goto (tgt := 22) F dX7_moved_18 (by decide) ?_
    exact g_iret F hr hlk hH hS hz zv_21 ⟨rfl, rfl, rfl, rfl, hv, hT, nf⟩ dX7_moved_22

def rmX7_movedAt : Room := { frames := 3, cells := 0, slots := 0, locals := 65 }
theorem hdX7_movedAt : yX7_movedAt.cls = RX7 ∧ yX7_movedAt.cls ≠ "java/lang/invoke/MethodHandle" ∧ yX7_movedAt.cls ≠ "java/lang/invoke/VarHandle" ∧ (parseMethodDescriptor yX7_movedAt.desc).map (fun d => d.parameters.length) = some 3 := by decide +kernel
set_option maxHeartbeats 4000000 in
set_option maxRecDepth 100000 in
/-- movedAt -/
theorem c_X7_movedAt (l : Launch) (g : gG) (gh : gGh) (T : Nat → Int32) (I : gI) (R : gR) (J : gJ) (AI : gI) (AJ : gJ) (AR : gR) (mo : Nat) (rr : Int) (ip : Int) (wh : Int) (zrr : zr rr) (zip : zr ip) (zwh : zr wh) (hv : mInv g gh R I AI) (hm : gO g mo 7) (hT : AI (gh 50 0) = T) : gMet l g yX7_movedAt tsX7_movedAt rmX7_movedAt [.ref mo, .int (iI rr), .int (iI ip), .int (iI wh)] (I, R, J, AI, AJ, AR) (gQi g (fun (z : Int) (w : gS) => R = w.2.1 ∧ J = w.2.2.1 ∧ AJ = w.2.2.2.2.1 ∧ AR = w.2.2.2.2.2 ∧ (mInv g gh R (w.1) (w.2.2.2.1)) ∧ ((w.2.2.2.1) (gh 50 0) = T) ∧ (nF mo I (w.1)))) := by
  refine gStart (cc := cX7_movedAt) (maxL := 4) (ret := (some (.int))) (by decide) rfl (Nat.le_of_ble_eq_true rfl) ?_
  intro p e s m below meth c ls F hr hlk hH hz hS hl
  have hl : lv_has ls 4 [(0, .ref mo), (1, .int (iI rr)), (2, .int (iI ip)), (3, .int (iI wh))] := hl
  have hS : va_S (gA g) s.heap s.heap [] := hS
  obtain ⟨H, hHe⟩ : ∃ H : Heap, H = s.heap := ⟨_, rfl⟩
  obtain ⟨locs, hlo⟩ : ∃ k : List Loc, k = [] := ⟨_, rfl⟩
  have hH : gH g I R J AI AJ AR H := by rw [hHe]; exact hH
  have hS : va_S (gA g) s.heap H locs := by rw [hHe, hlo]; exact hS
  suffices hw : W p l e rmX7_movedAt s m ([.ref mo, .int (iI rr), .int (iI ip), .int (iI wh)] : List Value).toArray below meth c H locs 0 0 (MQ below (gQi g (fun (z : Int) (w : gS) => R = w.2.1 ∧ J = w.2.2.1 ∧ AJ = w.2.2.2.2.1 ∧ AR = w.2.2.2.2.2 ∧ (mInv g gh R (w.1) (w.2.2.2.1)) ∧ ((w.2.2.2.1) (gh 50 0) = T) ∧ (nF mo I (w.1)))) ([.ref mo, .int (iI rr), .int (iI ip), .int (iI wh)] : List Value).toArray s 0 0 (gA g)) (F0 m 0 ls []) by
    rw [hHe, hlo] at hw; exact hw
  clear hHe hlo
  have nf : nF mo I I := nF_r
  have iX7 : ∀ w ∈ u_ws RX7 TX7 32, w ∈ tsX7_movedAt := fun w h => List.mem_cons_of_mem _ (inTB7 w h)
  have k60 : Cond.fieldLink RX7 60 (TX7 17).1 (TX7 17).2.1 (TX7 17).2.2.1 ∈ tsX7_movedAt := List.mem_cons_of_mem _ fl_60
  have k57 : Cond.fieldLink RX7 57 (TX7 31).1 (TX7 31).2.1 (TX7 31).2.2.1 ∈ tsX7_movedAt := List.mem_cons_of_mem _ fl_57
  refine lv_aload_n F.1 F.2.1 dX7_movedAt_0 rfl (lv_at hl 0 rfl) ?_
  refine lv_aload_n F.1 F.2.1 dX7_movedAt_1 rfl (lv_at hl 0 rfl) ?_
  refine lv_iload_n F.1 F.2.1 dX7_movedAt_2 rfl (lv_at hl 1 rfl) ?_
  refine lv_iload_n F.1 F.2.1 dX7_movedAt_3 rfl (lv_at hl 3 rfl) ?_
  have b_1 := mJ hv hm
  unfold mNum1 at b_1
  refine g_calli (g_runV (As := [.int (iI rr), .int (iI wh)]) (rest := [.ref mo]) (ci := 7) F hl.1 hH hS hz (c_X7_isTold l g gh T I R J AI AJ AR mo rr wh zrr zwh hv hm hT) (cwV 2 F.2.2.2.2.1 (good_up gT_X7_isTold) rfl rfl rfl hdX7_isTold ⟨Nat.le_of_ble_eq_true rfl, Nat.le_of_ble_eq_true rfl⟩) hm (by decide) rfl rfl rfl (Nat.le_of_ble_eq_true rfl) dX7_movedAt_4 ⟨Nat.zero_le _, Nat.zero_le _⟩) hS (fun v_8 I_2 R_3 J_4 AI_5 AJ_6 AR_7 H locs zv_8 hp_9 hH hS => ?_)
  dsimp only at hp_9
  obtain ⟨rfl, rfl, rfl, rfl, rfl, rfl, q_10⟩ := hp_9
  refine z_if_eq (tgt := 29) F dX7_movedAt_7 (by decide) zv_8 (fun c_11 => ?_) (fun c_11 => ?_)
  · refine z_iconst F dX7_movedAt_29 ?_
    refine g_putI (ci := 7) (k := 17) F hH hS rfl (by decide) iX7 hm (by decide) tyX7 tyX7_ok nmX7 rfl rfl rfl k60 dX7_movedAt_30 (fun H locs hH hS => ?_)
    obtain ⟨I_12, eI_12⟩ : ∃ qQ, qQ = gup2 I mo 17 (iI (1)) := ⟨_, rfl⟩
    rw [← eI_12] at hH
    have kI_12 : ∀ b, b ≠ mo → I_12 b = I b := fun b hb => by rw [eI_12]; exact funext fun j => gup2_a _ _ hb
    have w_13 : (I_12 mo 17).toInt = 1 := by rw [eI_12, gup2_s]; exact iI_val ⟨by decide, by decide⟩
    have hv : mInv g gh R I_12 AI := by rw [eI_12]; exact mP17 hv hm
    have nf : nF mo I I_12 := nF_t nf (by rw [eI_12]; exact nF_p (by decide))
    have u_14_2 : (I_12 mo 2).toInt = (I mo 2).toInt := by rw [nf 2 (by decide) (by decide) (by decide) (by decide) (by decide)]
    have u_14_5 : (I_12 mo 5).toInt = (I mo 5).toInt := by rw [nf 5 (by decide) (by decide) (by decide) (by decide) (by decide)]
    have u_14_14 : (I_12 mo 14).toInt = (I mo 14).toInt := by rw [nf 14 (by decide) (by decide) (by decide) (by decide) (by decide)]
    have u_14_16 : (I_12 mo 16).toInt = (I mo 16).toInt := by rw [nf 16 (by decide) (by decide) (by decide) (by decide) (by decide)]
    have u_14_24 : (I_12 mo 24).toInt = (I mo 24).toInt := by rw [nf 24 (by decide) (by decide) (by decide) (by decide) (by decide)]
    refine lv_aload_n F.1 F.2.1 dX7_movedAt_33 rfl (lv_at hl 0 rfl) ?_
    refine g_getI (ci := 7) (k := 17) F hH rfl (by decide) iX7 hm (by decide) rfl k60 dX7_movedAt_34 ?_
    refine z_if_ne (tgt := 53) F dX7_movedAt_37 (by decide) (zr_t _) (fun c_15 => ?_) (fun c_15 => ?_)
    · refine z_iconst F dX7_movedAt_53 ?_
      exact g_iret F hr hlk hH hS hz ⟨by decide, by decide⟩ ⟨rfl, rfl, rfl, rfl, hv, hT, nf⟩ dX7_movedAt_54
    · refine lv_aload_n F.1 F.2.1 dX7_movedAt_40 rfl (lv_at hl 0 rfl) ?_
      obtain ⟨r_16a, r_16b⟩ : R mo 31 = some (gh 81 0) ∧ gAr g (gh 81 0) 9 1200 := mR hv hm (q := (31, 1200)) (by decide)
      refine g_getR (ci := 7) (k := 31) F hH rfl (by decide) iX7 hm (by decide) rfl (b := gh 81 0) r_16a k57 dX7_movedAt_41 ?_
      refine z_iconst F dX7_movedAt_44 ?_
      refine lv_iload_n F.1 F.2.1 dX7_movedAt_45 rfl (lv_at hl 2 rfl) ?_
      refine z_imul F dX7_movedAt_46 ?_
      refine lv_iload_n F.1 F.2.1 dX7_movedAt_47 rfl (lv_at hl 3 rfl) ?_
      refine z_iadd F dX7_movedAt_48 ?_
      have hx49 : 0 ≤ ((5 * ip) + wh) ∧ ((5 * ip) + wh) < ((1200 : Nat) : Int) ∧ ((5 * ip) + wh) ≤ 2147483647 := ⟨by omega, by omega, by omega⟩
      refine g_iald F hH r_16b hx49.1 hx49.2.1 hx49.2.2 dX7_movedAt_49 ?_
      refine z_name (fun v_17 ev_17 => ?_)
      have zv_17 : zr v_17 := by rw [ev_17]; exact zr_t _
      refine z_goto (tgt := 54) F dX7_movedAt_50 (by decide) ?_
      exact g_iret F hr hlk hH hS hz zv_17 ⟨rfl, rfl, rfl, rfl, hv, hT, nf⟩ dX7_movedAt_54
  · refine lv_iload_n F.1 F.2.1 dX7_movedAt_10 rfl (lv_at hl 2 rfl) ?_
    refine z_iconst F dX7_movedAt_11 ?_
    refine lv_aload_n F.1 F.2.1 dX7_movedAt_12 rfl (lv_at hl 0 rfl) ?_
    refine lv_iload_n F.1 F.2.1 dX7_movedAt_13 rfl (lv_at hl 1 rfl) ?_
    refine g_calli (g_runV (As := [.int (iI rr)]) (rest := [.int (iI 0), .int (iI ip), .ref mo]) (ci := 7) F hl.1 hH hS hz (c_X7_laysMoved l g gh T I R J AI AJ AR mo rr zrr hv hm hT (by omega)) (cwV 1 F.2.2.2.2.1 (good_up gT_X7_laysMoved) rfl rfl rfl hdX7_laysMoved ⟨Nat.le_of_ble_eq_true rfl, Nat.le_of_ble_eq_true rfl⟩) hm (by decide) rfl rfl rfl (Nat.le_of_ble_eq_true rfl) dX7_movedAt_14 ⟨Nat.zero_le _, Nat.zero_le _⟩) hS (fun v_24 I_18 R_19 J_20 AI_21 AJ_22 AR_23 H locs zv_24 hp_25 hH hS => ?_)
    dsimp only at hp_25
    obtain ⟨rfl, rfl, rfl, rfl, rfl, hv, hT, haq7, q_26⟩ := hp_25
    refine z_iconst F dX7_movedAt_17 ?_
    refine z_isub F dX7_movedAt_18 ?_
    refine g_calli (g_runS (As := [.int (iI ip), .int (iI 0), .int (iI (v_24 - 1))]) (rest := [.ref mo]) F hl.1 hH hS hz (c_X7_within l g  I R J AI_21 AJ AR ip 0 (v_24 - 1) zip ⟨by decide, by decide⟩ ⟨by omega, by omega⟩) (va_cwS 3 F.2.2.2.2.1 (good_up gT_X7_within) rfl rfl rfl hdX7_within.2 ⟨Nat.le_of_ble_eq_true rfl, Nat.le_of_ble_eq_true rfl⟩) rfl rfl (Nat.le_of_ble_eq_true rfl) dX7_movedAt_19 ⟨Nat.zero_le _, Nat.zero_le _⟩) hS (fun v_33 I_27 R_28 J_29 AI_30 AJ_31 AR_32 H locs zv_33 hp_34 hH hS => ?_)
    dsimp only at hp_34
    obtain ⟨rfl, rfl, rfl, rfl, rfl, rfl, q_35⟩ := hp_34
    refine z_if_eq (tgt := 29) F dX7_movedAt_22 (by decide) zv_33 (fun c_36 => ?_) (fun c_36 => ?_)
    · refine z_iconst F dX7_movedAt_29 ?_
      refine g_putI (ci := 7) (k := 17) F hH hS rfl (by decide) iX7 hm (by decide) tyX7 tyX7_ok nmX7 rfl rfl rfl k60 dX7_movedAt_30 (fun H locs hH hS => ?_)
      obtain ⟨I_37, eI_37⟩ : ∃ qQ, qQ = gup2 I mo 17 (iI (1)) := ⟨_, rfl⟩
      rw [← eI_37] at hH
      have kI_37 : ∀ b, b ≠ mo → I_37 b = I b := fun b hb => by rw [eI_37]; exact funext fun j => gup2_a _ _ hb
      have w_38 : (I_37 mo 17).toInt = 1 := by rw [eI_37, gup2_s]; exact iI_val ⟨by decide, by decide⟩
      have hv : mInv g gh R I_37 AI_21 := by rw [eI_37]; exact mP17 hv hm
      have nf : nF mo I I_37 := nF_t nf (by rw [eI_37]; exact nF_p (by decide))
      have u_39_2 : (I_37 mo 2).toInt = (I mo 2).toInt := by rw [nf 2 (by decide) (by decide) (by decide) (by decide) (by decide)]
      have u_39_5 : (I_37 mo 5).toInt = (I mo 5).toInt := by rw [nf 5 (by decide) (by decide) (by decide) (by decide) (by decide)]
      have u_39_14 : (I_37 mo 14).toInt = (I mo 14).toInt := by rw [nf 14 (by decide) (by decide) (by decide) (by decide) (by decide)]
      have u_39_16 : (I_37 mo 16).toInt = (I mo 16).toInt := by rw [nf 16 (by decide) (by decide) (by decide) (by decide) (by decide)]
      have u_39_24 : (I_37 mo 24).toInt = (I mo 24).toInt := by rw [nf 24 (by decide) (by decide) (by decide) (by decide) (by decide)]
      refine lv_aload_n F.1 F.2.1 dX7_movedAt_33 rfl (lv_at hl 0 rfl) ?_
      refine g_getI (ci := 7) (k := 17) F hH rfl (by decide) iX7 hm (by decide) rfl k60 dX7_movedAt_34 ?_
      refine z_if_ne (tgt := 53) F dX7_movedAt_37 (by decide) (zr_t _) (fun c_40 => ?_) (fun c_40 => ?_)
      · refine z_iconst F dX7_movedAt_53 ?_
        exact g_iret F hr hlk hH hS hz ⟨by decide, by decide⟩ ⟨rfl, rfl, rfl, rfl, hv, hT, nf⟩ dX7_movedAt_54
      · refine lv_aload_n F.1 F.2.1 dX7_movedAt_40 rfl (lv_at hl 0 rfl) ?_
        obtain ⟨r_41a, r_41b⟩ : R mo 31 = some (gh 81 0) ∧ gAr g (gh 81 0) 9 1200 := mR hv hm (q := (31, 1200)) (by decide)
        refine g_getR (ci := 7) (k := 31) F hH rfl (by decide) iX7 hm (by decide) rfl (b := gh 81 0) r_41a k57 dX7_movedAt_41 ?_
        refine z_iconst F dX7_movedAt_44 ?_
        refine lv_iload_n F.1 F.2.1 dX7_movedAt_45 rfl (lv_at hl 2 rfl) ?_
        refine z_imul F dX7_movedAt_46 ?_
        refine lv_iload_n F.1 F.2.1 dX7_movedAt_47 rfl (lv_at hl 3 rfl) ?_
        refine z_iadd F dX7_movedAt_48 ?_
        have hx49 : 0 ≤ ((5 * ip) + wh) ∧ ((5 * ip) + wh) < ((1200 : Nat) : Int) ∧ ((5 * ip) + wh) ≤ 2147483647 := ⟨by omega, by omega, by omega⟩
        refine g_iald F hH r_41b hx49.1 hx49.2.1 hx49.2.2 dX7_movedAt_49 ?_
        refine z_name (fun v_42 ev_42 => ?_)
        have zv_42 : zr v_42 := by rw [ev_42]; exact zr_t _
        refine z_goto (tgt := 54) F dX7_movedAt_50 (by decide) ?_
        exact g_iret F hr hlk hH hS hz zv_42 ⟨rfl, rfl, rfl, rfl, hv, hT, nf⟩ dX7_movedAt_54
    · refine z_iconst F dX7_movedAt_25 ?_
      refine z_goto (tgt := 30) F dX7_movedAt_26 (by decide) ?_
      refine g_putI (ci := 7) (k := 17) F hH hS rfl (by decide) iX7 hm (by decide) tyX7 tyX7_ok nmX7 rfl rfl rfl k60 dX7_movedAt_30 (fun H locs hH hS => ?_)
      obtain ⟨I_43, eI_43⟩ : ∃ qQ, qQ = gup2 I mo 17 (iI (0)) := ⟨_, rfl⟩
      rw [← eI_43] at hH
      have kI_43 : ∀ b, b ≠ mo → I_43 b = I b := fun b hb => by rw [eI_43]; exact funext fun j => gup2_a _ _ hb
      have w_44 : (I_43 mo 17).toInt = 0 := by rw [eI_43, gup2_s]; exact iI_val ⟨by decide, by decide⟩
      have hv : mInv g gh R I_43 AI_21 := by rw [eI_43]; exact mP17 hv hm
      have nf : nF mo I I_43 := nF_t nf (by rw [eI_43]; exact nF_p (by decide))
      have u_45_2 : (I_43 mo 2).toInt = (I mo 2).toInt := by rw [nf 2 (by decide) (by decide) (by decide) (by decide) (by decide)]
      have u_45_5 : (I_43 mo 5).toInt = (I mo 5).toInt := by rw [nf 5 (by decide) (by decide) (by decide) (by decide) (by decide)]
      have u_45_14 : (I_43 mo 14).toInt = (I mo 14).toInt := by rw [nf 14 (by decide) (by decide) (by decide) (by decide) (by decide)]
      have u_45_16 : (I_43 mo 16).toInt = (I mo 16).toInt := by rw [nf 16 (by decide) (by decide) (by decide) (by decide) (by decide)]
      have u_45_24 : (I_43 mo 24).toInt = (I mo 24).toInt := by rw [nf 24 (by decide) (by decide) (by decide) (by decide) (by decide)]
      refine lv_aload_n F.1 F.2.1 dX7_movedAt_33 rfl (lv_at hl 0 rfl) ?_
      refine g_getI (ci := 7) (k := 17) F hH rfl (by decide) iX7 hm (by decide) rfl k60 dX7_movedAt_34 ?_
      refine z_if_ne (tgt := 53) F dX7_movedAt_37 (by decide) (zr_t _) (fun c_46 => ?_) (fun c_46 => ?_)
      · refine z_iconst F dX7_movedAt_53 ?_
        exact g_iret F hr hlk hH hS hz ⟨by decide, by decide⟩ ⟨rfl, rfl, rfl, rfl, hv, hT, nf⟩ dX7_movedAt_54
      · refine lv_aload_n F.1 F.2.1 dX7_movedAt_40 rfl (lv_at hl 0 rfl) ?_
        obtain ⟨r_47a, r_47b⟩ : R mo 31 = some (gh 81 0) ∧ gAr g (gh 81 0) 9 1200 := mR hv hm (q := (31, 1200)) (by decide)
        refine g_getR (ci := 7) (k := 31) F hH rfl (by decide) iX7 hm (by decide) rfl (b := gh 81 0) r_47a k57 dX7_movedAt_41 ?_
        refine z_iconst F dX7_movedAt_44 ?_
        refine lv_iload_n F.1 F.2.1 dX7_movedAt_45 rfl (lv_at hl 2 rfl) ?_
        refine z_imul F dX7_movedAt_46 ?_
        refine lv_iload_n F.1 F.2.1 dX7_movedAt_47 rfl (lv_at hl 3 rfl) ?_
        refine z_iadd F dX7_movedAt_48 ?_
        have hx49 : 0 ≤ ((5 * ip) + wh) ∧ ((5 * ip) + wh) < ((1200 : Nat) : Int) ∧ ((5 * ip) + wh) ≤ 2147483647 := ⟨by omega, by omega, by omega⟩
        refine g_iald F hH r_47b hx49.1 hx49.2.1 hx49.2.2 dX7_movedAt_49 ?_
        refine z_name (fun v_48 ev_48 => ?_)
        have zv_48 : zr v_48 := by rw [ev_48]; exact zr_t _
        refine z_goto (tgt := 54) F dX7_movedAt_50 (by decide) ?_
        exact g_iret F hr hlk hH hS hz zv_48 ⟨rfl, rfl, rfl, rfl, hv, hT, nf⟩ dX7_movedAt_54

def rmX7_came : Room := { frames := 3, cells := 0, slots := 0, locals := 76 }
theorem hdX7_came : yX7_came.cls = RX7 ∧ yX7_came.cls ≠ "java/lang/invoke/MethodHandle" ∧ yX7_came.cls ≠ "java/lang/invoke/VarHandle" ∧ (parseMethodDescriptor yX7_came.desc).map (fun d => d.parameters.length) = some 1 := by decide +kernel
set_option maxHeartbeats 4000000 in
set_option maxRecDepth 100000 in
/-- came -/
theorem c_X7_came (l : Launch) (g : gG) (gh : gGh) (T : Nat → Int32) (I : gI) (R : gR) (J : gJ) (AI : gI) (AJ : gJ) (AR : gR) (mo : Nat) (rr : Int) (zrr : zr rr) (hv : mInv g gh R I AI) (hm : gO g mo 7) (hT : AI (gh 50 0) = T) : gMet l g yX7_came tsX7_came rmX7_came [.ref mo, .int (iI rr)] (I, R, J, AI, AJ, AR) (gQi g (fun (z : Int) (w : gS) => R = w.2.1 ∧ J = w.2.2.1 ∧ AJ = w.2.2.2.2.1 ∧ AR = w.2.2.2.2.2 ∧ (mInv g gh R (w.1) (w.2.2.2.1)) ∧ ((w.2.2.2.1) (gh 50 0) = T) ∧ (nF mo I (w.1)))) := by
  refine gStart (cc := cX7_came) (maxL := 2) (ret := (some (.int))) (by decide) rfl (Nat.le_of_ble_eq_true rfl) ?_
  intro p e s m below meth c ls F hr hlk hH hz hS hl
  have hl : lv_has ls 2 [(0, .ref mo), (1, .int (iI rr))] := hl
  have hS : va_S (gA g) s.heap s.heap [] := hS
  obtain ⟨H, hHe⟩ : ∃ H : Heap, H = s.heap := ⟨_, rfl⟩
  obtain ⟨locs, hlo⟩ : ∃ k : List Loc, k = [] := ⟨_, rfl⟩
  have hH : gH g I R J AI AJ AR H := by rw [hHe]; exact hH
  have hS : va_S (gA g) s.heap H locs := by rw [hHe, hlo]; exact hS
  suffices hw : W p l e rmX7_came s m ([.ref mo, .int (iI rr)] : List Value).toArray below meth c H locs 0 0 (MQ below (gQi g (fun (z : Int) (w : gS) => R = w.2.1 ∧ J = w.2.2.1 ∧ AJ = w.2.2.2.2.1 ∧ AR = w.2.2.2.2.2 ∧ (mInv g gh R (w.1) (w.2.2.2.1)) ∧ ((w.2.2.2.1) (gh 50 0) = T) ∧ (nF mo I (w.1)))) ([.ref mo, .int (iI rr)] : List Value).toArray s 0 0 (gA g)) (F0 m 0 ls []) by
    rw [hHe, hlo] at hw; exact hw
  clear hHe hlo
  have nf : nF mo I I := nF_r
  have iX7 : ∀ w ∈ u_ws RX7 TX7 32, w ∈ tsX7_came := fun w h => List.mem_cons_of_mem _ (inTB7 w h)
  have k60 : Cond.fieldLink RX7 60 (TX7 17).1 (TX7 17).2.1 (TX7 17).2.2.1 ∈ tsX7_came := List.mem_cons_of_mem _ fl_60
  refine lv_aload_n F.1 F.2.1 dX7_came_0 rfl (lv_at hl 0 rfl) ?_
  refine z_iconst F dX7_came_1 ?_
  refine g_putI (ci := 7) (k := 17) F hH hS rfl (by decide) iX7 hm (by decide) tyX7 tyX7_ok nmX7 rfl rfl rfl k60 dX7_came_2 (fun H locs hH hS => ?_)
  obtain ⟨I_1, eI_1⟩ : ∃ qQ, qQ = gup2 I mo 17 (iI (0)) := ⟨_, rfl⟩
  rw [← eI_1] at hH
  have kI_1 : ∀ b, b ≠ mo → I_1 b = I b := fun b hb => by rw [eI_1]; exact funext fun j => gup2_a _ _ hb
  have w_2 : (I_1 mo 17).toInt = 0 := by rw [eI_1, gup2_s]; exact iI_val ⟨by decide, by decide⟩
  have hv : mInv g gh R I_1 AI := by rw [eI_1]; exact mP17 hv hm
  have nf : nF mo I I_1 := nF_t nf (by rw [eI_1]; exact nF_p (by decide))
  have u_3_2 : (I_1 mo 2).toInt = (I mo 2).toInt := by rw [nf 2 (by decide) (by decide) (by decide) (by decide) (by decide)]
  have u_3_5 : (I_1 mo 5).toInt = (I mo 5).toInt := by rw [nf 5 (by decide) (by decide) (by decide) (by decide) (by decide)]
  have u_3_14 : (I_1 mo 14).toInt = (I mo 14).toInt := by rw [nf 14 (by decide) (by decide) (by decide) (by decide) (by decide)]
  have u_3_16 : (I_1 mo 16).toInt = (I mo 16).toInt := by rw [nf 16 (by decide) (by decide) (by decide) (by decide) (by decide)]
  have u_3_24 : (I_1 mo 24).toInt = (I mo 24).toInt := by rw [nf 24 (by decide) (by decide) (by decide) (by decide) (by decide)]
  refine lv_aload_n F.1 F.2.1 dX7_came_5 rfl (lv_at hl 0 rfl) ?_
  refine lv_iload_n F.1 F.2.1 dX7_came_6 rfl (lv_at hl 1 rfl) ?_
  have b_4 := mJ hv hm
  unfold mNum1 at b_4
  refine g_calli (g_runV (As := [.int (iI rr)]) (rest := []) (ci := 7) F hl.1 hH hS hz (c_X7_isRelation l g gh T I_1 R J AI AJ AR mo rr zrr hv hm hT) (cwV 1 F.2.2.2.2.1 (good_up gT_X7_isRelation) rfl rfl rfl hdX7_isRelation ⟨Nat.le_of_ble_eq_true rfl, Nat.le_of_ble_eq_true rfl⟩) hm (by decide) rfl rfl rfl (Nat.le_of_ble_eq_true rfl) dX7_came_7 ⟨Nat.zero_le _, Nat.zero_le _⟩) hS (fun v_11 I_5 R_6 J_7 AI_8 AJ_9 AR_10 H locs zv_11 hp_12 hH hS => ?_)
  dsimp only at hp_12
  obtain ⟨rfl, rfl, rfl, rfl, rfl, rfl, q_13⟩ := hp_12
  refine z_if_eq (tgt := 29) F dX7_came_10 (by decide) zv_11 (fun c_14 => ?_) (fun c_14 => ?_)
  · refine z_iconst F dX7_came_29 ?_
    exact g_iret F hr hlk hH hS hz ⟨by decide, by decide⟩ ⟨rfl, rfl, rfl, rfl, hv, hT, nf⟩ dX7_came_30
  · refine lv_aload_n F.1 F.2.1 dX7_came_13 rfl (lv_at hl 0 rfl) ?_
    refine lv_iload_n F.1 F.2.1 dX7_came_14 rfl (lv_at hl 1 rfl) ?_
    refine g_calli (g_runV (As := [.int (iI rr)]) (rest := []) (ci := 7) F hl.1 hH hS hz (c_X7_kindOf l g gh T I_1 R J AI AJ AR mo rr zrr hv hm hT (by omega)) (cwV 1 F.2.2.2.2.1 (good_up gT_X7_kindOf) rfl rfl rfl hdX7_kindOf ⟨Nat.le_of_ble_eq_true rfl, Nat.le_of_ble_eq_true rfl⟩) hm (by decide) rfl rfl rfl (Nat.le_of_ble_eq_true rfl) dX7_came_15 ⟨Nat.zero_le _, Nat.zero_le _⟩) hS (fun v_21 I_15 R_16 J_17 AI_18 AJ_19 AR_20 H locs zv_21 hp_22 hH hS => ?_)
    dsimp only at hp_22
    obtain ⟨rfl, rfl, rfl, rfl, rfl, rfl, q_23⟩ := hp_22
    refine z_if_eq (tgt := 29) F dX7_came_18 (by decide) zv_21 (fun c_24 => ?_) (fun c_24 => ?_)
    · refine z_iconst F dX7_came_29 ?_
      exact g_iret F hr hlk hH hS hz ⟨by decide, by decide⟩ ⟨rfl, rfl, rfl, rfl, hv, hT, nf⟩ dX7_came_30
    · refine lv_aload_n F.1 F.2.1 dX7_came_21 rfl (lv_at hl 0 rfl) ?_
      refine lv_iload_n F.1 F.2.1 dX7_came_22 rfl (lv_at hl 1 rfl) ?_
      refine g_calli (g_runV (As := [.int (iI rr)]) (rest := []) (ci := 7) F hl.1 hH hS hz (c_X7_cameTo l g gh T I_1 R J AI AJ AR mo rr zrr hv hm hT (by omega) (by omega)) (cwV 1 F.2.2.2.2.1 (good_up gT_X7_cameTo) rfl rfl rfl hdX7_cameTo ⟨Nat.le_of_ble_eq_true rfl, Nat.le_of_ble_eq_true rfl⟩) hm (by decide) rfl rfl rfl (Nat.le_of_ble_eq_true rfl) dX7_came_23 ⟨Nat.zero_le _, Nat.zero_le _⟩) hS (fun v_31 I_25 R_26 J_27 AI_28 AJ_29 AR_30 H locs zv_31 hp_32 hH hS => ?_)
      dsimp only at hp_32
      obtain ⟨rfl, rfl, rfl, rfl, rfl, hv, hT, q_33⟩ := hp_32
      refine z_goto (tgt := 30) F dX7_came_26 (by decide) ?_
      exact g_iret F hr hlk hH hS hz zv_31 ⟨rfl, rfl, rfl, rfl, hv, hT, nf⟩ dX7_came_30

def rmX7_round : Room := { frames := 2, cells := 0, slots := 0, locals := 52 }
theorem hdX7_round : yX7_round.cls = RX7 ∧ yX7_round.cls ≠ "java/lang/invoke/MethodHandle" ∧ yX7_round.cls ≠ "java/lang/invoke/VarHandle" ∧ (parseMethodDescriptor yX7_round.desc).map (fun d => d.parameters.length) = some 5 := by decide +kernel
set_option maxHeartbeats 4000000 in
set_option maxRecDepth 100000 in
/-- round -/
theorem c_X7_round (l : Launch) (g : gG) (gh : gGh) (T : Nat → Int32) (I : gI) (R : gR) (J : gJ) (AI : gI) (AJ : gJ) (AR : gR) (mo : Nat) (rr : Int) (a1 : Int) (b1 : Int) (c1 : Int) (d1 : Int) (zrr : zr rr) (za1 : zr a1) (zb1 : zr b1) (zc1 : zr c1) (zd1 : zr d1) (hv : mInv g gh R I AI) (hm : gO g mo 7) (hT : AI (gh 50 0) = T) : gMet l g yX7_round tsX7_round rmX7_round [.ref mo, .int (iI rr), .int (iI a1), .int (iI b1), .int (iI c1), .int (iI d1)] (I, R, J, AI, AJ, AR) (gQi g (fun (z : Int) (w : gS) => R = w.2.1 ∧ J = w.2.2.1 ∧ AJ = w.2.2.2.2.1 ∧ AR = w.2.2.2.2.2 ∧ (mInv g gh R (w.1) (w.2.2.2.1)) ∧ ((w.2.2.2.1) (gh 50 0) = T) ∧ (nF mo I (w.1)))) := by
  refine gStart (cc := cX7_round) (maxL := 7) (ret := (some (.int))) (by decide) rfl (Nat.le_of_ble_eq_true rfl) ?_
  intro p e s m below meth c ls F hr hlk hH hz hS hl
  have hl : lv_has ls 7 [(0, .ref mo), (1, .int (iI rr)), (2, .int (iI a1)), (3, .int (iI b1)), (4, .int (iI c1)), (5, .int (iI d1))] := hl
  have hS : va_S (gA g) s.heap s.heap [] := hS
  obtain ⟨H, hHe⟩ : ∃ H : Heap, H = s.heap := ⟨_, rfl⟩
  obtain ⟨locs, hlo⟩ : ∃ k : List Loc, k = [] := ⟨_, rfl⟩
  have hH : gH g I R J AI AJ AR H := by rw [hHe]; exact hH
  have hS : va_S (gA g) s.heap H locs := by rw [hHe, hlo]; exact hS
  suffices hw : W p l e rmX7_round s m ([.ref mo, .int (iI rr), .int (iI a1), .int (iI b1), .int (iI c1), .int (iI d1)] : List Value).toArray below meth c H locs 0 0 (MQ below (gQi g (fun (z : Int) (w : gS) => R = w.2.1 ∧ J = w.2.2.1 ∧ AJ = w.2.2.2.2.1 ∧ AR = w.2.2.2.2.2 ∧ (mInv g gh R (w.1) (w.2.2.2.1)) ∧ ((w.2.2.2.1) (gh 50 0) = T) ∧ (nF mo I (w.1)))) ([.ref mo, .int (iI rr), .int (iI a1), .int (iI b1), .int (iI c1), .int (iI d1)] : List Value).toArray s 0 0 (gA g)) (F0 m 0 ls []) by
    rw [hHe, hlo] at hw; exact hw
  clear hHe hlo
  have nf : nF mo I I := nF_r
  have iX7 : ∀ w ∈ u_ws RX7 TX7 32, w ∈ tsX7_round := fun w h => List.mem_cons_of_mem _ (inTB7 w h)
  have k60 : Cond.fieldLink RX7 60 (TX7 17).1 (TX7 17).2.1 (TX7 17).2.2.1 ∈ tsX7_round := List.mem_cons_of_mem _ fl_60
  have k24 : Cond.fieldLink RX7 24 (TX7 6).1 (TX7 6).2.1 (TX7 6).2.2.1 ∈ tsX7_round := List.mem_cons_of_mem _ fl_24
  refine lv_aload_n F.1 F.2.1 dX7_round_0 rfl (lv_at hl 0 rfl) ?_
  refine z_iconst F dX7_round_1 ?_
  refine g_putI (ci := 7) (k := 17) F hH hS rfl (by decide) iX7 hm (by decide) tyX7 tyX7_ok nmX7 rfl rfl rfl k60 dX7_round_2 (fun H locs hH hS => ?_)
  obtain ⟨I_1, eI_1⟩ : ∃ qQ, qQ = gup2 I mo 17 (iI (0)) := ⟨_, rfl⟩
  rw [← eI_1] at hH
  have kI_1 : ∀ b, b ≠ mo → I_1 b = I b := fun b hb => by rw [eI_1]; exact funext fun j => gup2_a _ _ hb
  have w_2 : (I_1 mo 17).toInt = 0 := by rw [eI_1, gup2_s]; exact iI_val ⟨by decide, by decide⟩
  have hv : mInv g gh R I_1 AI := by rw [eI_1]; exact mP17 hv hm
  have nf : nF mo I I_1 := nF_t nf (by rw [eI_1]; exact nF_p (by decide))
  have u_3_2 : (I_1 mo 2).toInt = (I mo 2).toInt := by rw [nf 2 (by decide) (by decide) (by decide) (by decide) (by decide)]
  have u_3_5 : (I_1 mo 5).toInt = (I mo 5).toInt := by rw [nf 5 (by decide) (by decide) (by decide) (by decide) (by decide)]
  have u_3_14 : (I_1 mo 14).toInt = (I mo 14).toInt := by rw [nf 14 (by decide) (by decide) (by decide) (by decide) (by decide)]
  have u_3_16 : (I_1 mo 16).toInt = (I mo 16).toInt := by rw [nf 16 (by decide) (by decide) (by decide) (by decide) (by decide)]
  have u_3_24 : (I_1 mo 24).toInt = (I mo 24).toInt := by rw [nf 24 (by decide) (by decide) (by decide) (by decide) (by decide)]
  refine lv_aload_n F.1 F.2.1 dX7_round_5 rfl (lv_at hl 0 rfl) ?_
  refine lv_iload_n F.1 F.2.1 dX7_round_6 rfl (lv_at hl 1 rfl) ?_
  have b_4 := mJ hv hm
  unfold mNum1 at b_4
  refine g_calli (g_runV (As := [.int (iI rr)]) (rest := []) (ci := 7) F hl.1 hH hS hz (c_X7_isRelation l g gh T I_1 R J AI AJ AR mo rr zrr hv hm hT) (cwV 1 F.2.2.2.2.1 (good_up gT_X7_isRelation) rfl rfl rfl hdX7_isRelation ⟨Nat.le_of_ble_eq_true rfl, Nat.le_of_ble_eq_true rfl⟩) hm (by decide) rfl rfl rfl (Nat.le_of_ble_eq_true rfl) dX7_round_7 ⟨Nat.zero_le _, Nat.zero_le _⟩) hS (fun v_11 I_5 R_6 J_7 AI_8 AJ_9 AR_10 H locs zv_11 hp_12 hH hS => ?_)
  dsimp only at hp_12
  obtain ⟨rfl, rfl, rfl, rfl, rfl, rfl, q_13⟩ := hp_12
  refine z_if_eq (tgt := 23) F dX7_round_10 (by decide) zv_11 (fun c_14 => ?_) (fun c_14 => ?_)
  · refine z_iconst F dX7_round_23 ?_
    exact g_iret F hr hlk hH hS hz ⟨by decide, by decide⟩ ⟨rfl, rfl, rfl, rfl, hv, hT, nf⟩ dX7_round_24
  · refine lv_aload_n F.1 F.2.1 dX7_round_13 rfl (lv_at hl 0 rfl) ?_
    refine lv_iload_n F.1 F.2.1 dX7_round_14 rfl (lv_at hl 1 rfl) ?_
    refine g_calli (g_runV (As := [.int (iI rr)]) (rest := []) (ci := 7) F hl.1 hH hS hz (c_X7_kindOf l g gh T I_1 R J AI AJ AR mo rr zrr hv hm hT (by omega)) (cwV 1 F.2.2.2.2.1 (good_up gT_X7_kindOf) rfl rfl rfl hdX7_kindOf ⟨Nat.le_of_ble_eq_true rfl, Nat.le_of_ble_eq_true rfl⟩) hm (by decide) rfl rfl rfl (Nat.le_of_ble_eq_true rfl) dX7_round_15 ⟨Nat.zero_le _, Nat.zero_le _⟩) hS (fun v_21 I_15 R_16 J_17 AI_18 AJ_19 AR_20 H locs zv_21 hp_22 hH hS => ?_)
    dsimp only at hp_22
    obtain ⟨rfl, rfl, rfl, rfl, rfl, rfl, q_23⟩ := hp_22
    refine z_bipush F dX7_round_18 (by decide) ?_
    refine z_icmp_eq (tgt := 25) F dX7_round_20 (by decide) zv_21 ⟨by decide, by decide⟩ (fun c_24 => ?_) (fun c_24 => ?_)
    · refine lv_aload_n F.1 F.2.1 dX7_round_25 rfl (lv_at hl 0 rfl) ?_
      refine z_iconst F dX7_round_26 ?_
      refine lv_iload_n F.1 F.2.1 dX7_round_27 rfl (lv_at hl 1 rfl) ?_
      refine lv_iload_n F.1 F.2.1 dX7_round_28 rfl (lv_at hl 2 rfl) ?_
      refine lv_iload_n F.1 F.2.1 dX7_round_29 rfl (lv_at hl 3 rfl) ?_
      refine lv_iload F.1 F.2.1 dX7_round_30 (lv_at hl 4 rfl) ?_
      refine lv_iload F.1 F.2.1 dX7_round_32 (lv_at hl 5 rfl) ?_
      refine g_calli (g_runV (As := [.int (iI 0), .int (iI rr), .int (iI a1), .int (iI b1), .int (iI c1), .int (iI d1)]) (rest := []) (ci := 7) F hl.1 hH hS hz (c_X7_find l g gh T I_1 R J AI AJ AR mo 0 rr a1 b1 c1 d1 ⟨by decide, by decide⟩ zrr za1 zb1 zc1 zd1 hv hm hT (by omega) (by omega)) (cwV 6 F.2.2.2.2.1 (good_up gT_X7_find) rfl rfl rfl hdX7_find ⟨Nat.le_of_ble_eq_true rfl, Nat.le_of_ble_eq_true rfl⟩) hm (by decide) rfl rfl rfl (Nat.le_of_ble_eq_true rfl) dX7_round_34 ⟨Nat.zero_le _, Nat.zero_le _⟩) hS (fun v_31 I_25 R_26 J_27 AI_28 AJ_29 AR_30 H locs zv_31 hp_32 hH hS => ?_)
      dsimp only at hp_32
      obtain ⟨rfl, rfl, rfl, rfl, rfl, hv, hT, q_33⟩ := hp_32
      refine lv_istore (lv' := [(6, .int (iI v_31)), (0, .ref mo), (1, .int (iI rr)), (2, .int (iI a1)), (3, .int (iI b1)), (4, .int (iI c1)), (5, .int (iI d1))]) F.1 F.2.1 dX7_round_37 hl (by decide) rfl (fun ls hl => ?_)
      refine lv_iload F.1 F.2.1 dX7_round_39 (lv_at hl 0 rfl) ?_
      refine z_if_ge (tgt := 48) F dX7_round_41 (by decide) zv_31 (fun c_34 => ?_) (fun c_34 => ?_)
      · refine lv_aload_n F.1 F.2.1 dX7_round_48 rfl (lv_at hl 1 rfl) ?_
        obtain ⟨r_35a, r_35b⟩ : R mo 6 = some (gh 56 0) ∧ gAr g (gh 56 0) 9 126720 := mR hv hm (q := (6, 126720)) (by decide)
        refine g_getR (ci := 7) (k := 6) F hH rfl (by decide) iX7 hm (by decide) rfl (b := gh 56 0) r_35a k24 dX7_round_49 ?_
        refine z_iconst F dX7_round_52 ?_
        refine lv_iload_n F.1 F.2.1 dX7_round_53 rfl (lv_at hl 2 rfl) ?_
        refine lv_iload F.1 F.2.1 dX7_round_54 (lv_at hl 0 rfl) ?_
        refine g_calli (g_runS (As := [.int (iI 0), .int (iI rr), .int (iI v_31)]) (rest := [.ref (gh 56 0)]) F hl.1 hH hS hz (c_X7_spot l g  I_1 R J AI_28 AJ AR 0 rr v_31 ⟨by decide, by decide⟩ zrr zv_31 (by omega) (by omega) (by omega)) (va_cwS 3 F.2.2.2.2.1 (good_up gT_X7_spot) rfl rfl rfl hdX7_spot.2 ⟨Nat.le_of_ble_eq_true rfl, Nat.le_of_ble_eq_true rfl⟩) rfl rfl (Nat.le_of_ble_eq_true rfl) dX7_round_56 ⟨Nat.zero_le _, Nat.zero_le _⟩) hS (fun v_42 I_36 R_37 J_38 AI_39 AJ_40 AR_41 H locs zv_42 hp_43 hH hS => ?_)
        dsimp only at hp_43
        obtain ⟨rfl, rfl, rfl, rfl, rfl, rfl, q_44⟩ := hp_43
        refine z_iconst F dX7_round_59 ?_
        refine z_iadd F dX7_round_60 ?_
        have hx61 : 0 ≤ (v_42 + 5) ∧ (v_42 + 5) < ((126720 : Nat) : Int) ∧ (v_42 + 5) ≤ 2147483647 := ⟨by omega, by omega, by omega⟩
        refine g_iald F hH r_35b hx61.1 hx61.2.1 hx61.2.2 dX7_round_61 ?_
        refine z_name (fun v_45 ev_45 => ?_)
        have zv_45 : zr v_45 := by rw [ev_45]; exact zr_t _
        exact g_iret F hr hlk hH hS hz zv_45 ⟨rfl, rfl, rfl, rfl, hv, hT, nf⟩ dX7_round_62
      · refine z_iconst F dX7_round_44 ?_
        refine z_goto (tgt := 62) F dX7_round_45 (by decide) ?_
        exact g_iret F hr hlk hH hS hz ⟨by decide, by decide⟩ ⟨rfl, rfl, rfl, rfl, hv, hT, nf⟩ dX7_round_62
    · refine z_iconst F dX7_round_23 ?_
      exact g_iret F hr hlk hH hS hz ⟨by decide, by decide⟩ ⟨rfl, rfl, rfl, rfl, hv, hT, nf⟩ dX7_round_24

def rmX7_rounds : Room := { frames := 2, cells := 0, slots := 0, locals := 43 }
theorem hdX7_rounds : yX7_rounds.cls = RX7 ∧ yX7_rounds.cls ≠ "java/lang/invoke/MethodHandle" ∧ yX7_rounds.cls ≠ "java/lang/invoke/VarHandle" ∧ (parseMethodDescriptor yX7_rounds.desc).map (fun d => d.parameters.length) = some 1 := by decide +kernel
set_option maxHeartbeats 4000000 in
set_option maxRecDepth 100000 in
/-- rounds -/
theorem c_X7_rounds (l : Launch) (g : gG) (gh : gGh) (T : Nat → Int32) (I : gI) (R : gR) (J : gJ) (AI : gI) (AJ : gJ) (AR : gR) (mo : Nat) (rr : Int) (zrr : zr rr) (hv : mInv g gh R I AI) (hm : gO g mo 7) (hT : AI (gh 50 0) = T) : gMet l g yX7_rounds tsX7_rounds rmX7_rounds [.ref mo, .int (iI rr)] (I, R, J, AI, AJ, AR) (gQi g (fun (z : Int) (w : gS) => R = w.2.1 ∧ J = w.2.2.1 ∧ AI = w.2.2.2.1 ∧ AJ = w.2.2.2.2.1 ∧ AR = w.2.2.2.2.2 ∧ (mInv g gh R (w.1) AI) ∧ (nF mo I (w.1)))) := by
  refine gStart (cc := cX7_rounds) (maxL := 2) (ret := (some (.int))) (by decide) rfl (Nat.le_of_ble_eq_true rfl) ?_
  intro p e s m below meth c ls F hr hlk hH hz hS hl
  have hl : lv_has ls 2 [(0, .ref mo), (1, .int (iI rr))] := hl
  have hS : va_S (gA g) s.heap s.heap [] := hS
  obtain ⟨H, hHe⟩ : ∃ H : Heap, H = s.heap := ⟨_, rfl⟩
  obtain ⟨locs, hlo⟩ : ∃ k : List Loc, k = [] := ⟨_, rfl⟩
  have hH : gH g I R J AI AJ AR H := by rw [hHe]; exact hH
  have hS : va_S (gA g) s.heap H locs := by rw [hHe, hlo]; exact hS
  suffices hw : W p l e rmX7_rounds s m ([.ref mo, .int (iI rr)] : List Value).toArray below meth c H locs 0 0 (MQ below (gQi g (fun (z : Int) (w : gS) => R = w.2.1 ∧ J = w.2.2.1 ∧ AI = w.2.2.2.1 ∧ AJ = w.2.2.2.2.1 ∧ AR = w.2.2.2.2.2 ∧ (mInv g gh R (w.1) AI) ∧ (nF mo I (w.1)))) ([.ref mo, .int (iI rr)] : List Value).toArray s 0 0 (gA g)) (F0 m 0 ls []) by
    rw [hHe, hlo] at hw; exact hw
  clear hHe hlo
  have nf : nF mo I I := nF_r
  have iX7 : ∀ w ∈ u_ws RX7 TX7 32, w ∈ tsX7_rounds := fun w h => List.mem_cons_of_mem _ (inTB7 w h)
  have k60 : Cond.fieldLink RX7 60 (TX7 17).1 (TX7 17).2.1 (TX7 17).2.2.1 ∈ tsX7_rounds := List.mem_cons_of_mem _ fl_60
  have k51 : Cond.fieldLink RX7 51 (TX7 29).1 (TX7 29).2.1 (TX7 29).2.2.1 ∈ tsX7_rounds := List.mem_cons_of_mem _ fl_51
  refine lv_aload_n F.1 F.2.1 dX7_rounds_0 rfl (lv_at hl 0 rfl) ?_
  refine z_iconst F dX7_rounds_1 ?_
  refine g_putI (ci := 7) (k := 17) F hH hS rfl (by decide) iX7 hm (by decide) tyX7 tyX7_ok nmX7 rfl rfl rfl k60 dX7_rounds_2 (fun H locs hH hS => ?_)
  obtain ⟨I_1, eI_1⟩ : ∃ qQ, qQ = gup2 I mo 17 (iI (0)) := ⟨_, rfl⟩
  rw [← eI_1] at hH
  have kI_1 : ∀ b, b ≠ mo → I_1 b = I b := fun b hb => by rw [eI_1]; exact funext fun j => gup2_a _ _ hb
  have w_2 : (I_1 mo 17).toInt = 0 := by rw [eI_1, gup2_s]; exact iI_val ⟨by decide, by decide⟩
  have hv : mInv g gh R I_1 AI := by rw [eI_1]; exact mP17 hv hm
  have nf : nF mo I I_1 := nF_t nf (by rw [eI_1]; exact nF_p (by decide))
  have u_3_2 : (I_1 mo 2).toInt = (I mo 2).toInt := by rw [nf 2 (by decide) (by decide) (by decide) (by decide) (by decide)]
  have u_3_5 : (I_1 mo 5).toInt = (I mo 5).toInt := by rw [nf 5 (by decide) (by decide) (by decide) (by decide) (by decide)]
  have u_3_14 : (I_1 mo 14).toInt = (I mo 14).toInt := by rw [nf 14 (by decide) (by decide) (by decide) (by decide) (by decide)]
  have u_3_16 : (I_1 mo 16).toInt = (I mo 16).toInt := by rw [nf 16 (by decide) (by decide) (by decide) (by decide) (by decide)]
  have u_3_24 : (I_1 mo 24).toInt = (I mo 24).toInt := by rw [nf 24 (by decide) (by decide) (by decide) (by decide) (by decide)]
  refine lv_aload_n F.1 F.2.1 dX7_rounds_5 rfl (lv_at hl 0 rfl) ?_
  refine lv_iload_n F.1 F.2.1 dX7_rounds_6 rfl (lv_at hl 1 rfl) ?_
  have b_4 := mJ hv hm
  unfold mNum1 at b_4
  refine g_calli (g_runV (As := [.int (iI rr)]) (rest := []) (ci := 7) F hl.1 hH hS hz (c_X7_isRelation l g gh T I_1 R J AI AJ AR mo rr zrr hv hm hT) (cwV 1 F.2.2.2.2.1 (good_up gT_X7_isRelation) rfl rfl rfl hdX7_isRelation ⟨Nat.le_of_ble_eq_true rfl, Nat.le_of_ble_eq_true rfl⟩) hm (by decide) rfl rfl rfl (Nat.le_of_ble_eq_true rfl) dX7_rounds_7 ⟨Nat.zero_le _, Nat.zero_le _⟩) hS (fun v_11 I_5 R_6 J_7 AI_8 AJ_9 AR_10 H locs zv_11 hp_12 hH hS => ?_)
  dsimp only at hp_12
  obtain ⟨rfl, rfl, rfl, rfl, rfl, rfl, q_13⟩ := hp_12
  refine z_if_eq (tgt := 34) F dX7_rounds_10 (by decide) zv_11 (fun c_14 => ?_) (fun c_14 => ?_)
  · refine z_iconst F dX7_rounds_34 ?_
    exact g_iret F hr hlk hH hS hz ⟨by decide, by decide⟩ ⟨rfl, rfl, rfl, rfl, rfl, hv, nf⟩ dX7_rounds_35
  · refine lv_aload_n F.1 F.2.1 dX7_rounds_13 rfl (lv_at hl 0 rfl) ?_
    refine lv_iload_n F.1 F.2.1 dX7_rounds_14 rfl (lv_at hl 1 rfl) ?_
    refine g_calli (g_runV (As := [.int (iI rr)]) (rest := []) (ci := 7) F hl.1 hH hS hz (c_X7_kindOf l g gh T I_1 R J AI AJ AR mo rr zrr hv hm hT (by omega)) (cwV 1 F.2.2.2.2.1 (good_up gT_X7_kindOf) rfl rfl rfl hdX7_kindOf ⟨Nat.le_of_ble_eq_true rfl, Nat.le_of_ble_eq_true rfl⟩) hm (by decide) rfl rfl rfl (Nat.le_of_ble_eq_true rfl) dX7_rounds_15 ⟨Nat.zero_le _, Nat.zero_le _⟩) hS (fun v_21 I_15 R_16 J_17 AI_18 AJ_19 AR_20 H locs zv_21 hp_22 hH hS => ?_)
    dsimp only at hp_22
    obtain ⟨rfl, rfl, rfl, rfl, rfl, rfl, q_23⟩ := hp_22
    refine z_bipush F dX7_rounds_18 (by decide) ?_
    refine z_icmp_ne (tgt := 34) F dX7_rounds_20 (by decide) zv_21 ⟨by decide, by decide⟩ (fun c_24 => ?_) (fun c_24 => ?_)
    · refine z_iconst F dX7_rounds_34 ?_
      exact g_iret F hr hlk hH hS hz ⟨by decide, by decide⟩ ⟨rfl, rfl, rfl, rfl, rfl, hv, nf⟩ dX7_rounds_35
    · refine lv_aload_n F.1 F.2.1 dX7_rounds_23 rfl (lv_at hl 0 rfl) ?_
      obtain ⟨r_25a, r_25b⟩ : R mo 29 = some (gh 79 0) ∧ gAr g (gh 79 0) 9 176 := mR hv hm (q := (29, 176)) (by decide)
      refine g_getR (ci := 7) (k := 29) F hH rfl (by decide) iX7 hm (by decide) rfl (b := gh 79 0) r_25a k51 dX7_rounds_24 ?_
      refine z_iconst F dX7_rounds_27 ?_
      refine lv_iload_n F.1 F.2.1 dX7_rounds_28 rfl (lv_at hl 1 rfl) ?_
      refine z_iadd F dX7_rounds_29 ?_
      have hx30 : 0 ≤ (0 + rr) ∧ (0 + rr) < ((176 : Nat) : Int) ∧ (0 + rr) ≤ 2147483647 := ⟨by omega, by omega, by omega⟩
      refine g_iald F hH r_25b hx30.1 hx30.2.1 hx30.2.2 dX7_rounds_30 ?_
      refine z_name (fun v_26 ev_26 => ?_)
      have zv_26 : zr v_26 := by rw [ev_26]; exact zr_t _
      refine z_goto (tgt := 35) F dX7_rounds_31 (by decide) ?_
      exact g_iret F hr hlk hH hS hz zv_26 ⟨rfl, rfl, rfl, rfl, rfl, hv, nf⟩ dX7_rounds_35
