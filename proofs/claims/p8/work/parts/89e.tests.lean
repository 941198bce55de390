def rmX7_holdsf : Room := { frames := 1, cells := 0, slots := 0, locals := 23 }
set_option maxHeartbeats 4000000 in
set_option maxRecDepth 100000 in
/-- holds -/
theorem c_X7_holdsf (l : Launch) (g : gG) (gh : gGh) (T : Nat → Int32) (lc : LC) (t : Tup) (I : gI) (R : gR) (J : gJ) (AI : gI) (AJ : gJ) (AR : gR) (mo : Nat) (rr : Int) (fm : Int) (zrr : zr rr) (zfm : zr fm) (hv : mInv g gh R I AI) (hm : gO g mo 7) (hT : AI (gh 50 0) = T) (hr0 : 0 ≤ rr ∧ rr < (I mo 2).toInt) (hk : tI T (40 * rr) = 1) (h0 : 0 ≤ fm ∧ fm + 4 ≤ 126720) (hts : tsM T rr lc) (ht : ∀ j, j < 4 → AI (gh 56 0) (fm.toNat + j) = tg t j) : gMet l g yX7_holds tsX7_holds rmX7_holdsf [.ref mo, .int (iI rr), .int (iI fm)] (I, R, J, AI, AJ, AR) (gQi g (fun (z : Int) (w : gS) => I = w.1 ∧ R = w.2.1 ∧ J = w.2.2.1 ∧ AI = w.2.2.2.1 ∧ AJ = w.2.2.2.2.1 ∧ AR = w.2.2.2.2.2 ∧ (z = 0 ∨ z = 1) ∧ (tIz z (hldP lc t)))) := by
  refine gStart (cc := cX7_holds) (maxL := 7) (ret := (some (.boolean))) (by decide) rfl (Nat.le_of_ble_eq_true rfl) ?_
  intro p e s m below meth c ls F hr hlk hH hz hS hl
  have hl : lv_has ls 7 [(0, .ref mo), (1, .int (iI rr)), (2, .int (iI fm))] := hl
  have hS : va_S (gA g) s.heap s.heap [] := hS
  obtain ⟨H, hHe⟩ : ∃ H : Heap, H = s.heap := ⟨_, rfl⟩
  obtain ⟨locs, hlo⟩ : ∃ k : List Loc, k = [] := ⟨_, rfl⟩
  have hH : gH g I R J AI AJ AR H := by rw [hHe]; exact hH
  have hS : va_S (gA g) s.heap H locs := by rw [hHe, hlo]; exact hS
  suffices hw : W p l e rmX7_holdsf s m ([.ref mo, .int (iI rr), .int (iI fm)] : List Value).toArray below meth c H locs 0 0 (MQ below (gQi g (fun (z : Int) (w : gS) => I = w.1 ∧ R = w.2.1 ∧ J = w.2.2.1 ∧ AI = w.2.2.2.1 ∧ AJ = w.2.2.2.2.1 ∧ AR = w.2.2.2.2.2 ∧ (z = 0 ∨ z = 1) ∧ (tIz z (hldP lc t)))) ([.ref mo, .int (iI rr), .int (iI fm)] : List Value).toArray s 0 0 (gA g)) (F0 m 0 ls []) by
    rw [hHe, hlo] at hw; exact hw
  clear hHe hlo
  have hb0 := mJ hv hm
  unfold mNum1 at hb0
  have x := mRow hv hm hT (z := rr) (by omega) (by omega)
  have xa := x.1
  have xc := x.2.2.1
  have xb := x.2.1 (by omega)
  have x1 := x.2.2.2.2.1 (by omega)
  have hts1 := hts.1
  have iX7 : ∀ w ∈ u_ws RX7 TX7 32, w ∈ tsX7_holds := fun w h => List.mem_cons_of_mem _ (inTB7 w h)
  have k24 : Cond.fieldLink RX7 24 (TX7 6).1 (TX7 6).2.1 (TX7 6).2.2.1 ∈ tsX7_holds := List.mem_cons_of_mem _ fl_24
  refine z_iconst F dX7_holds_0 ?_
  refine lv_istore_n (lv' := [(3, .int (iI 0)), (0, .ref mo), (1, .int (iI rr)), (2, .int (iI fm))]) F.1 F.2.1 dX7_holds_1 rfl hl (by decide) rfl (fun ls hl => ?_)
  have cut_2_0 : ∀ (NN : Nat) (k : Int) (H : Heap) (locs : List Loc) (ls : Array Slot), zr k → (0 ≤ k ∧ k ≤ tI T (40 * rr + 4)) → (∀ j : Nat, (j : Int) < k → tstP lc j t) → (8 - k) < ((NN : Nat) : Int) → gH g I R J AI AJ AR H → va_S (gA g) s.heap H locs → lv_has ls 7 [(3, .int (iI k)), (0, .ref mo), (1, .int (iI rr)), (2, .int (iI fm))] → W p l e rmX7_holdsf s m ([.ref mo, .int (iI rr), .int (iI fm)] : List Value).toArray below meth c H locs 0 0 (MQ below (gQi g (fun (z : Int) (w : gS) => I = w.1 ∧ R = w.2.1 ∧ J = w.2.2.1 ∧ AI = w.2.2.2.1 ∧ AJ = w.2.2.2.2.1 ∧ AR = w.2.2.2.2.2 ∧ (z = 0 ∨ z = 1) ∧ (tIz z (hldP lc t)))) ([.ref mo, .int (iI rr), .int (iI fm)] : List Value).toArray s 0 0 (gA g)) (F0 m 2 ls []) := by
    intro NN2
    induction NN2 with
    | zero =>
      intro k H locs ls zk hk1 hno hm2 hH hS hl
      exact absurd hm2 (by omega)
    | succ NN2 ih2 =>
      intro k H locs ls zk hk1 hno hm2 hH hS hl
      refine lv_iload_n F.1 F.2.1 dX7_holds_2 rfl (lv_at hl 0 rfl) ?_
      refine lv_aload_n F.1 F.2.1 dX7_holds_3 rfl (lv_at hl 1 rfl) ?_
      refine lv_iload_n F.1 F.2.1 dX7_holds_4 rfl (lv_at hl 2 rfl) ?_
      have b_2 := mJ hv hm
      unfold mNum1 at b_2
      refine g_calli (g_runV (As := [.int (iI rr)]) (rest := [.int (iI k)]) (ci := 7) F hl.1 hH hS hz (c_X7_partsOf l g gh T I R J AI AJ AR mo rr zrr hv hm hT (by omega)) (cwV 1 F.2.2.2.2.1 (good_up gT_X7_partsOf) rfl rfl rfl hdX7_partsOf ⟨Nat.le_of_ble_eq_true rfl, Nat.le_of_ble_eq_true rfl⟩) hm (by decide) rfl rfl rfl (Nat.le_of_ble_eq_true rfl) dX7_holds_5 ⟨Nat.zero_le _, Nat.zero_le _⟩) hS (fun v_9 I_3 R_4 J_5 AI_6 AJ_7 AR_8 H locs zv_9 hp_10 hH hS => ?_)
      dsimp only at hp_10
      obtain ⟨rfl, rfl, rfl, rfl, rfl, rfl, q_11⟩ := hp_10
      refine z_icmp_ge (tgt := 119) F dX7_holds_8 (by decide) zk zv_9 (fun c_12 => ?_) (fun c_12 => ?_)
      · refine z_iconst F dX7_holds_119 ?_
        exact g_zret F hr hlk hH hS hz (by omega) ⟨rfl, rfl, rfl, rfl, rfl, rfl, by first | omega | rfl | (dsimp only; omega), tIz_t (fun j hj => hno j (by omega))⟩ dX7_holds_120
      · have q1 := x1 k (by omega) (by omega)
        refine lv_aload_n F.1 F.2.1 dX7_holds_11 rfl (lv_at hl 1 rfl) ?_
        obtain ⟨r_13a, r_13b⟩ : R mo 6 = some (gh 56 0) ∧ gAr g (gh 56 0) 9 126720 := mR hv hm (q := (6, 126720)) (by decide)
        refine g_getR (ci := 7) (k := 6) F hH rfl (by decide) iX7 hm (by decide) rfl (b := gh 56 0) r_13a k24 dX7_holds_12 ?_
        refine lv_iload_n F.1 F.2.1 dX7_holds_15 rfl (lv_at hl 3 rfl) ?_
        refine lv_aload_n F.1 F.2.1 dX7_holds_16 rfl (lv_at hl 1 rfl) ?_
        refine lv_iload_n F.1 F.2.1 dX7_holds_17 rfl (lv_at hl 2 rfl) ?_
        refine lv_iload_n F.1 F.2.1 dX7_holds_18 rfl (lv_at hl 0 rfl) ?_
        refine z_iconst F dX7_holds_19 ?_
        refine g_calli (g_runV (As := [.int (iI rr), .int (iI k), .int (iI 0)]) (rest := [.int (iI fm), .ref (gh 56 0)]) (ci := 7) F hl.1 hH hS hz (c_X7_part l g gh T I R J AI AJ AR mo rr k 0 zrr zk ⟨by decide, by decide⟩ hv hm hT (by omega) (by omega) (by omega)) (cwV 3 F.2.2.2.2.1 (good_up gT_X7_part) rfl rfl rfl hdX7_part ⟨Nat.le_of_ble_eq_true rfl, Nat.le_of_ble_eq_true rfl⟩) hm (by decide) rfl rfl rfl (Nat.le_of_ble_eq_true rfl) dX7_holds_20 ⟨Nat.zero_le _, Nat.zero_le _⟩) hS (fun v_20 I_14 R_15 J_16 AI_17 AJ_18 AR_19 H locs zv_20 hp_21 hH hS => ?_)
        dsimp only at hp_21
        obtain ⟨rfl, rfl, rfl, rfl, rfl, rfl, q_22⟩ := hp_21
        have hpk := tsM_at hts (k := k) (by omega) (by omega)
        refine z_iadd F dX7_holds_23 ?_
        have hx24 : 0 ≤ (fm + v_20) ∧ (fm + v_20) < ((126720 : Nat) : Int) ∧ (fm + v_20) ≤ 2147483647 := ⟨by omega, by omega, by omega⟩
        refine g_iald F hH r_13b hx24.1 hx24.2.1 hx24.2.2 dX7_holds_24 ?_
        refine z_name (fun v_23 ev_23 => ?_)
        have zv_23 : zr v_23 := by rw [ev_23]; exact zr_t _
        have hcv : v_23 = tu t (lc.2 k.toNat 0).toNat := by unfold tu; rw [← ht _ (by omega), ev_23]; congr 2; omega
        refine lv_istore (lv' := [(4, .int (iI v_23)), (3, .int (iI k)), (0, .ref mo), (1, .int (iI rr)), (2, .int (iI fm))]) F.1 F.2.1 dX7_holds_25 hl (by decide) rfl (fun ls hl => ?_)
        refine lv_aload_n F.1 F.2.1 dX7_holds_27 rfl (lv_at hl 2 rfl) ?_
        refine lv_iload_n F.1 F.2.1 dX7_holds_28 rfl (lv_at hl 3 rfl) ?_
        refine lv_iload_n F.1 F.2.1 dX7_holds_29 rfl (lv_at hl 1 rfl) ?_
        refine z_iconst F dX7_holds_30 ?_
        refine g_calli (g_runV (As := [.int (iI rr), .int (iI k), .int (iI 2)]) (rest := []) (ci := 7) F hl.1 hH hS hz (c_X7_part l g gh T I R J AI AJ AR mo rr k 2 zrr zk ⟨by decide, by decide⟩ hv hm hT (by omega) (by omega) (by omega)) (cwV 3 F.2.2.2.2.1 (good_up gT_X7_part) rfl rfl rfl hdX7_part ⟨Nat.le_of_ble_eq_true rfl, Nat.le_of_ble_eq_true rfl⟩) hm (by decide) rfl rfl rfl (Nat.le_of_ble_eq_true rfl) dX7_holds_31 ⟨Nat.zero_le _, Nat.zero_le _⟩) hS (fun v_30 I_24 R_25 J_26 AI_27 AJ_28 AR_29 H locs zv_30 hp_31 hH hS => ?_)
        dsimp only at hp_31
        obtain ⟨rfl, rfl, rfl, rfl, rfl, rfl, q_32⟩ := hp_31
        refine z_iconst F dX7_holds_34 ?_
        refine z_icmp_ne (tgt := 55) F dX7_holds_35 (by decide) zv_30 ⟨by decide, by decide⟩ (fun c_33 => ?_) (fun c_33 => ?_)
        · refine lv_aload_n F.1 F.2.1 dX7_holds_55 rfl (lv_at hl 2 rfl) ?_
          refine lv_iload_n F.1 F.2.1 dX7_holds_56 rfl (lv_at hl 3 rfl) ?_
          refine lv_iload_n F.1 F.2.1 dX7_holds_57 rfl (lv_at hl 1 rfl) ?_
          refine z_iconst F dX7_holds_58 ?_
          refine g_calli (g_runV (As := [.int (iI rr), .int (iI k), .int (iI 3)]) (rest := []) (ci := 7) F hl.1 hH hS hz (c_X7_part l g gh T I R J AI AJ AR mo rr k 3 zrr zk ⟨by decide, by decide⟩ hv hm hT (by omega) (by omega) (by omega)) (cwV 3 F.2.2.2.2.1 (good_up gT_X7_part) rfl rfl rfl hdX7_part ⟨Nat.le_of_ble_eq_true rfl, Nat.le_of_ble_eq_true rfl⟩) hm (by decide) rfl rfl rfl (Nat.le_of_ble_eq_true rfl) dX7_holds_59 ⟨Nat.zero_le _, Nat.zero_le _⟩) hS (fun v_40 I_34 R_35 J_36 AI_37 AJ_38 AR_39 H locs zv_40 hp_41 hH hS => ?_)
          dsimp only at hp_41
          obtain ⟨rfl, rfl, rfl, rfl, rfl, rfl, q_42⟩ := hp_41
          have hcw : v_40 = (if lc.2 k.toNat 2 = -1 then lc.2 k.toNat 3 else tu t (lc.2 k.toNat 2).toNat) := by rw [if_pos (by omega)]; omega
          refine lv_istore (lv' := [(5, .int (iI v_40)), (4, .int (iI v_23)), (3, .int (iI k)), (0, .ref mo), (1, .int (iI rr)), (2, .int (iI fm))]) F.1 F.2.1 dX7_holds_62 hl (by decide) rfl (fun ls hl => ?_)
          refine lv_aload_n F.1 F.2.1 dX7_holds_64 rfl (lv_at hl 3 rfl) ?_
          refine lv_iload_n F.1 F.2.1 dX7_holds_65 rfl (lv_at hl 4 rfl) ?_
          refine lv_iload_n F.1 F.2.1 dX7_holds_66 rfl (lv_at hl 2 rfl) ?_
          refine z_iconst F dX7_holds_67 ?_
          refine g_calli (g_runV (As := [.int (iI rr), .int (iI k), .int (iI 1)]) (rest := []) (ci := 7) F hl.1 hH hS hz (c_X7_part l g gh T I R J AI AJ AR mo rr k 1 zrr zk ⟨by decide, by decide⟩ hv hm hT (by omega) (by omega) (by omega)) (cwV 3 F.2.2.2.2.1 (good_up gT_X7_part) rfl rfl rfl hdX7_part ⟨Nat.le_of_ble_eq_true rfl, Nat.le_of_ble_eq_true rfl⟩) hm (by decide) rfl rfl rfl (Nat.le_of_ble_eq_true rfl) dX7_holds_68 ⟨Nat.zero_le _, Nat.zero_le _⟩) hS (fun v_49 I_43 R_44 J_45 AI_46 AJ_47 AR_48 H locs zv_49 hp_50 hH hS => ?_)
          dsimp only at hp_50
          obtain ⟨rfl, rfl, rfl, rfl, rfl, rfl, q_51⟩ := hp_50
          have htst : tstP lc k.toNat t ↔ tst3 v_23 (lc.2 k.toNat 1) v_40 := by unfold tstP; rw [hcv, hcw]
          clear hcw
          refine lv_istore (lv' := [(6, .int (iI v_49)), (5, .int (iI v_40)), (4, .int (iI v_23)), (3, .int (iI k)), (0, .ref mo), (1, .int (iI rr)), (2, .int (iI fm))]) F.1 F.2.1 dX7_holds_71 hl (by decide) rfl (fun ls hl => ?_)
          refine lv_iload F.1 F.2.1 dX7_holds_73 (lv_at hl 0 rfl) ?_
          refine z_if_ne (tgt := 88) F dX7_holds_75 (by decide) zv_49 (fun c_52 => ?_) (fun c_52 => ?_)
          · refine lv_iload F.1 F.2.1 dX7_holds_88 (lv_at hl 0 rfl) ?_
            refine z_iconst F dX7_holds_90 ?_
            refine z_icmp_ne (tgt := 104) F dX7_holds_91 (by decide) zv_49 ⟨by decide, by decide⟩ (fun c_53 => ?_) (fun c_53 => ?_)
            · refine lv_iload F.1 F.2.1 dX7_holds_104 (lv_at hl 2 rfl) ?_
              refine lv_iload F.1 F.2.1 dX7_holds_106 (lv_at hl 1 rfl) ?_
              refine z_icmp_gt (tgt := 113) F dX7_holds_108 (by decide) zv_23 zv_40 (fun c_54 => ?_) (fun c_54 => ?_)
              · refine z_iinc (lv' := [(3, .int (iI (k + 1))), (6, .int (iI v_49)), (5, .int (iI v_40)), (4, .int (iI v_23)), (0, .ref mo), (1, .int (iI rr)), (2, .int (iI fm))]) F dX7_holds_113 hl (k := 3) rfl (by decide) rfl (fun ls hl => ?_)
                refine z_goto (tgt := 2) F dX7_holds_116 (by decide) ?_
                exact ih2 (k + 1) H locs ls ⟨by omega, by omega⟩ (by omega) (ix_step (P := fun j => tstP lc j t) hno (by omega) (htst.mpr (tst3_y (fun _ => by omega) (fun _ => by omega) (fun _ _ => by omega)))) (by omega) hH hS (lv_sub hl [0, 4, 5, 6] rfl)
              · refine z_iconst F dX7_holds_111 ?_
                exact g_zret F hr hlk hH hS hz (by omega) ⟨rfl, rfl, rfl, rfl, rfl, rfl, by first | omega | rfl | (dsimp only; omega), tIz_f (fun h9 => by have h8 := htst.mp (h9 k.toNat (by omega)); have h7 := tst3_e h8; omega)⟩ dX7_holds_112
            · refine lv_iload F.1 F.2.1 dX7_holds_94 (lv_at hl 2 rfl) ?_
              refine lv_iload F.1 F.2.1 dX7_holds_96 (lv_at hl 1 rfl) ?_
              refine z_icmp_lt (tgt := 113) F dX7_holds_98 (by decide) zv_23 zv_40 (fun c_55 => ?_) (fun c_55 => ?_)
              · refine z_iinc (lv' := [(3, .int (iI (k + 1))), (6, .int (iI v_49)), (5, .int (iI v_40)), (4, .int (iI v_23)), (0, .ref mo), (1, .int (iI rr)), (2, .int (iI fm))]) F dX7_holds_113 hl (k := 3) rfl (by decide) rfl (fun ls hl => ?_)
                refine z_goto (tgt := 2) F dX7_holds_116 (by decide) ?_
                exact ih2 (k + 1) H locs ls ⟨by omega, by omega⟩ (by omega) (ix_step (P := fun j => tstP lc j t) hno (by omega) (htst.mpr (tst3_y (fun _ => by omega) (fun _ => by omega) (fun _ _ => by omega)))) (by omega) hH hS (lv_sub hl [0, 4, 5, 6] rfl)
              · refine z_goto (tgt := 111) F dX7_holds_101 (by decide) ?_
                refine z_iconst F dX7_holds_111 ?_
                exact g_zret F hr hlk hH hS hz (by omega) ⟨rfl, rfl, rfl, rfl, rfl, rfl, by first | omega | rfl | (dsimp only; omega), tIz_f (fun h9 => by have h8 := htst.mp (h9 k.toNat (by omega)); have h7 := tst3_e h8; omega)⟩ dX7_holds_112
          · refine lv_iload F.1 F.2.1 dX7_holds_78 (lv_at hl 2 rfl) ?_
            refine lv_iload F.1 F.2.1 dX7_holds_80 (lv_at hl 1 rfl) ?_
            refine z_icmp_eq (tgt := 113) F dX7_holds_82 (by decide) zv_23 zv_40 (fun c_56 => ?_) (fun c_56 => ?_)
            · refine z_iinc (lv' := [(3, .int (iI (k + 1))), (6, .int (iI v_49)), (5, .int (iI v_40)), (4, .int (iI v_23)), (0, .ref mo), (1, .int (iI rr)), (2, .int (iI fm))]) F dX7_holds_113 hl (k := 3) rfl (by decide) rfl (fun ls hl => ?_)
              refine z_goto (tgt := 2) F dX7_holds_116 (by decide) ?_
              exact ih2 (k + 1) H locs ls ⟨by omega, by omega⟩ (by omega) (ix_step (P := fun j => tstP lc j t) hno (by omega) (htst.mpr (tst3_y (fun _ => by omega) (fun _ => by omega) (fun _ _ => by omega)))) (by omega) hH hS (lv_sub hl [0, 4, 5, 6] rfl)
            · refine z_goto (tgt := 111) F dX7_holds_85 (by decide) ?_
              refine z_iconst F dX7_holds_111 ?_
              exact g_zret F hr hlk hH hS hz (by omega) ⟨rfl, rfl, rfl, rfl, rfl, rfl, by first | omega | rfl | (dsimp only; omega), tIz_f (fun h9 => by have h8 := htst.mp (h9 k.toNat (by omega)); have h7 := tst3_e h8; omega)⟩ dX7_holds_112
        · refine lv_aload_n F.1 F.2.1 dX7_holds_38 rfl (lv_at hl 2 rfl) ?_
          refine g_getR (ci := 7) (k := 6) F hH rfl (by decide) iX7 hm (by decide) rfl (b := gh 56 0) r_13a k24 dX7_holds_39 ?_
          refine lv_iload_n F.1 F.2.1 dX7_holds_42 rfl (lv_at hl 4 rfl) ?_
          refine lv_aload_n F.1 F.2.1 dX7_holds_43 rfl (lv_at hl 2 rfl) ?_
          refine lv_iload_n F.1 F.2.1 dX7_holds_44 rfl (lv_at hl 3 rfl) ?_
          refine lv_iload_n F.1 F.2.1 dX7_holds_45 rfl (lv_at hl 1 rfl) ?_
          refine z_iconst F dX7_holds_46 ?_
          refine g_calli (g_runV (As := [.int (iI rr), .int (iI k), .int (iI 3)]) (rest := [.int (iI fm), .ref (gh 56 0)]) (ci := 7) F hl.1 hH hS hz (c_X7_part l g gh T I R J AI AJ AR mo rr k 3 zrr zk ⟨by decide, by decide⟩ hv hm hT (by omega) (by omega) (by omega)) (cwV 3 F.2.2.2.2.1 (good_up gT_X7_part) rfl rfl rfl hdX7_part ⟨Nat.le_of_ble_eq_true rfl, Nat.le_of_ble_eq_true rfl⟩) hm (by decide) rfl rfl rfl (Nat.le_of_ble_eq_true rfl) dX7_holds_47 ⟨Nat.zero_le _, Nat.zero_le _⟩) hS (fun v_63 I_57 R_58 J_59 AI_60 AJ_61 AR_62 H locs zv_63 hp_64 hH hS => ?_)
          dsimp only at hp_64
          obtain ⟨rfl, rfl, rfl, rfl, rfl, rfl, q_65⟩ := hp_64
          refine z_iadd F dX7_holds_50 ?_
          have hx51 : 0 ≤ (fm + v_63) ∧ (fm + v_63) < ((126720 : Nat) : Int) ∧ (fm + v_63) ≤ 2147483647 := ⟨by omega, by omega, by omega⟩
          refine g_iald F hH r_13b hx51.1 hx51.2.1 hx51.2.2 dX7_holds_51 ?_
          refine z_name (fun v_66 ev_66 => ?_)
          have zv_66 : zr v_66 := by rw [ev_66]; exact zr_t _
          have hcw : v_66 = (if lc.2 k.toNat 2 = -1 then lc.2 k.toNat 3 else tu t (lc.2 k.toNat 2).toNat) := by rw [if_neg (by omega)]; unfold tu; rw [← ht _ (by omega), ev_66]; congr 2; omega
          refine z_goto (tgt := 62) F dX7_holds_52 (by decide) ?_
          refine lv_istore (lv' := [(5, .int (iI v_66)), (4, .int (iI v_23)), (3, .int (iI k)), (0, .ref mo), (1, .int (iI rr)), (2, .int (iI fm))]) F.1 F.2.1 dX7_holds_62 hl (by decide) rfl (fun ls hl => ?_)
          refine lv_aload_n F.1 F.2.1 dX7_holds_64 rfl (lv_at hl 3 rfl) ?_
          refine lv_iload_n F.1 F.2.1 dX7_holds_65 rfl (lv_at hl 4 rfl) ?_
          refine lv_iload_n F.1 F.2.1 dX7_holds_66 rfl (lv_at hl 2 rfl) ?_
          refine z_iconst F dX7_holds_67 ?_
          refine g_calli (g_runV (As := [.int (iI rr), .int (iI k), .int (iI 1)]) (rest := []) (ci := 7) F hl.1 hH hS hz (c_X7_part l g gh T I R J AI AJ AR mo rr k 1 zrr zk ⟨by decide, by decide⟩ hv hm hT (by omega) (by omega) (by omega)) (cwV 3 F.2.2.2.2.1 (good_up gT_X7_part) rfl rfl rfl hdX7_part ⟨Nat.le_of_ble_eq_true rfl, Nat.le_of_ble_eq_true rfl⟩) hm (by decide) rfl rfl rfl (Nat.le_of_ble_eq_true rfl) dX7_holds_68 ⟨Nat.zero_le _, Nat.zero_le _⟩) hS (fun v_73 I_67 R_68 J_69 AI_70 AJ_71 AR_72 H locs zv_73 hp_74 hH hS => ?_)
          dsimp only at hp_74
          obtain ⟨rfl, rfl, rfl, rfl, rfl, rfl, q_75⟩ := hp_74
          have htst : tstP lc k.toNat t ↔ tst3 v_23 (lc.2 k.toNat 1) v_66 := by unfold tstP; rw [hcv, hcw]
          clear hcw
          refine lv_istore (lv' := [(6, .int (iI v_73)), (5, .int (iI v_66)), (4, .int (iI v_23)), (3, .int (iI k)), (0, .ref mo), (1, .int (iI rr)), (2, .int (iI fm))]) F.1 F.2.1 dX7_holds_71 hl (by decide) rfl (fun ls hl => ?_)
          refine lv_iload F.1 F.2.1 dX7_holds_73 (lv_at hl 0 rfl) ?_
          refine z_if_ne (tgt := 88) F dX7_holds_75 (by decide) zv_73 (fun c_76 => ?_) (fun c_76 => ?_)
          · refine lv_iload F.1 F.2.1 dX7_holds_88 (lv_at hl 0 rfl) ?_
            refine z_iconst F dX7_holds_90 ?_
            refine z_icmp_ne (tgt := 104) F dX7_holds_91 (by decide) zv_73 ⟨by decide, by decide⟩ (fun c_77 => ?_) (fun c_77 => ?_)
            · refine lv_iload F.1 F.2.1 dX7_holds_104 (lv_at hl 2 rfl) ?_
              refine lv_iload F.1 F.2.1 dX7_holds_106 (lv_at hl 1 rfl) ?_
              refine z_icmp_gt (tgt := 113) F dX7_holds_108 (by decide) zv_23 zv_66 (fun c_78 => ?_) (fun c_78 => ?_)
              · refine z_iinc (lv' := [(3, .int (iI (k + 1))), (6, .int (iI v_73)), (5, .int (iI v_66)), (4, .int (iI v_23)), (0, .ref mo), (1, .int (iI rr)), (2, .int (iI fm))]) F dX7_holds_113 hl (k := 3) rfl (by decide) rfl (fun ls hl => ?_)
                refine z_goto (tgt := 2) F dX7_holds_116 (by decide) ?_
                exact ih2 (k + 1) H locs ls ⟨by omega, by omega⟩ (by omega) (ix_step (P := fun j => tstP lc j t) hno (by omega) (htst.mpr (tst3_y (fun _ => by omega) (fun _ => by omega) (fun _ _ => by omega)))) (by omega) hH hS (lv_sub hl [0, 4, 5, 6] rfl)
              · refine z_iconst F dX7_holds_111 ?_
                exact g_zret F hr hlk hH hS hz (by omega) ⟨rfl, rfl, rfl, rfl, rfl, rfl, by first | omega | rfl | (dsimp only; omega), tIz_f (fun h9 => by have h8 := htst.mp (h9 k.toNat (by omega)); have h7 := tst3_e h8; omega)⟩ dX7_holds_112
            · refine lv_iload F.1 F.2.1 dX7_holds_94 (lv_at hl 2 rfl) ?_
              refine lv_iload F.1 F.2.1 dX7_holds_96 (lv_at hl 1 rfl) ?_
              refine z_icmp_lt (tgt := 113) F dX7_holds_98 (by decide) zv_23 zv_66 (fun c_79 => ?_) (fun c_79 => ?_)
              · refine z_iinc (lv' := [(3, .int (iI (k + 1))), (6, .int (iI v_73)), (5, .int (iI v_66)), (4, .int (iI v_23)), (0, .ref mo), (1, .int (iI rr)), (2, .int (iI fm))]) F dX7_holds_113 hl (k := 3) rfl (by decide) rfl (fun ls hl => ?_)
                refine z_goto (tgt := 2) F dX7_holds_116 (by decide) ?_
                exact ih2 (k + 1) H locs ls ⟨by omega, by omega⟩ (by omega) (ix_step (P := fun j => tstP lc j t) hno (by omega) (htst.mpr (tst3_y (fun _ => by omega) (fun _ => by omega) (fun _ _ => by omega)))) (by omega) hH hS (lv_sub hl [0, 4, 5, 6] rfl)
              · refine z_goto (tgt := 111) F dX7_holds_101 (by decide) ?_
                refine z_iconst F dX7_holds_111 ?_
                exact g_zret F hr hlk hH hS hz (by omega) ⟨rfl, rfl, rfl, rfl, rfl, rfl, by first | omega | rfl | (dsimp only; omega), tIz_f (fun h9 => by have h8 := htst.mp (h9 k.toNat (by omega)); have h7 := tst3_e h8; omega)⟩ dX7_holds_112
          · refine lv_iload F.1 F.2.1 dX7_holds_78 (lv_at hl 2 rfl) ?_
            refine lv_iload F.1 F.2.1 dX7_holds_80 (lv_at hl 1 rfl) ?_
            refine z_icmp_eq (tgt := 113) F dX7_holds_82 (by decide) zv_23 zv_66 (fun c_80 => ?_) (fun c_80 => ?_)
            · refine z_iinc (lv' := [(3, .int (iI (k + 1))), (6, .int (iI v_73)), (5, .int (iI v_66)), (4, .int (iI v_23)), (0, .ref mo), (1, .int (iI rr)), (2, .int (iI fm))]) F dX7_holds_113 hl (k := 3) rfl (by decide) rfl (fun ls hl => ?_)
              refine z_goto (tgt := 2) F dX7_holds_116 (by decide) ?_
              exact ih2 (k + 1) H locs ls ⟨by omega, by omega⟩ (by omega) (ix_step (P := fun j => tstP lc j t) hno (by omega) (htst.mpr (tst3_y (fun _ => by omega) (fun _ => by omega) (fun _ _ => by omega)))) (by omega) hH hS (lv_sub hl [0, 4, 5, 6] rfl)
            · refine z_goto (tgt := 111) F dX7_holds_85 (by decide) ?_
              refine z_iconst F dX7_holds_111 ?_
              exact g_zret F hr hlk hH hS hz (by omega) ⟨rfl, rfl, rfl, rfl, rfl, rfl, by first | omega | rfl | (dsimp only; omega), tIz_f (fun h9 => by have h8 := htst.mp (h9 k.toNat (by omega)); have h7 := tst3_e h8; omega)⟩ dX7_holds_112
  exact cut_2_0 (((8 - 0) + 1 : Int).toNat) 0 H locs ls ⟨by decide, by decide⟩ (by omega) (fun j hj => absurd hj (by omega)) (by omega) hH hS (lv_sub hl [0, 1, 2, 3] rfl)

def rmX7_termsf : Room := { frames := 1, cells := 0, slots := 0, locals := 23 }
set_option maxHeartbeats 4000000 in
set_option maxRecDepth 100000 in
/-- terms -/
theorem c_X7_termsf (l : Launch) (g : gG) (gh : gGh) (T : Nat → Int32) (lc : LC) (hh : Nat → Int32) (I : gI) (R : gR) (J : gJ) (AI : gI) (AJ : gJ) (AR : gR) (mo : Nat) (rr : Int) (fm : Int) (n : Int) (zrr : zr rr) (zfm : zr fm) (zn : zr n) (hv : mInv g gh R I AI) (hm : gO g mo 7) (hT : AI (gh 50 0) = T) (hr0 : 0 ≤ rr ∧ rr ≤ 15) (h0 : 0 ≤ fm ∧ fm ≤ 1) (hq : ∀ k : Int, 0 ≤ k → k < 4 → k < n → mP T rr (fm + k) 0 ≤ 3) (htm : tmM T rr fm lc) (hlc4 : n = lc.1 4) (hhh : ∀ j : Nat, j < 8 → AI (gh 78 0) j = hh j) : gMet l g yX7_terms tsX7_terms rmX7_termsf [.ref mo, .int (iI rr), .int (iI fm), .int (iI n)] (I, R, J, AI, AJ, AR) (gQv g (fun w : gS => I = w.1 ∧ R = w.2.1 ∧ J = w.2.2.1 ∧ AJ = w.2.2.2.2.1 ∧ AR = w.2.2.2.2.2 ∧ (mInv g gh R I (w.2.2.2.1)) ∧ ((w.2.2.2.1) (gh 50 0) = T) ∧ (∀ b, b ≠ gh 77 0 → (w.2.2.2.1) b = AI b) ∧ (∀ j, j < 4 → (w.2.2.2.1) (gh 77 0) j = tg (trT lc hh) j))) := by
  refine gStart (cc := cX7_terms) (maxL := 5) (ret := none) (by decide) rfl (Nat.le_of_ble_eq_true rfl) ?_
  intro p e s m below meth c ls F hr hlk hH hz hS hl
  have hl : lv_has ls 5 [(0, .ref mo), (1, .int (iI rr)), (2, .int (iI fm)), (3, .int (iI n))] := hl
  have hS : va_S (gA g) s.heap s.heap [] := hS
  obtain ⟨H, hHe⟩ : ∃ H : Heap, H = s.heap := ⟨_, rfl⟩
  obtain ⟨locs, hlo⟩ : ∃ k : List Loc, k = [] := ⟨_, rfl⟩
  have hH : gH g I R J AI AJ AR H := by rw [hHe]; exact hH
  have hS : va_S (gA g) s.heap H locs := by rw [hHe, hlo]; exact hS
  suffices hw : W p l e rmX7_termsf s m ([.ref mo, .int (iI rr), .int (iI fm), .int (iI n)] : List Value).toArray below meth c H locs 0 0 (MQ below (gQv g (fun w : gS => I = w.1 ∧ R = w.2.1 ∧ J = w.2.2.1 ∧ AJ = w.2.2.2.2.1 ∧ AR = w.2.2.2.2.2 ∧ (mInv g gh R I (w.2.2.2.1)) ∧ ((w.2.2.2.1) (gh 50 0) = T) ∧ (∀ b, b ≠ gh 77 0 → (w.2.2.2.1) b = AI b) ∧ (∀ j, j < 4 → (w.2.2.2.1) (gh 77 0) j = tg (trT lc hh) j))) ([.ref mo, .int (iI rr), .int (iI fm), .int (iI n)] : List Value).toArray s 0 0 (gA g)) (F0 m 0 ls []) by
    rw [hHe, hlo] at hw; exact hw
  clear hHe hlo
  have iX7 : ∀ w ∈ u_ws RX7 TX7 32, w ∈ tsX7_terms := fun w h => List.mem_cons_of_mem _ (inTB7 w h)
  have k45 : Cond.fieldLink RX7 45 (TX7 27).1 (TX7 27).2.1 (TX7 27).2.2.1 ∈ tsX7_terms := List.mem_cons_of_mem _ fl_45
  have k48 : Cond.fieldLink RX7 48 (TX7 28).1 (TX7 28).2.1 (TX7 28).2.2.1 ∈ tsX7_terms := List.mem_cons_of_mem _ fl_48
  refine z_iconst F dX7_terms_0 ?_
  refine lv_istore (lv' := [(4, .int (iI 0)), (0, .ref mo), (1, .int (iI rr)), (2, .int (iI fm)), (3, .int (iI n))]) F.1 F.2.1 dX7_terms_1 hl (by decide) rfl (fun ls hl => ?_)
  have cut_3_1 : ∀ (NN : Nat) (k : Int) (AI_1 : gI) (H : Heap) (locs : List Loc) (ls : Array Slot), zr k → (mInv g gh R I AI_1) → (AI_1 (gh 50 0) = T) → (0 ≤ k ∧ k ≤ 4) → (∀ b, b ≠ gh 77 0 → AI_1 b = AI b) → (∀ j : Nat, (j : Int) < k → AI_1 (gh 77 0) j = tg (trT lc hh) j) → (4 - k) < ((NN : Nat) : Int) → gH g I R J AI_1 AJ AR H → va_S (gA g) s.heap H locs → lv_has ls 5 [(4, .int (iI k)), (0, .ref mo), (1, .int (iI rr)), (2, .int (iI fm)), (3, .int (iI n))] → W p l e rmX7_termsf s m ([.ref mo, .int (iI rr), .int (iI fm), .int (iI n)] : List Value).toArray below meth c H locs 0 0 (MQ below (gQv g (fun w : gS => I = w.1 ∧ R = w.2.1 ∧ J = w.2.2.1 ∧ AJ = w.2.2.2.2.1 ∧ AR = w.2.2.2.2.2 ∧ (mInv g gh R I (w.2.2.2.1)) ∧ ((w.2.2.2.1) (gh 50 0) = T) ∧ (∀ b, b ≠ gh 77 0 → (w.2.2.2.1) b = AI b) ∧ (∀ j, j < 4 → (w.2.2.2.1) (gh 77 0) j = tg (trT lc hh) j))) ([.ref mo, .int (iI rr), .int (iI fm), .int (iI n)] : List Value).toArray s 0 0 (gA g)) (F0 m 3 ls []) := by
    intro NN3
    induction NN3 with
    | zero =>
      intro k AI_1 H locs ls zk hv hT hk1 fW htr hm3 hH hS hl
      exact absurd hm3 (by omega)
    | succ NN3 ih3 =>
      intro k AI_1 H locs ls zk hv hT hk1 fW htr hm3 hH hS hl
      refine lv_iload F.1 F.2.1 dX7_terms_3 (lv_at hl 0 rfl) ?_
      refine z_iconst F dX7_terms_5 ?_
      refine z_icmp_ge (tgt := 91) F dX7_terms_6 (by decide) zk ⟨by decide, by decide⟩ (fun c_3 => ?_) (fun c_3 => ?_)
      · exact g_vret F hr hlk hH hS hz ⟨rfl, rfl, rfl, rfl, rfl, hv, hT, fW, fun j hj => htr j (by omega)⟩ dX7_terms_91
      · refine lv_iload F.1 F.2.1 dX7_terms_9 (lv_at hl 0 rfl) ?_
        refine lv_iload_n F.1 F.2.1 dX7_terms_11 rfl (lv_at hl 4 rfl) ?_
        refine z_icmp_lt (tgt := 26) F dX7_terms_12 (by decide) zk zn (fun c_4 => ?_) (fun c_4 => ?_)
        · have q1 := hq k (by omega) (by omega) (by omega)
          refine lv_aload_n F.1 F.2.1 dX7_terms_26 rfl (lv_at hl 1 rfl) ?_
          obtain ⟨r_5a, r_5b⟩ : R mo 27 = some (gh 77 0) ∧ gAr g (gh 77 0) 9 4 := mR hv hm (q := (27, 4)) (by decide)
          refine g_getR (ci := 7) (k := 27) F hH rfl (by decide) iX7 hm (by decide) rfl (b := gh 77 0) r_5a k45 dX7_terms_27 ?_
          refine lv_iload F.1 F.2.1 dX7_terms_30 (lv_at hl 0 rfl) ?_
          refine lv_aload_n F.1 F.2.1 dX7_terms_32 rfl (lv_at hl 1 rfl) ?_
          refine lv_iload_n F.1 F.2.1 dX7_terms_33 rfl (lv_at hl 2 rfl) ?_
          refine lv_iload_n F.1 F.2.1 dX7_terms_34 rfl (lv_at hl 3 rfl) ?_
          refine lv_iload F.1 F.2.1 dX7_terms_35 (lv_at hl 0 rfl) ?_
          refine z_iadd F dX7_terms_37 ?_
          refine z_iconst F dX7_terms_38 ?_
          have b_6 := mJ hv hm
          unfold mNum1 at b_6
          refine g_calli (g_runV (As := [.int (iI rr), .int (iI (fm + k)), .int (iI 0)]) (rest := [.int (iI k), .ref (gh 77 0)]) (ci := 7) F hl.1 hH hS hz (c_X7_part l g gh T I R J AI_1 AJ AR mo rr (fm + k) 0 zrr ⟨by omega, by omega⟩ ⟨by decide, by decide⟩ hv hm hT (by omega) (by omega) (by omega)) (cwV 3 F.2.2.2.2.1 (good_up gT_X7_part) rfl rfl rfl hdX7_part ⟨Nat.le_of_ble_eq_true rfl, Nat.le_of_ble_eq_true rfl⟩) hm (by decide) rfl rfl rfl (Nat.le_of_ble_eq_true rfl) dX7_terms_39 ⟨Nat.zero_le _, Nat.zero_le _⟩) hS (fun v_13 I_7 R_8 J_9 AI_10 AJ_11 AR_12 H locs zv_13 hp_14 hH hS => ?_)
          dsimp only at hp_14
          obtain ⟨rfl, rfl, rfl, rfl, rfl, rfl, q_15⟩ := hp_14
          have hpk := tmM_at htm (k := k) (by omega) (by omega)
          refine z_if_ge (tgt := 58) F dX7_terms_42 (by decide) zv_13 (fun c_16 => ?_) (fun c_16 => ?_)
          · refine lv_aload_n F.1 F.2.1 dX7_terms_58 rfl (lv_at hl 1 rfl) ?_
            obtain ⟨r_17a, r_17b⟩ : R mo 28 = some (gh 78 0) ∧ gAr g (gh 78 0) 9 8 := mR hv hm (q := (28, 8)) (by decide)
            refine g_getR (ci := 7) (k := 28) F hH rfl (by decide) iX7 hm (by decide) rfl (b := gh 78 0) r_17a k48 dX7_terms_59 ?_
            refine lv_aload_n F.1 F.2.1 dX7_terms_62 rfl (lv_at hl 1 rfl) ?_
            refine lv_iload_n F.1 F.2.1 dX7_terms_63 rfl (lv_at hl 2 rfl) ?_
            refine lv_iload_n F.1 F.2.1 dX7_terms_64 rfl (lv_at hl 3 rfl) ?_
            refine lv_iload F.1 F.2.1 dX7_terms_65 (lv_at hl 0 rfl) ?_
            refine z_iadd F dX7_terms_67 ?_
            refine z_iconst F dX7_terms_68 ?_
            refine g_calli (g_runV (As := [.int (iI rr), .int (iI (fm + k)), .int (iI 0)]) (rest := [.ref (gh 78 0), .int (iI k), .ref (gh 77 0)]) (ci := 7) F hl.1 hH hS hz (c_X7_part l g gh T I R J AI_1 AJ AR mo rr (fm + k) 0 zrr ⟨by omega, by omega⟩ ⟨by decide, by decide⟩ hv hm hT (by omega) (by omega) (by omega)) (cwV 3 F.2.2.2.2.1 (good_up gT_X7_part) rfl rfl rfl hdX7_part ⟨Nat.le_of_ble_eq_true rfl, Nat.le_of_ble_eq_true rfl⟩) hm (by decide) rfl rfl rfl (Nat.le_of_ble_eq_true rfl) dX7_terms_69 ⟨Nat.zero_le _, Nat.zero_le _⟩) hS (fun v_24 I_18 R_19 J_20 AI_21 AJ_22 AR_23 H locs zv_24 hp_25 hH hS => ?_)
            dsimp only at hp_25
            obtain ⟨rfl, rfl, rfl, rfl, rfl, rfl, q_26⟩ := hp_25
            have hx72 : 0 ≤ v_24 ∧ v_24 < ((8 : Nat) : Int) ∧ v_24 ≤ 2147483647 := ⟨by omega, by omega, by omega⟩
            refine g_iald F hH r_17b hx72.1 hx72.2.1 hx72.2.2 dX7_terms_72 ?_
            refine z_name (fun v_27 ev_27 => ?_)
            have zv_27 : zr v_27 := by rw [ev_27]; exact zr_t _
            have hov : iI v_27 = hh (lc.2 k.toNat 0).toNat := by rw [ev_27, iI_self, ← hhh _ (by omega), fW _ (show gh 78 0 ≠ gh 77 0 from mNe hv hm (p := (28, 8)) (q := (27, 4)) (by decide) (by decide) (by decide))]; congr 1; omega
            refine lv_aload_n F.1 F.2.1 dX7_terms_73 rfl (lv_at hl 1 rfl) ?_
            refine lv_iload_n F.1 F.2.1 dX7_terms_74 rfl (lv_at hl 2 rfl) ?_
            refine lv_iload_n F.1 F.2.1 dX7_terms_75 rfl (lv_at hl 3 rfl) ?_
            refine lv_iload F.1 F.2.1 dX7_terms_76 (lv_at hl 0 rfl) ?_
            refine z_iadd F dX7_terms_78 ?_
            refine z_iconst F dX7_terms_79 ?_
            refine g_calli (g_runV (As := [.int (iI rr), .int (iI (fm + k)), .int (iI 1)]) (rest := [.int (iI v_27), .int (iI k), .ref (gh 77 0)]) (ci := 7) F hl.1 hH hS hz (c_X7_part l g gh T I R J AI_1 AJ AR mo rr (fm + k) 1 zrr ⟨by omega, by omega⟩ ⟨by decide, by decide⟩ hv hm hT (by omega) (by omega) (by omega)) (cwV 3 F.2.2.2.2.1 (good_up gT_X7_part) rfl rfl rfl hdX7_part ⟨Nat.le_of_ble_eq_true rfl, Nat.le_of_ble_eq_true rfl⟩) hm (by decide) rfl rfl rfl (Nat.le_of_ble_eq_true rfl) dX7_terms_80 ⟨Nat.zero_le _, Nat.zero_le _⟩) hS (fun v_34 I_28 R_29 J_30 AI_31 AJ_32 AR_33 H locs zv_34 hp_35 hH hS => ?_)
            dsimp only at hp_35
            obtain ⟨rfl, rfl, rfl, rfl, rfl, rfl, q_36⟩ := hp_35
            refine z_iadd F dX7_terms_83 ?_
            have hx84 : 0 ≤ k ∧ k < ((4 : Nat) : Int) ∧ k ≤ 2147483647 := ⟨by omega, by omega, by omega⟩
            refine g_iast F hH hS r_5b hx84.1 hx84.2.1 hx84.2.2 dX7_terms_84 (fun H locs hH hS => ?_)
            obtain ⟨AI_37, eAI_37⟩ : ∃ qQ, qQ = gup2 AI_1 (gh 77 0) (k).toNat (iI (v_27 + v_34)) := ⟨_, rfl⟩
            rw [← eAI_37] at hH
            have kAI_37 : ∀ b, b ≠ (gh 77 0) → AI_37 b = AI_1 b := fun b hb => by rw [eAI_37]; exact funext fun j => gup2_a _ _ hb
            have hvO := hv
            have t_38 : AI_37 (gh 50 0) = AI_1 (gh 50 0) := mK hv hm (p := (0, 640)) (q := (27, 4)) (by decide) (by decide) (by decide) kAI_37
            have hv : mInv g gh R I AI_37 := mInv_a hv hm (q := (27, 4)) (by decide) (by decide) kAI_37
            have hT : AI_37 (gh 50 0) = T := t_38.trans hT
            have htr : ∀ j : Nat, (j : Int) < k + 1 → AI_37 (gh 77 0) j = tg (trT lc hh) j := fun j hj => by
              by_cases e9 : (j : Int) = k
              · rw [eAI_37, gup2_e _ _ (by omega), trT_y (by omega) (by omega), ← iI_add, hov, show j = k.toNat by omega]; unfold trm; rw [if_neg (by omega)]; congr 2; omega
              · rw [eAI_37, gup2_k _ _ (by omega)]; exact htr j (by omega)
            have fW : ∀ b, b ≠ gh 77 0 → AI_37 b = AI b := fun b hb => (kAI_37 b hb).trans (fW b hb)
            refine z_iinc (lv' := [(4, .int (iI (k + 1))), (0, .ref mo), (1, .int (iI rr)), (2, .int (iI fm)), (3, .int (iI n))]) F dX7_terms_85 hl (k := 0) rfl (by decide) rfl (fun ls hl => ?_)
            refine z_goto (tgt := 3) F dX7_terms_88 (by decide) ?_
            exact ih3 (k + 1) AI_37 H locs ls ⟨by omega, by omega⟩ hv hT (by omega) fW htr (by omega) hH hS (lv_sub hl [0, 1, 2, 3, 4] rfl)
          · refine lv_aload_n F.1 F.2.1 dX7_terms_45 rfl (lv_at hl 1 rfl) ?_
            refine lv_iload_n F.1 F.2.1 dX7_terms_46 rfl (lv_at hl 2 rfl) ?_
            refine lv_iload_n F.1 F.2.1 dX7_terms_47 rfl (lv_at hl 3 rfl) ?_
            refine lv_iload F.1 F.2.1 dX7_terms_48 (lv_at hl 0 rfl) ?_
            refine z_iadd F dX7_terms_50 ?_
            refine z_iconst F dX7_terms_51 ?_
            refine g_calli (g_runV (As := [.int (iI rr), .int (iI (fm + k)), .int (iI 1)]) (rest := [.int (iI k), .ref (gh 77 0)]) (ci := 7) F hl.1 hH hS hz (c_X7_part l g gh T I R J AI_1 AJ AR mo rr (fm + k) 1 zrr ⟨by omega, by omega⟩ ⟨by decide, by decide⟩ hv hm hT (by omega) (by omega) (by omega)) (cwV 3 F.2.2.2.2.1 (good_up gT_X7_part) rfl rfl rfl hdX7_part ⟨Nat.le_of_ble_eq_true rfl, Nat.le_of_ble_eq_true rfl⟩) hm (by decide) rfl rfl rfl (Nat.le_of_ble_eq_true rfl) dX7_terms_52 ⟨Nat.zero_le _, Nat.zero_le _⟩) hS (fun v_45 I_39 R_40 J_41 AI_42 AJ_43 AR_44 H locs zv_45 hp_46 hH hS => ?_)
            dsimp only at hp_46
            obtain ⟨rfl, rfl, rfl, rfl, rfl, rfl, q_47⟩ := hp_46
            refine z_goto (tgt := 84) F dX7_terms_55 (by decide) ?_
            have hx84 : 0 ≤ k ∧ k < ((4 : Nat) : Int) ∧ k ≤ 2147483647 := ⟨by omega, by omega, by omega⟩
            refine g_iast F hH hS r_5b hx84.1 hx84.2.1 hx84.2.2 dX7_terms_84 (fun H locs hH hS => ?_)
            obtain ⟨AI_48, eAI_48⟩ : ∃ qQ, qQ = gup2 AI_1 (gh 77 0) (k).toNat (iI (v_45)) := ⟨_, rfl⟩
            rw [← eAI_48] at hH
            have kAI_48 : ∀ b, b ≠ (gh 77 0) → AI_48 b = AI_1 b := fun b hb => by rw [eAI_48]; exact funext fun j => gup2_a _ _ hb
            have hvO := hv
            have t_49 : AI_48 (gh 50 0) = AI_1 (gh 50 0) := mK hv hm (p := (0, 640)) (q := (27, 4)) (by decide) (by decide) (by decide) kAI_48
            have hv : mInv g gh R I AI_48 := mInv_a hv hm (q := (27, 4)) (by decide) (by decide) kAI_48
            have hT : AI_48 (gh 50 0) = T := t_49.trans hT
            have htr : ∀ j : Nat, (j : Int) < k + 1 → AI_48 (gh 77 0) j = tg (trT lc hh) j := fun j hj => by
              by_cases e9 : (j : Int) = k
              · rw [eAI_48, gup2_e _ _ (by omega), trT_y (by omega) (by omega), show j = k.toNat by omega]; unfold trm; rw [if_pos (by omega), Int32.zero_add]; congr 1; omega
              · rw [eAI_48, gup2_k _ _ (by omega)]; exact htr j (by omega)
            have fW : ∀ b, b ≠ gh 77 0 → AI_48 b = AI b := fun b hb => (kAI_48 b hb).trans (fW b hb)
            refine z_iinc (lv' := [(4, .int (iI (k + 1))), (0, .ref mo), (1, .int (iI rr)), (2, .int (iI fm)), (3, .int (iI n))]) F dX7_terms_85 hl (k := 0) rfl (by decide) rfl (fun ls hl => ?_)
            refine z_goto (tgt := 3) F dX7_terms_88 (by decide) ?_
            exact ih3 (k + 1) AI_48 H locs ls ⟨by omega, by omega⟩ hv hT (by omega) fW htr (by omega) hH hS (lv_sub hl [0, 1, 2, 3, 4] rfl)
        · refine lv_aload_n F.1 F.2.1 dX7_terms_15 rfl (lv_at hl 1 rfl) ?_
          obtain ⟨r_50a, r_50b⟩ : R mo 27 = some (gh 77 0) ∧ gAr g (gh 77 0) 9 4 := mR hv hm (q := (27, 4)) (by decide)
          refine g_getR (ci := 7) (k := 27) F hH rfl (by decide) iX7 hm (by decide) rfl (b := gh 77 0) r_50a k45 dX7_terms_16 ?_
          refine lv_iload F.1 F.2.1 dX7_terms_19 (lv_at hl 0 rfl) ?_
          refine z_iconst F dX7_terms_21 ?_
          have hx22 : 0 ≤ k ∧ k < ((4 : Nat) : Int) ∧ k ≤ 2147483647 := ⟨by omega, by omega, by omega⟩
          refine g_iast F hH hS r_50b hx22.1 hx22.2.1 hx22.2.2 dX7_terms_22 (fun H locs hH hS => ?_)
          obtain ⟨AI_51, eAI_51⟩ : ∃ qQ, qQ = gup2 AI_1 (gh 77 0) (k).toNat (iI (0)) := ⟨_, rfl⟩
          rw [← eAI_51] at hH
          have kAI_51 : ∀ b, b ≠ (gh 77 0) → AI_51 b = AI_1 b := fun b hb => by rw [eAI_51]; exact funext fun j => gup2_a _ _ hb
          have hvO := hv
          have t_52 : AI_51 (gh 50 0) = AI_1 (gh 50 0) := mK hv hm (p := (0, 640)) (q := (27, 4)) (by decide) (by decide) (by decide) kAI_51
          have hv : mInv g gh R I AI_51 := mInv_a hv hm (q := (27, 4)) (by decide) (by decide) kAI_51
          have hT : AI_51 (gh 50 0) = T := t_52.trans hT
          have htr : ∀ j : Nat, (j : Int) < k + 1 → AI_51 (gh 77 0) j = tg (trT lc hh) j := fun j hj => by
            by_cases e9 : (j : Int) = k
            · rw [eAI_51, gup2_e _ _ (by omega), trT_n (by omega) (by omega)]; rfl
            · rw [eAI_51, gup2_k _ _ (by omega)]; exact htr j (by omega)
          have fW : ∀ b, b ≠ gh 77 0 → AI_51 b = AI b := fun b hb => (kAI_51 b hb).trans (fW b hb)
          refine z_goto (tgt := 85) F dX7_terms_23 (by decide) ?_
          refine z_iinc (lv' := [(4, .int (iI (k + 1))), (0, .ref mo), (1, .int (iI rr)), (2, .int (iI fm)), (3, .int (iI n))]) F dX7_terms_85 hl (k := 0) rfl (by decide) rfl (fun ls hl => ?_)
          refine z_goto (tgt := 3) F dX7_terms_88 (by decide) ?_
          exact ih3 (k + 1) AI_51 H locs ls ⟨by omega, by omega⟩ hv hT (by omega) fW htr (by omega) hH hS (lv_sub hl [0, 1, 2, 3, 4] rfl)
  exact cut_3_1 (((4 - 0) + 1 : Int).toNat) 0 AI H locs ls ⟨by decide, by decide⟩ hv hT (by omega) (fun _ _ => rfl) (fun j hj => absurd hj (by omega)) (by omega) hH hS (lv_sub hl [0, 1, 2, 3, 4] rfl)
