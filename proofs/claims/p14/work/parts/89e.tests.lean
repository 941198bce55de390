section
def rmX7_holdsf : Room := { frames := 1, cells := 0, slots := 0, locals := 23 }
set_option maxHeartbeats 4000000 in
set_option maxRecDepth 100000 in
/-- holds -/
theorem c_X7_holdsf (l : Launch) (g : gG) (gh : gGh) (T : Nat → Int32) (lc : LC) (t : Tup) (I : gI) (R : gR) (J : gJ) (AI : gI) (AJ : gJ) (AR : gR) (mo : Nat) (rr : Int) (fm : Int) (zrr : zr rr) (zfm : zr fm) (hv : mInv g gh R I AI) (hm : gO g mo 7) (hT : AI (gh 50 0) = T) (hr0 : 0 ≤ rr ∧ rr < (I mo 2).toInt) (hk : tI T (40 * rr) = 1) (h0 : 0 ≤ fm ∧ fm + 4 ≤ 126720) (hts : tsM T rr lc) (ht : ∀ j, j < 4 → AI (gh 56 0) (fm.toNat + j) = tg t j) : gMet l g yX7_holds tsX7_holds rmX7_holdsf [.ref mo, .int (iI rr), .int (iI fm)] (I, R, J, AI, AJ, AR) (gQi g (fun (z : Int) (w : gS) => I = w.1 ∧ R = w.2.1 ∧ J = w.2.2.1 ∧ AI = w.2.2.2.1 ∧ AJ = w.2.2.2.2.1 ∧ AR = w.2.2.2.2.2 ∧ (z = 0 ∨ z = 1) ∧ (tIz z (hldP lc t)))) := by
  refine gStart (cc := cX7_holds) (maxL := 7) (ret := (some (.boolean))) (by decide) rfl (Nat.le_of_ble_eq_true rfl) ?_
  intro p e s m below meth c ls F hr hlk hH hz hS hl
  have hl : lv_has ls 7 [(0, .ref mo), (1, .int (iI rr)), (2, .int (iI fm))] := hl
  have hS : va_S (gA g) s.heap s.heap [] := hS
  obtain ⟨H, hHe⟩ : ∃ H : Heap, H = s.heap := ⟨_, rfl⟩
  obtain ⟨locs, hlo⟩ : ∃ k : List Loc, k = [] := ⟨_, rfl⟩
  have hH : gH g I R J AI AJ AR H := by rw [hHe]; exact hH
  have hS : va_S (gA g) s.heap H locs := by rw [hHe, hlo]; exact hS
  suffices hw : W p l e rmX7_holdsf s m ([.ref mo, .int (iI rr), .int (iI fm)] : List Value).toArray below meth c H locs 0 0 (MQ below (gQi g (fun (z : Int) (w : gS) => I = w.1 ∧ R = w.2.1 ∧ J = w.2.2.1 ∧ AI = w.2.2.2.1 ∧ AJ = w.2.2.2.2.1 ∧ AR = w.2.2.2.2.2 ∧ (z = 0 ∨ z = 1) ∧ (tIz z (hldP lc t)))) ([.ref mo, .int (iI rr), .int (iI fm)] : List Value).toArray s 0 0 (gA g)) (F0 m 0 ls []) by
    rw [hHe, hlo] at hw; exact hw
  clear hHe hlo
  have hb0 := mJ hv hm
  unfold mNum1 at hb0
  have x := mRow hv hm hT (z := rr) (by omega) (by omega)
  have xa := x.1
  have xc := x.2.2.1
  have xb := x.2.1 (by omega)
  have x1 := x.2.2.2.2.1 (by omega)
  have hts1 := hts.1
  have iX7 : ∀ w ∈ u_ws RX7 TX7 32, w ∈ tsX7_holds := fun w h => List.mem_cons_of_mem _ (inTB7 w h)
  have k24 : Cond.fieldLink RX7 24 (TX7 6).1 (TX7 6).2.1 (TX7 6).2.2.1 ∈ tsX7_holds := List.mem_cons_of_mem _ fl_24
  refine z_iconst F dX7_holds_0 ?_
  refine lv_istore_n (lv' := [(3, .int (iI 0)), (0, .ref mo), (1, .int (iI rr)), (2, .int (iI fm))]) F.1 F.2.1 dX7_holds_1 rfl hl (by decide) rfl (fun ls hl => ?_)
  have cut_2_0 : ∀ (NN : Nat) (k : Int) (H : Heap) (locs : List Loc) (ls : Array Slot), zr k → (0 ≤ k ∧ k ≤ tI T (40 * rr + 4)) → (∀ j : Nat, (j : Int) < k → tstP lc j t) → (8 - k) < ((NN : Nat) : Int) → gH g I R J AI AJ AR H → va_S (gA g) s.heap H locs → lv_has ls 7 [(3, .int (iI k)), (0, .ref mo), (1, .int (iI rr)), (2, .int (iI fm))] → W p l e rmX7_holdsf s m ([.ref mo, .int (iI rr), .int (iI fm)] : List Value).toArray below meth c H locs 0 0 (MQ below (gQi g (fun (z : Int) (w : gS) => I = w.1 ∧ R = w.2.1 ∧ J = w.2.2.1 ∧ AI = w.2.2.2.1 ∧ AJ = w.2.2.2.2.1 ∧ AR = w.2.2.2.2.2 ∧ (z = 0 ∨ z = 1) ∧ (tIz z (hldP lc t)))) ([.ref mo, .int (iI rr), .int (iI fm)] : List Value).toArray s 0 0 (gA g)) (F0 m 2 ls []) := by
    intro NN2
    induction NN2 with
    | zero =>
      intro k H locs ls zk hk1 hno hm2 hH hS hl
      exact absurd hm2 (by omega)
    | succ NN2 ih2 =>
      intro k H locs ls zk hk1 hno hm2 hH hS hl
      refine lv_iload_n F.1 F.2.1 dX7_holds_2 rfl (lv_at hl 0 rfl) ?_
      refine lv_aload_n F.1 F.2.1 dX7_holds_3 rfl (lv_at hl 1 rfl) ?_
      refine lv_iload_n F.1 F.2.1 dX7_holds_4 rfl (lv_at hl 2 rfl) ?_
      have b_2 := mJ hv hm
      unfold mNum1 at b_2
      refine g_calli (g_runV (As := [.int (iI rr)]) (rest := [.int (iI k)]) (ci := 7) F hl.1 hH hS hz (c_X7_partsOf l g gh T I R J AI AJ AR mo rr zrr hv hm hT (by omega)) (cwV 1 F.2.2.2.2.1 (good_up gT_X7_partsOf) rfl rfl rfl hdX7_partsOf ⟨Nat.le_of_ble_eq_true rfl, Nat.le_of_ble_eq_true rfl⟩) hm (by decide) rfl rfl rfl (Nat.le_of_ble_eq_true rfl) dX7_holds_5 ⟨Nat.zero_le _, Nat.zero_le _⟩) hS (fun v_9 I_3 R_4 J_5 AI_6 AJ_7 AR_8 H locs zv_9 hp_10 hH hS => ?_)
      dsimp only at hp_10
      obtain ⟨rfl, rfl, rfl, rfl, rfl, rfl, q_11⟩ := hp_10
      refine z_icmp_ge (tgt := 119) F dX7_holds_8 (by decide) zk zv_9 (fun c_12 => ?_) (fun c_12 => ?_)
      · refine z_iconst F dX7_holds_119 ?_
        exact g_zret F hr hlk hH hS hz (by omega) ⟨rfl, rfl, rfl, rfl, rfl, rfl, by first | omega | rfl | (dsimp only; omega), tIz_t (fun j hj => hno j (by omega))⟩ dX7_holds_120
      · have q1 := x1 k (by omega) (by omega)
        refine lv_aload_n F.1 F.2.1 dX7_holds_11 rfl (lv_at hl 1 rfl) ?_
        obtain ⟨r_13a, r_13b⟩ : R mo 6 = some (gh 56 0) ∧ gAr g (gh 56 0) 9 126720 := mR hv hm (q := (6, 126720)) (by decide)
        refine g_getR (ci := 7) (k := 6) F hH rfl (by decide) iX7 hm (by decide) rfl (b := gh 56 0) r_13a k24 dX7_holds_12 ?_
        refine lv_iload_n F.1 F.2.1 dX7_holds_15 rfl (lv_at hl 3 rfl) ?_
        refine lv_aload_n F.1 F.2.1 dX7_holds_16 rfl (lv_at hl 1 rfl) ?_
        refine lv_iload_n F.1 F.2.1 dX7_holds_17 rfl (lv_at hl 2 rfl) ?_
        refine lv_iload_n F.1 F.2.1 dX7_holds_18 rfl (lv_at hl 0 rfl) ?_
        refine z_iconst F dX7_holds_19 ?_
        refine g_calli (g_runV (As := [.int (iI rr), .int (iI k), .int (iI 0)]) (rest := [.int (iI fm), .ref (gh 56 0)]) (ci := 7) F hl.1 hH hS hz (c_X7_part l g gh T I R J AI AJ AR mo rr k 0 zrr zk ⟨by decide, by decide⟩ hv hm hT (by omega) (by omega) (by omega)) (cwV 3 F.2.2.2.2.1 (good_up gT_X7_part) rfl rfl rfl hdX7_part ⟨Nat.le_of_ble_eq_true rfl, Nat.le_of_ble_eq_true rfl⟩) hm (by decide) rfl rfl rfl (Nat.le_of_ble_eq_true rfl) dX7_holds_20 ⟨Nat.zero_le _, Nat.zero_le _⟩) hS (fun v_20 I_14 R_15 J_16 AI_17 AJ_18 AR_19 H locs zv_20 hp_21 hH hS => ?_)
        dsimp only at hp_21
        obtain ⟨rfl, rfl, rfl, rfl, rfl, rfl, q_22⟩ := hp_21
        have hpk := tsM_at hts (k := k) (by omega) (by omega)
        refine z_iadd F dX7_holds_23 ?_
        have hx24 : 0 ≤ (fm + v_20) ∧ (fm + v_20) < ((126720 : Nat) : Int) ∧ (fm + v_20) ≤ 2147483647 := ⟨by omega, by omega, by omega⟩
        refine g_iald F hH r_13b hx24.1 hx24.2.1 hx24.2.2 dX7_holds_24 ?_
        refine z_name (fun v_23 ev_23 => ?_)
        have zv_23 : zr v_23 := by rw [ev_23]; exact zr_t _
        have hcv : v_23 = tu t (lc.2 k.toNat 0).toNat := by unfold tu; rw [← ht _ (by omega), ev_23]; congr 2; omega
        refine lv_istore (lv' := [(4, .int (iI v_23)), (3, .int (iI k)), (0, .ref mo), (1, .int (iI rr)), (2, .int (iI fm))]) F.1 F.2.1 dX7_holds_25 hl (by decide) rfl (fun ls hl => ?_)
        refine lv_aload_n F.1 F.2.1 dX7_holds_27 rfl (lv_at hl 2 rfl) ?_
        refine lv_iload_n F.1 F.2.1 dX7_holds_28 rfl (lv_at hl 3 rfl) ?_
        refine lv_iload_n F.1 F.2.1 dX7_holds_29 rfl (lv_at hl 1 rfl) ?_
        refine z_iconst F dX7_holds_30 ?_
        refine g_calli (g_runV (As := [.int (iI rr), .int (iI k), .int (iI 2)]) (rest := []) (ci := 7) F hl.1 hH hS hz (c_X7_part l g gh T I R J AI AJ AR mo rr k 2 zrr zk ⟨by decide, by decide⟩ hv hm hT (by omega) (by omega) (by omega)) (cwV 3 F.2.2.2.2.1 (good_up gT_X7_part) rfl rfl rfl hdX7_part ⟨Nat.le_of_ble_eq_true rfl, Nat.le_of_ble_eq_true rfl⟩) hm (by decide) rfl rfl rfl (Nat.le_of_ble_eq_true rfl) dX7_holds_31 ⟨Nat.zero_le _, Nat.zero_le _⟩) hS (fun v_30 I_24 R_25 J_26 AI_27 AJ_28 AR_29 H locs zv_30 hp_31 hH hS => ?_)
        dsimp only at hp_31
        obtain ⟨rfl, rfl, rfl, rfl, rfl, rfl, q_32⟩ := hp_31
        refine z_iconst F dX7_holds_34 ?_
        refine z_icmp_ne (tgt := 55) F dX7_holds_35 (by decide) zv_30 ⟨by decide, by decide⟩ (fun c_33 => ?_) (fun c_33 => ?_)
        · refine lv_aload_n F.1 F.2.1 dX7_holds_55 rfl (lv_at hl 2 rfl) ?_
          refine lv_iload_n F.1 F.2.1 dX7_holds_56 rfl (lv_at hl 3 rfl) ?_
          refine lv_iload_n F.1 F.2.1 dX7_holds_57 rfl (lv_at hl 1 rfl) ?_
          refine z_iconst F dX7_holds_58 ?_
          refine g_calli (g_runV (As := [.int (iI rr), .int (iI k), .int (iI 3)]) (rest := []) (ci := 7) F hl.1 hH hS hz (c_X7_part l g gh T I R J AI AJ AR mo rr k 3 zrr zk ⟨by decide, by decide⟩ hv hm hT (by omega) (by omega) (by omega)) (cwV 3 F.2.2.2.2.1 (good_up gT_X7_part) rfl rfl rfl hdX7_part ⟨Nat.le_of_ble_eq_true rfl, Nat.le_of_ble_eq_true rfl⟩) hm (by decide) rfl rfl rfl (Nat.le_of_ble_eq_true rfl) dX7_holds_59 ⟨Nat.zero_le _, Nat.zero_le _⟩) hS (fun v_40 I_34 R_35 J_36 AI_37 AJ_38 AR_39 H locs zv_40 hp_41 hH hS => ?_)
          dsimp only at hp_41
          obtain ⟨rfl, rfl, rfl, rfl, rfl, rfl, q_42⟩ := hp_41
          have hcw : v_40 = (if lc.2 k.toNat 2 = -1 then lc.2 k.toNat 3 else tu t (lc.2 k.toNat 2).toNat) := by rw [if_pos (by omega)]; omega
          refine lv_istore (lv' := [(5, .int (iI v_40)), (4, .int (iI v_23)), (3, .int (iI k)), (0, .ref mo), (1, .int (iI rr)), (2, .int (iI fm))]) F.1 F.2.1 dX7_holds_62 hl (by decide) rfl (fun ls hl => ?_)
          refine lv_aload_n F.1 F.2.1 dX7_holds_64 rfl (lv_at hl 3 rfl) ?_
          refine lv_iload_n F.1 F.2.1 dX7_holds_65 rfl (lv_at hl 4 rfl) ?_
          refine lv_iload_n F.1 F.2.1 dX7_holds_66 rfl (lv_at hl 2 rfl) ?_
          refine z_iconst F dX7_holds_67 ?_
          refine g_calli (g_runV (As := [.int (iI rr), .int (iI k), .int (iI 1)]) (rest := []) (ci := 7) F hl.1 hH hS hz (c_X7_part l g gh T I R J AI AJ AR mo rr k 1 zrr zk ⟨by decide, by decide⟩ hv hm hT (by omega) (by omega) (by omega)) (cwV 3 F.2.2.2.2.1 (good_up gT_X7_part) rfl rfl rfl hdX7_part ⟨Nat.le_of_ble_eq_true rfl, Nat.le_of_ble_eq_true rfl⟩) hm (by decide) rfl rfl rfl (Nat.le_of_ble_eq_true rfl) dX7_holds_68 ⟨Nat.zero_le _, Nat.zero_le _⟩) hS (fun v_49 I_43 R_44 J_45 AI_46 AJ_47 AR_48 H locs zv_49 hp_50 hH hS => ?_)
          dsimp only at hp_50
          obtain ⟨rfl, rfl, rfl, rfl, rfl, rfl, q_51⟩ := hp_50
          have htst : tstP lc k.toNat t ↔ tst3 v_23 (lc.2 k.toNat 1) v_40 := by unfold tstP; rw [hcv, hcw]
          clear hcw
          refine lv_istore (lv' := [(6, .int (iI v_49)), (5, .int (iI v_40)), (4, .int (iI v_23)), (3, .int (iI k)), (0, .ref mo), (1, .int (iI rr)), (2, .int (iI fm))]) F.1 F.2.1 dX7_holds_71 hl (by decide) rfl (fun ls hl => ?_)
          refine lv_iload F.1 F.2.1 dX7_holds_73 (lv_at hl 0 rfl) ?_
          refine z_if_ne (tgt := 88) F dX7_holds_75 (by decide) zv_49 (fun c_52 => ?_) (fun c_52 => ?_)
          · refine lv_iload F.1 F.2.1 dX7_holds_88 (lv_at hl 0 rfl) ?_
            refine z_iconst F dX7_holds_90 ?_
            refine z_icmp_ne (tgt := 104) F dX7_holds_91 (by decide) zv_49 ⟨by decide, by decide⟩ (fun c_53 => ?_) (fun c_53 => ?_)
            · refine lv_iload F.1 F.2.1 dX7_holds_104 (lv_at hl 2 rfl) ?_
              refine lv_iload F.1 F.2.1 dX7_holds_106 (lv_at hl 1 rfl) ?_
              refine z_icmp_gt (tgt := 113) F dX7_holds_108 (by decide) zv_23 zv_40 (fun c_54 => ?_) (fun c_54 => ?_)
              · refine z_iinc (lv' := [(3, .int (iI (k + 1))), (6, .int (iI v_49)), (5, .int (iI v_40)), (4, .int (iI v_23)), (0, .ref mo), (1, .int (iI rr)), (2, .int (iI fm))]) F dX7_holds_113 hl (k := 3) rfl (by decide) rfl (fun ls hl => ?_)
                refine z_goto (tgt := 2) F dX7_holds_116 (by decide) ?_
                exact ih2 (k + 1) H locs ls ⟨by omega, by omega⟩ (by omega) (ix_step (P := fun j => tstP lc j t) hno (by omega) (htst.mpr (tst3_y (fun _ => by omega) (fun _ => by omega) (fun _ _ => by omega)))) (by omega) hH hS (lv_sub hl [0, 4, 5, 6] rfl)
              · refine z_iconst F dX7_holds_111 ?_
                exact g_zret F hr hlk hH hS hz (by omega) ⟨rfl, rfl, rfl, rfl, rfl, rfl, by first | omega | rfl | (dsimp only; omega), tIz_f (fun h9 => by have h8 := htst.mp (h9 k.toNat (by omega)); have h7 := tst3_e h8; omega)⟩ dX7_holds_112
            · refine lv_iload F.1 F.2.1 dX7_holds_94 (lv_at hl 2 rfl) ?_
              refine lv_iload F.1 F.2.1 dX7_holds_96 (lv_at hl 1 rfl) ?_
              refine z_icmp_lt (tgt := 113) F dX7_holds_98 (by decide) zv_23 zv_40 (fun c_55 => ?_) (fun c_55 => ?_)
              · refine z_iinc (lv' := [(3, .int (iI (k + 1))), (6, .int (iI v_49)), (5, .int (iI v_40)), (4, .int (iI v_23)), (0, .ref mo), (1, .int (iI rr)), (2, .int (iI fm))]) F dX7_holds_113 hl (k := 3) rfl (by decide) rfl (fun ls hl => ?_)
                refine z_goto (tgt := 2) F dX7_holds_116 (by decide) ?_
                exact ih2 (k + 1) H locs ls ⟨by omega, by omega⟩ (by omega) (ix_step (P := fun j => tstP lc j t) hno (by omega) (htst.mpr (tst3_y (fun _ => by omega) (fun _ => by omega) (fun _ _ => by omega)))) (by omega) hH hS (lv_sub hl [0, 4, 5, 6] rfl)
              · refine z_goto (tgt := 111) F dX7_holds_101 (by decide) ?_
                refine z_iconst F dX7_holds_111 ?_
                exact g_zret F hr hlk hH hS hz (by omega) ⟨rfl, rfl, rfl, rfl, rfl, rfl, by first | omega | rfl | (dsimp only; omega), tIz_f (fun h9 => by have h8 := htst.mp (h9 k.toNat (by omega)); have h7 := tst3_e h8; omega)⟩ dX7_holds_112
          · refine lv_iload F.1 F.2.1 dX7_holds_78 (lv_at hl 2 rfl) ?_
            refine lv_iload F.1 F.2.1 dX7_holds_80 (lv_at hl 1 rfl) ?_
            refine z_icmp_eq (tgt := 113) F dX7_holds_82 (by decide) zv_23 zv_40 (fun c_56 => ?_) (fun c_56 => ?_)
            · refine z_iinc (lv' := [(3, .int (iI (k + 1))), (6, .int (iI v_49)), (5, .int (iI v_40)), (4, .int (iI v_23)), (0, .ref mo), (1, .int (iI rr)), (2, .int (iI fm))]) F dX7_holds_113 hl (k := 3) rfl (by decide) rfl (fun ls hl => ?_)
              refine z_goto (tgt := 2) F dX7_holds_116 (by decide) ?_
              exact ih2 (k + 1) H locs ls ⟨by omega, by omega⟩ (by omega) (ix_step (P := fun j => tstP lc j t) hno (by omega) (htst.mpr (tst3_y (fun _ => by omega) (fun _ => by omega) (fun _ _ => by omega)))) (by omega) hH hS (lv_sub hl [0, 4, 5, 6] rfl)
            · refine z_goto (tgt := 111) F dX7_holds_85 (by decide) ?_
              refine z_iconst F dX7_holds_111 ?_
              exact g_zret F hr hlk hH hS hz (by omega) ⟨rfl, rfl, rfl, rfl, rfl, rfl, by first | omega | rfl | (dsimp only; omega), tIz_f (fun h9 => by have h8 := htst.mp (h9 k.toNat (by omega)); have h7 := tst3_e h8; omega)⟩ dX7_holds_112
        · refine lv_aload_n F.1 F.2.1 dX7_holds_38 rfl (lv_at hl 2 rfl) ?_
          refine g_getR (ci := 7) (k := 6) F hH rfl (by decide) iX7 hm (by decide) rfl (b := gh 56 0) r_13a k24 dX7_holds_39 ?_
          refine lv_iload_n F.1 F.2.1 dX7_holds_42 rfl (lv_at hl 4 rfl) ?_
          refine lv_aload_n F.1 F.2.1 dX7_holds_43 rfl (lv_at hl 2 rfl) ?_
          refine lv_iload_n F.1 F.2.1 dX7_holds_44 rfl (lv_at hl 3 rfl) ?_
          refine lv_iload_n F.1 F.2.1 dX7_holds_45 rfl (lv_at hl 1 rfl) ?_
          refine z_iconst F dX7_holds_46 ?_
          refine g_calli (g_runV (As := [.int (iI rr), .int (iI k), .int (iI 3)]) (rest := [.int (iI fm), .ref (gh 56 0)]) (ci := 7) F hl.1 hH hS hz (c_X7_part l g gh T I R J AI AJ AR mo rr k 3 zrr zk ⟨by decide, by decide⟩ hv hm hT (by omega) (by omega) (by omega)) (cwV 3 F.2.2.2.2.1 (good_up gT_X7_part) rfl rfl rfl hdX7_part ⟨Nat.le_of_ble_eq_true rfl, Nat.le_of_ble_eq_true rfl⟩) hm (by decide) rfl rfl rfl (Nat.le_of_ble_eq_true rfl) dX7_holds_47 ⟨Nat.zero_le _, Nat.zero_le _⟩) hS (fun v_63 I_57 R_58 J_59 AI_60 AJ_61 AR_62 H locs zv_63 hp_64 hH hS => ?_)
          dsimp only at hp_64
          obtain ⟨rfl, rfl, rfl, rfl, rfl, rfl, q_65⟩ := hp_64
          refine z_iadd F dX7_holds_50 ?_
          have hx51 : 0 ≤ (fm + v_63) ∧ (fm + v_63) < ((126720 : Nat) : Int) ∧ (fm + v_63) ≤ 2147483647 := ⟨by omega, by omega, by omega⟩
          refine g_iald F hH r_13b hx51.1 hx51.2.1 hx51.2.2 dX7_holds_51 ?_
          refine z_name (fun v_66 ev_66 => ?_)
          have zv_66 : zr v_66 := by rw [ev_66]; exact zr_t _
          have hcw : v_66 = (if lc.2 k.toNat 2 = -1 then lc.2 k.toNat 3 else tu t (lc.2 k.toNat 2).toNat) := by rw [if_neg (by omega)]; unfold tu; rw [← ht _ (by omega), ev_66]; congr 2; omega
          refine z_goto (tgt := 62) F dX7_holds_52 (by decide) ?_
          refine lv_istore (lv' := [(5, .int (iI v_66)), (4, .int (iI v_23)), (3, .int (iI k)), (0, .ref mo), (1, .int (iI rr)), (2, .int (iI fm))]) F.1 F.2.1 dX7_holds_62 hl (by decide) rfl (fun ls hl => ?_)
          refine lv_aload_n F.1 F.2.1 dX7_holds_64 rfl (lv_at hl 3 rfl) ?_
          refine lv_iload_n F.1 F.2.1 dX7_holds_65 rfl (lv_at hl 4 rfl) ?_
          refine lv_iload_n F.1 F.2.1 dX7_holds_66 rfl (lv_at hl 2 rfl) ?_
          refine z_iconst F dX7_holds_67 ?_
          refine g_calli (g_runV (As := [.int (iI rr), .int (iI k), .int (iI 1)]) (rest := []) (ci := 7) F hl.1 hH hS hz (c_X7_part l g gh T I R J AI AJ AR mo rr k 1 zrr zk ⟨by decide, by decide⟩ hv hm hT (by omega) (by omega) (by omega)) (cwV 3 F.2.2.2.2.1 (good_up gT_X7_part) rfl rfl rfl hdX7_part ⟨Nat.le_of_ble_eq_true rfl, Nat.le_of_ble_eq_true rfl⟩) hm (by decide) rfl rfl rfl (Nat.le_of_ble_eq_true rfl) dX7_holds_68 ⟨Nat.zero_le _, Nat.zero_le _⟩) hS (fun v_73 I_67 R_68 J_69 AI_70 AJ_71 AR_72 H locs zv_73 hp_74 hH hS => ?_)
          dsimp only at hp_74
          obtain ⟨rfl, rfl, rfl, rfl, rfl, rfl, q_75⟩ := hp_74
          have htst : tstP lc k.toNat t ↔ tst3 v_23 (lc.2 k.toNat 1) v_66 := by unfold tstP; rw [hcv, hcw]
          clear hcw
          refine lv_istore (lv' := [(6, .int (iI v_73)), (5, .int (iI v_66)), (4, .int (iI v_23)), (3, .int (iI k)), (0, .ref mo), (1, .int (iI rr)), (2, .int (iI fm))]) F.1 F.2.1 dX7_holds_71 hl (by decide) rfl (fun ls hl => ?_)
          refine lv_iload F.1 F.2.1 dX7_holds_73 (lv_at hl 0 rfl) ?_
          refine z_if_ne (tgt := 88) F dX7_holds_75 (by decide) zv_73 (fun c_76 => ?_) (fun c_76 => ?_)
          · refine lv_iload F.1 F.2.1 dX7_holds_88 (lv_at hl 0 rfl) ?_
            refine z_iconst F dX7_holds_90 ?_
            refine z_icmp_ne (tgt := 104) F dX7_holds_91 (by decide) zv_73 ⟨by decide, by decide⟩ (fun c_77 => ?_) (fun c_77 => ?_)
            · refine lv_iload F.1 F.2.1 dX7_holds_104 (lv_at hl 2 rfl) ?_
              refine lv_iload F.1 F.2.1 dX7_holds_106 (lv_at hl 1 rfl) ?_
              refine z_icmp_gt (tgt := 113) F dX7_holds_108 (by decide) zv_23 zv_66 (fun c_78 => ?_) (fun c_78 => ?_)
              · refine z_iinc (lv' := [(3, .int (iI (k + 1))), (6, .int (iI v_73)), (5, .int (iI v_66)), (4, .int (iI v_23)), (0, .ref mo), (1, .int (iI rr)), (2, .int (iI fm))]) F dX7_holds_113 hl (k := 3) rfl (by decide) rfl (fun ls hl => ?_)
                refine z_goto (tgt := 2) F dX7_holds_116 (by decide) ?_
                exact ih2 (k + 1) H locs ls ⟨by omega, by omega⟩ (by omega) (ix_step (P := fun j => tstP lc j t) hno (by omega) (htst.mpr (tst3_y (fun _ => by omega) (fun _ => by omega) (fun _ _ => by omega)))) (by omega) hH hS (lv_sub hl [0, 4, 5, 6] rfl)
              · refine z_iconst F dX7_holds_111 ?_
                exact g_zret F hr hlk hH hS hz (by omega) ⟨rfl, rfl, rfl, rfl, rfl, rfl, by first | omega | rfl | (dsimp only; omega), tIz_f (fun h9 => by have h8 := htst.mp (h9 k.toNat (by omega)); have h7 := tst3_e h8; omega)⟩ dX7_holds_112
            · refine lv_iload F.1 F.2.1 dX7_holds_94 (lv_at hl 2 rfl) ?_
              refine lv_iload F.1 F.2.1 dX7_holds_96 (lv_at hl 1 rfl) ?_
              refine z_icmp_lt (tgt := 113) F dX7_holds_98 (by decide) zv_23 zv_66 (fun c_79 => ?_) (fun c_79 => ?_)
              · refine z_iinc (lv' := [(3, .int (iI (k + 1))), (6, .int (iI v_73)), (5, .int (iI v_66)), (4, .int (iI v_23)), (0, .ref mo), (1, .int (iI rr)), (2, .int (iI fm))]) F dX7_holds_113 hl (k := 3) rfl (by decide) rfl (fun ls hl => ?_)
                refine z_goto (tgt := 2) F dX7_holds_116 (by decide) ?_
                exact ih2 (k + 1) H locs ls ⟨by omega, by omega⟩ (by omega) (ix_step (P := fun j => tstP lc j t) hno (by omega) (htst.mpr (tst3_y (fun _ => by omega) (fun _ => by omega) (fun _ _ => by omega)))) (by omega) hH hS (lv_sub hl [0, 4, 5, 6] rfl)
              · refine z_goto (tgt := 111) F dX7_holds_101 (by decide) ?_
                refine z_iconst F dX7_holds_111 ?_
                exact g_zret F hr hlk hH hS hz (by omega) ⟨rfl, rfl, rfl, rfl, rfl, rfl, by first | omega | rfl | (dsimp only; omega), tIz_f (fun h9 => by have h8 := htst.mp (h9 k.toNat (by omega)); have h7 := tst3_e h8; omega)⟩ dX7_holds_112
          · refine lv_iload F.1 F.2.1 dX7_holds_78 (lv_at hl 2 rfl) ?_
            refine lv_iload F.1 F.2.1 dX7_holds_80 (lv_at hl 1 rfl) ?_
            refine z_icmp_eq (tgt := 113) F dX7_holds_82 (by decide) zv_23 zv_66 (fun c_80 => ?_) (fun c_80 => ?_)
            · refine z_iinc (lv' := [(3, .int (iI (k + 1))), (6, .int (iI v_73)), (5, .int (iI v_66)), (4, .int (iI v_23)), (0, .ref mo), (1, .int (iI rr)), (2, .int (iI fm))]) F dX7_holds_113 hl (k := 3) rfl (by decide) rfl (fun ls hl => ?_)
              refine z_goto (tgt := 2) F dX7_holds_116 (by decide) ?_
              exact ih2 (k + 1) H locs ls ⟨by omega, by omega⟩ (by omega) (ix_step (P := fun j => tstP lc j t) hno (by omega) (htst.mpr (tst3_y (fun _ => by omega) (fun _ => by omega) (fun _ _ => by omega)))) (by omega) hH hS (lv_sub hl [0, 4, 5, 6] rfl)
            · refine z_goto (tgt := 111) F dX7_holds_85 (by decide) ?_
              refine z_iconst F dX7_holds_111 ?_
              exact g_zret F hr hlk hH hS hz (by omega) ⟨rfl, rfl, rfl, rfl, rfl, rfl, by first | omega | rfl | (dsimp only; omega), tIz_f (fun h9 => by have h8 := htst.mp (h9 k.toNat (by omega)); have h7 := tst3_e h8; omega)⟩ dX7_holds_112
  exact cut_2_0 (((8 - 0) + 1 : Int).toNat) 0 H locs ls ⟨by decide, by decide⟩ (by omega) (fun j hj => absurd hj (by omega)) (by omega) hH hS (lv_sub hl [0, 1, 2, 3] rfl)

def rmX7_termsf : Room := { frames := 1, cells := 0, slots := 0, locals := 23 }
set_option maxHeartbeats 4000000 in
set_option maxRecDepth 100000 in
/-- terms -/
theorem c_X7_termsf (l : Launch) (g : gG) (gh : gGh) (T : Nat → Int32) (lc : LC) (hh : Nat → Int32) (I : gI) (R : gR) (J : gJ) (AI : gI) (AJ : gJ) (AR : gR) (mo : Nat) (rr : Int) (fm : Int) (n : Int) (zrr : zr rr) (zfm : zr fm) (zn : zr n) (hv : mInv g gh R I AI) (hm : gO g mo 7) (hT : AI (gh 50 0) = T) (hr0 : 0 ≤ rr ∧ rr ≤ 15) (h0 : 0 ≤ fm ∧ fm ≤ 1) (hq : ∀ k : Int, 0 ≤ k → k < 4 → k < n → mP T rr (fm + k) 0 ≤ 3) (htm : tmM T rr fm lc) (hlc4 : n = lc.1 4) (hhh : ∀ j : Nat, j < 8 → AI (gh 78 0) j = hh j) : gMet l g yX7_terms tsX7_terms rmX7_termsf [.ref mo, .int (iI rr), .int (iI fm), .int (iI n)] (I, R, J, AI, AJ, AR) (gQv g (fun w : gS => I = w.1 ∧ R = w.2.1 ∧ J = w.2.2.1 ∧ AJ = w.2.2.2.2.1 ∧ AR = w.2.2.2.2.2 ∧ (mInv g gh R I (w.2.2.2.1)) ∧ ((w.2.2.2.1) (gh 50 0) = T) ∧ (∀ b, b ≠ gh 77 0 → (w.2.2.2.1) b = AI b) ∧ (∀ j, j < 4 → (w.2.2.2.1) (gh 77 0) j = tg (trT lc hh) j))) := by
  refine gStart (cc := cX7_terms) (maxL := 5) (ret := none) (by decide) rfl (Nat.le_of_ble_eq_true rfl) ?_
  intro p e s m below meth c ls F hr hlk hH hz hS hl
  have hl : lv_has ls 5 [(0, .ref mo), (1, .int (iI rr)), (2, .int (iI fm)), (3, .int (iI n))] := hl
  have hS : va_S (gA g) s.heap s.heap [] := hS
  obtain ⟨H, hHe⟩ : ∃ H : Heap, H = s.heap := ⟨_, rfl⟩
  obtain ⟨locs, hlo⟩ : ∃ k : List Loc, k = [] := ⟨_, rfl⟩
  have hH : gH g I R J AI AJ AR H := by rw [hHe]; exact hH
  have hS : va_S (gA g) s.heap H locs := by rw [hHe, hlo]; exact hS
  suffices hw : W p l e rmX7_termsf s m ([.ref mo, .int (iI rr), .int (iI fm), .int (iI n)] : List Value).toArray below meth c H locs 0 0 (MQ below (gQv g (fun w : gS => I = w.1 ∧ R = w.2.1 ∧ J = w.2.2.1 ∧ AJ = w.2.2.2.2.1 ∧ AR = w.2.2.2.2.2 ∧ (mInv g gh R I (w.2.2.2.1)) ∧ ((w.2.2.2.1) (gh 50 0) = T) ∧ (∀ b, b ≠ gh 77 0 → (w.2.2.2.1) b = AI b) ∧ (∀ j, j < 4 → (w.2.2.2.1) (gh 77 0) j = tg (trT lc hh) j))) ([.ref mo, .int (iI rr), .int (iI fm), .int (iI n)] : List Value).toArray s 0 0 (gA g)) (F0 m 0 ls []) by
    rw [hHe, hlo] at hw; exact hw
  clear hHe hlo
  have iX7 : ∀ w ∈ u_ws RX7 TX7 32, w ∈ tsX7_terms := fun w h => List.mem_cons_of_mem _ (inTB7 w h)
  have k45 : Cond.fieldLink RX7 45 (TX7 27).1 (TX7 27).2.1 (TX7 27).2.2.1 ∈ tsX7_terms := List.mem_cons_of_mem _ fl_45
  have k48 : Cond.fieldLink RX7 48 (TX7 28).1 (TX7 28).2.1 (TX7 28).2.2.1 ∈ tsX7_terms := List.mem_cons_of_mem _ fl_48
  refine z_iconst F dX7_terms_0 ?_
  refine lv_istore (lv' := [(4, .int (iI 0)), (0, .ref mo), (1, .int (iI rr)), (2, .int (iI fm)), (3, .int (iI n))]) F.1 F.2.1 dX7_terms_1 hl (by decide) rfl (fun ls hl => ?_)
  have cut_3_1 : ∀ (NN : Nat) (k : Int) (AI_1 : gI) (H : Heap) (locs : List Loc) (ls : Array Slot), zr k → (mInv g gh R I AI_1) → (AI_1 (gh 50 0) = T) → (0 ≤ k ∧ k ≤ 4) → (∀ b, b ≠ gh 77 0 → AI_1 b = AI b) → (∀ j : Nat, (j : Int) < k → AI_1 (gh 77 0) j = tg (trT lc hh) j) → (4 - k) < ((NN : Nat) : Int) → gH g I R J AI_1 AJ AR H → va_S (gA g) s.heap H locs → lv_has ls 5 [(4, .int (iI k)), (0, .ref mo), (1, .int (iI rr)), (2, .int (iI fm)), (3, .int (iI n))] → W p l e rmX7_termsf s m ([.ref mo, .int (iI rr), .int (iI fm), .int (iI n)] : List Value).toArray below meth c H locs 0 0 (MQ below (gQv g (fun w : gS => I = w.1 ∧ R = w.2.1 ∧ J = w.2.2.1 ∧ AJ = w.2.2.2.2.1 ∧ AR = w.2.2.2.2.2 ∧ (mInv g gh R I (w.2.2.2.1)) ∧ ((w.2.2.2.1) (gh 50 0) = T) ∧ (∀ b, b ≠ gh 77 0 → (w.2.2.2.1) b = AI b) ∧ (∀ j, j < 4 → (w.2.2.2.1) (gh 77 0) j = tg (trT lc hh) j))) ([.ref mo, .int (iI rr), .int (iI fm), .int (iI n)] : List Value).toArray s 0 0 (gA g)) (F0 m 3 ls []) := by
    intro NN3
    induction NN3 with
    | zero =>
      intro k AI_1 H locs ls zk hv hT hk1 fW htr hm3 hH hS hl
      exact absurd hm3 (by omega)
    | succ NN3 ih3 =>
      intro k AI_1 H locs ls zk hv hT hk1 fW htr hm3 hH hS hl
      refine lv_iload F.1 F.2.1 dX7_terms_3 (lv_at hl 0 rfl) ?_
      refine z_iconst F dX7_terms_5 ?_
      refine z_icmp_ge (tgt := 91) F dX7_terms_6 (by decide) zk ⟨by decide, by decide⟩ (fun c_3 => ?_) (fun c_3 => ?_)
      · exact g_vret F hr hlk hH hS hz ⟨rfl, rfl, rfl, rfl, rfl, hv, hT, fW, fun j hj => htr j (by omega)⟩ dX7_terms_91
      · refine lv_iload F.1 F.2.1 dX7_terms_9 (lv_at hl 0 rfl) ?_
        refine lv_iload_n F.1 F.2.1 dX7_terms_11 rfl (lv_at hl 4 rfl) ?_
        refine z_icmp_lt (tgt := 26) F dX7_terms_12 (by decide) zk zn (fun c_4 => ?_) (fun c_4 => ?_)
        · have q1 := hq k (by omega) (by omega) (by omega)
          refine lv_aload_n F.1 F.2.1 dX7_terms_26 rfl (lv_at hl 1 rfl) ?_
          obtain ⟨r_5a, r_5b⟩ : R mo 27 = some (gh 77 0) ∧ gAr g (gh 77 0) 9 4 := mR hv hm (q := (27, 4)) (by decide)
          refine g_getR (ci := 7) (k := 27) F hH rfl (by decide) iX7 hm (by decide) rfl (b := gh 77 0) r_5a k45 dX7_terms_27 ?_
          refine lv_iload F.1 F.2.1 dX7_terms_30 (lv_at hl 0 rfl) ?_
          refine lv_aload_n F.1 F.2.1 dX7_terms_32 rfl (lv_at hl 1 rfl) ?_
          refine lv_iload_n F.1 F.2.1 dX7_terms_33 rfl (lv_at hl 2 rfl) ?_
          refine lv_iload_n F.1 F.2.1 dX7_terms_34 rfl (lv_at hl 3 rfl) ?_
          refine lv_iload F.1 F.2.1 dX7_terms_35 (lv_at hl 0 rfl) ?_
          refine z_iadd F dX7_terms_37 ?_
          refine z_iconst F dX7_terms_38 ?_
          have b_6 := mJ hv hm
          unfold mNum1 at b_6
          refine g_calli (g_runV (As := [.int (iI rr), .int (iI (fm + k)), .int (iI 0)]) (rest := [.int (iI k), .ref (gh 77 0)]) (ci := 7) F hl.1 hH hS hz (c_X7_part l g gh T I R J AI_1 AJ AR mo rr (fm + k) 0 zrr ⟨by omega, by omega⟩ ⟨by decide, by decide⟩ hv hm hT (by omega) (by omega) (by omega)) (cwV 3 F.2.2.2.2.1 (good_up gT_X7_part) rfl rfl rfl hdX7_part ⟨Nat.le_of_ble_eq_true rfl, Nat.le_of_ble_eq_true rfl⟩) hm (by decide) rfl rfl rfl (Nat.le_of_ble_eq_true rfl) dX7_terms_39 ⟨Nat.zero_le _, Nat.zero_le _⟩) hS (fun v_13 I_7 R_8 J_9 AI_10 AJ_11 AR_12 H locs zv_13 hp_14 hH hS => ?_)
          dsimp only at hp_14
          obtain ⟨rfl, rfl, rfl, rfl, rfl, rfl, q_15⟩ := hp_14
          have hpk := tmM_at htm (k := k) (by omega) (by omega)
          refine z_if_ge (tgt := 58) F dX7_terms_42 (by decide) zv_13 (fun c_16 => ?_) (fun c_16 => ?_)
          · refine lv_aload_n F.1 F.2.1 dX7_terms_58 rfl (lv_at hl 1 rfl) ?_
            obtain ⟨r_17a, r_17b⟩ : R mo 28 = some (gh 78 0) ∧ gAr g (gh 78 0) 9 8 := mR hv hm (q := (28, 8)) (by decide)
            refine g_getR (ci := 7) (k := 28) F hH rfl (by decide) iX7 hm (by decide) rfl (b := gh 78 0) r_17a k48 dX7_terms_59 ?_
            refine lv_aload_n F.1 F.2.1 dX7_terms_62 rfl (lv_at hl 1 rfl) ?_
            refine lv_iload_n F.1 F.2.1 dX7_terms_63 rfl (lv_at hl 2 rfl) ?_
            refine lv_iload_n F.1 F.2.1 dX7_terms_64 rfl (lv_at hl 3 rfl) ?_
            refine lv_iload F.1 F.2.1 dX7_terms_65 (lv_at hl 0 rfl) ?_
            refine z_iadd F dX7_terms_67 ?_
            refine z_iconst F dX7_terms_68 ?_
            refine g_calli (g_runV (As := [.int (iI rr), .int (iI (fm + k)), .int (iI 0)]) (rest := [.ref (gh 78 0), .int (iI k), .ref (gh 77 0)]) (ci := 7) F hl.1 hH hS hz (c_X7_part l g gh T I R J AI_1 AJ AR mo rr (fm + k) 0 zrr ⟨by omega, by omega⟩ ⟨by decide, by decide⟩ hv hm hT (by omega) (by omega) (by omega)) (cwV 3 F.2.2.2.2.1 (good_up gT_X7_part) rfl rfl rfl hdX7_part ⟨Nat.le_of_ble_eq_true rfl, Nat.le_of_ble_eq_true rfl⟩) hm (by decide) rfl rfl rfl (Nat.le_of_ble_eq_true rfl) dX7_terms_69 ⟨Nat.zero_le _, Nat.zero_le _⟩) hS (fun v_24 I_18 R_19 J_20 AI_21 AJ_22 AR_23 H locs zv_24 hp_25 hH hS => ?_)
            dsimp only at hp_25
            obtain ⟨rfl, rfl, rfl, rfl, rfl, rfl, q_26⟩ := hp_25
            have hx72 : 0 ≤ v_24 ∧ v_24 < ((8 : Nat) : Int) ∧ v_24 ≤ 2147483647 := ⟨by omega, by omega, by omega⟩
            refine g_iald F hH r_17b hx72.1 hx72.2.1 hx72.2.2 dX7_terms_72 ?_
            refine z_name (fun v_27 ev_27 => ?_)
            have zv_27 : zr v_27 := by rw [ev_27]; exact zr_t _
            have hov : iI v_27 = hh (lc.2 k.toNat 0).toNat := by rw [ev_27, iI_self, ← hhh _ (by omega), fW _ (show gh 78 0 ≠ gh 77 0 from mNe hv hm (p := (28, 8)) (q := (27, 4)) (by decide) (by decide) (by decide))]; congr 1; omega
            refine lv_aload_n F.1 F.2.1 dX7_terms_73 rfl (lv_at hl 1 rfl) ?_
            refine lv_iload_n F.1 F.2.1 dX7_terms_74 rfl (lv_at hl 2 rfl) ?_
            refine lv_iload_n F.1 F.2.1 dX7_terms_75 rfl (lv_at hl 3 rfl) ?_
            refine lv_iload F.1 F.2.1 dX7_terms_76 (lv_at hl 0 rfl) ?_
            refine z_iadd F dX7_terms_78 ?_
            refine z_iconst F dX7_terms_79 ?_
            refine g_calli (g_runV (As := [.int (iI rr), .int (iI (fm + k)), .int (iI 1)]) (rest := [.int (iI v_27), .int (iI k), .ref (gh 77 0)]) (ci := 7) F hl.1 hH hS hz (c_X7_part l g gh T I R J AI_1 AJ AR mo rr (fm + k) 1 zrr ⟨by omega, by omega⟩ ⟨by decide, by decide⟩ hv hm hT (by omega) (by omega) (by omega)) (cwV 3 F.2.2.2.2.1 (good_up gT_X7_part) rfl rfl rfl hdX7_part ⟨Nat.le_of_ble_eq_true rfl, Nat.le_of_ble_eq_true rfl⟩) hm (by decide) rfl rfl rfl (Nat.le_of_ble_eq_true rfl) dX7_terms_80 ⟨Nat.zero_le _, Nat.zero_le _⟩) hS (fun v_34 I_28 R_29 J_30 AI_31 AJ_32 AR_33 H locs zv_34 hp_35 hH hS => ?_)
            dsimp only at hp_35
            obtain ⟨rfl, rfl, rfl, rfl, rfl, rfl, q_36⟩ := hp_35
            refine z_iadd F dX7_terms_83 ?_
            have hx84 : 0 ≤ k ∧ k < ((4 : Nat) : Int) ∧ k ≤ 2147483647 := ⟨by omega, by omega, by omega⟩
            refine g_iast F hH hS r_5b hx84.1 hx84.2.1 hx84.2.2 dX7_terms_84 (fun H locs hH hS => ?_)
            obtain ⟨AI_37, eAI_37⟩ : ∃ qQ, qQ = gup2 AI_1 (gh 77 0) (k).toNat (iI (v_27 + v_34)) := ⟨_, rfl⟩
            rw [← eAI_37] at hH
            have kAI_37 : ∀ b, b ≠ (gh 77 0) → AI_37 b = AI_1 b := fun b hb => by rw [eAI_37]; exact funext fun j => gup2_a _ _ hb
            have hvO := hv
            have t_38 : AI_37 (gh 50 0) = AI_1 (gh 50 0) := mK hv hm (p := (0, 640)) (q := (27, 4)) (by decide) (by decide) (by decide) kAI_37
            have hv : mInv g gh R I AI_37 := mInv_a hv hm (q := (27, 4)) (by decide) (by decide) kAI_37
            have hT : AI_37 (gh 50 0) = T := t_38.trans hT
            have htr : ∀ j : Nat, (j : Int) < k + 1 → AI_37 (gh 77 0) j = tg (trT lc hh) j := fun j hj => by
              by_cases e9 : (j : Int) = k
              · rw [eAI_37, gup2_e _ _ (by omega), trT_y (by omega) (by omega), ← iI_add, hov, show j = k.toNat by omega]; unfold trm; rw [if_neg (by omega)]; congr 2; omega
              · rw [eAI_37, gup2_k _ _ (by omega)]; exact htr j (by omega)
            have fW : ∀ b, b ≠ gh 77 0 → AI_37 b = AI b := fun b hb => (kAI_37 b hb).trans (fW b hb)
            refine z_iinc (lv' := [(4, .int (iI (k + 1))), (0, .ref mo), (1, .int (iI rr)), (2, .int (iI fm)), (3, .int (iI n))]) F dX7_terms_85 hl (k := 0) rfl (by decide) rfl (fun ls hl => ?_)
            refine z_goto (tgt := 3) F dX7_terms_88 (by decide) ?_
            exact ih3 (k + 1) AI_37 H locs ls ⟨by omega, by omega⟩ hv hT (by omega) fW htr (by omega) hH hS (lv_sub hl [0, 1, 2, 3, 4] rfl)
          · refine lv_aload_n F.1 F.2.1 dX7_terms_45 rfl (lv_at hl 1 rfl) ?_
            refine lv_iload_n F.1 F.2.1 dX7_terms_46 rfl (lv_at hl 2 rfl) ?_
            refine lv_iload_n F.1 F.2.1 dX7_terms_47 rfl (lv_at hl 3 rfl) ?_
            refine lv_iload F.1 F.2.1 dX7_terms_48 (lv_at hl 0 rfl) ?_
            refine z_iadd F dX7_terms_50 ?_
            refine z_iconst F dX7_terms_51 ?_
            refine g_calli (g_runV (As := [.int (iI rr), .int (iI (fm + k)), .int (iI 1)]) (rest := [.int (iI k), .ref (gh 77 0)]) (ci := 7) F hl.1 hH hS hz (c_X7_part l g gh T I R J AI_1 AJ AR mo rr (fm + k) 1 zrr ⟨by omega, by omega⟩ ⟨by decide, by decide⟩ hv hm hT (by omega) (by omega) (by omega)) (cwV 3 F.2.2.2.2.1 (good_up gT_X7_part) rfl rfl rfl hdX7_part ⟨Nat.le_of_ble_eq_true rfl, Nat.le_of_ble_eq_true rfl⟩) hm (by decide) rfl rfl rfl (Nat.le_of_ble_eq_true rfl) dX7_terms_52 ⟨Nat.zero_le _, Nat.zero_le _⟩) hS (fun v_45 I_39 R_40 J_41 AI_42 AJ_43 AR_44 H locs zv_45 hp_46 hH hS => ?_)
            dsimp only at hp_46
            obtain ⟨rfl, rfl, rfl, rfl, rfl, rfl, q_47⟩ := hp_46
            refine z_goto (tgt := 84) F dX7_terms_55 (by decide) ?_
            have hx84 : 0 ≤ k ∧ k < ((4 : Nat) : Int) ∧ k ≤ 2147483647 := ⟨by omega, by omega, by omega⟩
            refine g_iast F hH hS r_5b hx84.1 hx84.2.1 hx84.2.2 dX7_terms_84 (fun H locs hH hS => ?_)
            obtain ⟨AI_48, eAI_48⟩ : ∃ qQ, qQ = gup2 AI_1 (gh 77 0) (k).toNat (iI (v_45)) := ⟨_, rfl⟩
            rw [← eAI_48] at hH
            have kAI_48 : ∀ b, b ≠ (gh 77 0) → AI_48 b = AI_1 b := fun b hb => by rw [eAI_48]; exact funext fun j => gup2_a _ _ hb
            have hvO := hv
            have t_49 : AI_48 (gh 50 0) = AI_1 (gh 50 0) := mK hv hm (p := (0, 640)) (q := (27, 4)) (by decide) (by decide) (by decide) kAI_48
            have hv : mInv g gh R I AI_48 := mInv_a hv hm (q := (27, 4)) (by decide) (by decide) kAI_48
            have hT : AI_48 (gh 50 0) = T := t_49.trans hT
            have htr : ∀ j : Nat, (j : Int) < k + 1 → AI_48 (gh 77 0) j = tg (trT lc hh) j := fun j hj => by
              by_cases e9 : (j : Int) = k
              · rw [eAI_48, gup2_e _ _ (by omega), trT_y (by omega) (by omega), show j = k.toNat by omega]; unfold trm; rw [if_pos (by omega), Int32.zero_add]; congr 1; omega
              · rw [eAI_48, gup2_k _ _ (by omega)]; exact htr j (by omega)
            have fW : ∀ b, b ≠ gh 77 0 → AI_48 b = AI b := fun b hb => (kAI_48 b hb).trans (fW b hb)
            refine z_iinc (lv' := [(4, .int (iI (k + 1))), (0, .ref mo), (1, .int (iI rr)), (2, .int (iI fm)), (3, .int (iI n))]) F dX7_terms_85 hl (k := 0) rfl (by decide) rfl (fun ls hl => ?_)
            refine z_goto (tgt := 3) F dX7_terms_88 (by decide) ?_
            exact ih3 (k + 1) AI_48 H locs ls ⟨by omega, by omega⟩ hv hT (by omega) fW htr (by omega) hH hS (lv_sub hl [0, 1, 2, 3, 4] rfl)
        · refine lv_aload_n F.1 F.2.1 dX7_terms_15 rfl (lv_at hl 1 rfl) ?_
          obtain ⟨r_50a, r_50b⟩ : R mo 27 = some (gh 77 0) ∧ gAr g (gh 77 0) 9 4 := mR hv hm (q := (27, 4)) (by decide)
          refine g_getR (ci := 7) (k := 27) F hH rfl (by decide) iX7 hm (by decide) rfl (b := gh 77 0) r_50a k45 dX7_terms_16 ?_
          refine lv_iload F.1 F.2.1 dX7_terms_19 (lv_at hl 0 rfl) ?_
          refine z_iconst F dX7_terms_21 ?_
          have hx22 : 0 ≤ k ∧ k < ((4 : Nat) : Int) ∧ k ≤ 2147483647 := ⟨by omega, by omega, by omega⟩
          refine g_iast F hH hS r_50b hx22.1 hx22.2.1 hx22.2.2 dX7_terms_22 (fun H locs hH hS => ?_)
          obtain ⟨AI_51, eAI_51⟩ : ∃ qQ, qQ = gup2 AI_1 (gh 77 0) (k).toNat (iI (0)) := ⟨_, rfl⟩
          rw [← eAI_51] at hH
          have kAI_51 : ∀ b, b ≠ (gh 77 0) → AI_51 b = AI_1 b := fun b hb => by rw [eAI_51]; exact funext fun j => gup2_a _ _ hb
          have hvO := hv
          have t_52 : AI_51 (gh 50 0) = AI_1 (gh 50 0) := mK hv hm (p := (0, 640)) (q := (27, 4)) (by decide) (by decide) (by decide) kAI_51
          have hv : mInv g gh R I AI_51 := mInv_a hv hm (q := (27, 4)) (by decide) (by decide) kAI_51
          have hT : AI_51 (gh 50 0) = T := t_52.trans hT
          have htr : ∀ j : Nat, (j : Int) < k + 1 → AI_51 (gh 77 0) j = tg (trT lc hh) j := fun j hj => by
            by_cases e9 : (j : Int) = k
            · rw [eAI_51, gup2_e _ _ (by omega), trT_n (by omega) (by omega)]; rfl
            · rw [eAI_51, gup2_k _ _ (by omega)]; exact htr j (by omega)
          have fW : ∀ b, b ≠ gh 77 0 → AI_51 b = AI b := fun b hb => (kAI_51 b hb).trans (fW b hb)
          refine z_goto (tgt := 85) F dX7_terms_23 (by decide) ?_
          refine z_iinc (lv' := [(4, .int (iI (k + 1))), (0, .ref mo), (1, .int (iI rr)), (2, .int (iI fm)), (3, .int (iI n))]) F dX7_terms_85 hl (k := 0) rfl (by decide) rfl (fun ls hl => ?_)
          refine z_goto (tgt := 3) F dX7_terms_88 (by decide) ?_
          exact ih3 (k + 1) AI_51 H locs ls ⟨by omega, by omega⟩ hv hT (by omega) fW htr (by omega) hH hS (lv_sub hl [0, 1, 2, 3, 4] rfl)
  exact cut_3_1 (((4 - 0) + 1 : Int).toNat) 0 AI H locs ls ⟨by decide, by decide⟩ hv hT (by omega) (fun _ _ => rfl) (fun j hj => absurd hj (by omega)) (by omega) hH hS (lv_sub hl [0, 1, 2, 3, 4] rfl)
end
section
/-! the reference: rows laid -/
section Lay
variable {f g g' g'' : Nat → Int32} {b : Nat} {k e : Int}
def layP (f g g' : Nat → Int32) (b : Nat) (k e : Int) : Prop :=
  (∀ r : Nat, (r : Int) < k → f (6 * r + 4) ≠ 0 → ∀ j : Nat, j < 6 → g' (b + 6 * (wCnt f r).toNat + j) = f (6 * r + j)) ∧
  (∀ j : Nat, (j : Int) < e → g' (b + 6 * (wCnt f k.toNat).toNat + j) = f (6 * k.toNat + j)) ∧
  ∀ p : Nat, p < b ∨ b + 6 * (wCnt f k.toNat).toNat + e.toNat ≤ p → g' p = g p
theorem layP_0 : layP f g g b 0 0 := ⟨fun r h => absurd h (by omega), fun j h => absurd h (by omega), fun _ _ => rfl⟩
theorem wC_lt {r k : Nat} (h : r < k) (n : f (6 * r + 4) ≠ 0) : wCnt f r + 1 ≤ wCnt f k := by
  have q := wCnt_s (f := f) (k := (r : Int)) (by omega) (by
    intro q9; refine n (Int32.toInt_inj.mp ?_); unfold tI at q9
    rw [show (6 * (r : Int) + 4).toNat = 6 * r + 4 by omega] at q9; rw [q9]; rfl)
  rw [show ((r : Int) + 1).toNat = r + 1 by omega, show (r : Int).toNat = r by omega] at q
  have q2 := wCnt_le (f := f) (a := r + 1) (b := k) h
  omega
theorem layP_s (h : layP f g g' b k e) (hk : 0 ≤ k) (h0 : 0 ≤ e ∧ e < 6) (hp : ∀ p : Nat, p ≠ b + 6 * (wCnt f k.toNat).toNat + e.toNat → g'' p = g' p) (hq : g'' (b + 6 * (wCnt f k.toNat).toNat + e.toNat) = f (6 * k.toNat + e.toNat)) : layP f g g'' b k (e + 1) := by
  refine ⟨fun r hr n j hj => ?_, fun j hj => ?_, fun p hp' => ?_⟩
  · have q := wC_lt (f := f) (r := r) (k := k.toNat) (by omega) n
    have q1 := wCnt_0 (f := f) (a := r)
    rw [hp _ (by omega)]; exact h.1 r hr n j hj
  · by_cases w : (j : Int) = e
    · rw [show j = e.toNat by omega]; exact hq
    · rw [hp _ (by omega)]; exact h.2.1 j (by omega)
  · rw [hp _ (by omega)]; exact h.2.2 p (by omega)
theorem layP_n (h : layP f g g' b k 6) (hk : 0 ≤ k) (n : tI f (6 * k + 4) ≠ 0) : layP f g g' b (k + 1) 0 := by
  have q := wCnt_s (f := f) hk n
  have q1 := wCnt_0 (f := f) (a := k.toNat)
  refine ⟨fun r hr nr j hj => ?_, fun j hj => absurd hj (by omega), fun p hp => h.2.2 p (by rw [q] at hp; omega)⟩
  by_cases w : (r : Int) = k
  · rw [show r = k.toNat by omega]; exact h.2.1 j (by omega)
  · exact h.1 r (by omega) nr j hj
theorem layP_z (h : layP f g g' b k 0) (hk : 0 ≤ k) (n : tI f (6 * k + 4) = 0) : layP f g g' b (k + 1) 0 := by
  have q := wCnt_z (f := f) hk n
  refine ⟨fun r hr nr j hj => ?_, fun j hj => absurd hj (by omega), fun p hp => h.2.2 p (by rw [q] at hp; omega)⟩
  by_cases w : (r : Int) = k
  · refine absurd ?_ nr
    unfold tI at n; rw [show (6 * k + 4).toNat = 6 * r + 4 by omega] at n
    exact Int32.toInt_inj.mp (by rw [n]; rfl)
  · exact h.1 r (by omega) nr j hj
end Lay
/-- what lays answers and leaves -/
def lyP (gh : gGh) (sd rr n : Int) (AI AI' : gI) (z : Int) : Prop :=
  (z = 0 ∧ layP (AI (gh 75 0)) (AI (gh 56 0)) (AI' (gh 56 0)) (11520 * sd + 720 * rr).toNat n 0 ∧ (∀ j : Nat, j ≠ (16 * sd + rr).toNat → AI' (gh 57 0) j = AI (gh 57 0) j) ∧ AI' (gh 57 0) (16 * sd + rr).toNat = iI (wCnt (AI (gh 75 0)) n.toNat) ∧ wCnt (AI (gh 75 0)) n.toNat ≤ 120) ∨
  (z = -3 ∧ 120 < wCnt (AI (gh 75 0)) n.toNat ∧ AI' (gh 56 0) = AI (gh 56 0) ∧ AI' (gh 57 0) = AI (gh 57 0))
theorem lyP_z {gh : gGh} {sd rr n : Int} {AI AI' : gI} {z : Int} (h : lyP gh sd rr n AI AI' z) : z = 0 ∨ z = -3 ∨ z = -4 := by
  rcases h with h | h
  · exact Or.inl h.1
  · exact Or.inr (Or.inl h.1)
end
section
def rmX7_laysf : Room := { frames := 1, cells := 0, slots := 0, locals := 22 }
set_option maxHeartbeats 4000000 in
set_option maxRecDepth 100000 in
/-- the bag is laid -/
theorem c_X7_laysf (l : Launch) (g : gG) (gh : gGh) (T : Nat → Int32) (I : gI) (R : gR) (J : gJ) (AI : gI) (AJ : gJ) (AR : gR) (mo : Nat) (sd : Int) (rr : Int) (zsd : zr sd) (zrr : zr rr) (hv : mInv g gh R I AI) (hm : gO g mo 7) (hT : AI (gh 50 0) = T) (hs : 0 ≤ sd ∧ sd ≤ 10) (hr0 : 0 ≤ rr ∧ rr ≤ 15) : gMet l g yX7_lays tsX7_lays rmX7_laysf [.ref mo, .int (iI sd), .int (iI rr)] (I, R, J, AI, AJ, AR) (gQi g (fun (z : Int) (w : gS) => I = w.1 ∧ R = w.2.1 ∧ J = w.2.2.1 ∧ AJ = w.2.2.2.2.1 ∧ AR = w.2.2.2.2.2 ∧ (mInv g gh R I (w.2.2.2.1)) ∧ ((w.2.2.2.1) (gh 50 0) = T) ∧ ((w.2.2.2.1) (gh 75 0) = AI (gh 75 0)) ∧ (∀ b, b ≠ gh 56 0 → b ≠ gh 57 0 → (w.2.2.2.1) b = AI b) ∧ (lyP gh sd rr (I mo 26).toInt AI (w.2.2.2.1) z))) := by
  refine gStart (cc := cX7_lays) (maxL := 7) (ret := (some (.int))) (by decide) rfl (Nat.le_of_ble_eq_true rfl) ?_
  intro p e s m below meth c ls F hr hlk hH hz hS hl
  have hl : lv_has ls 7 [(0, .ref mo), (1, .int (iI sd)), (2, .int (iI rr))] := hl
  have hS : va_S (gA g) s.heap s.heap [] := hS
  obtain ⟨H, hHe⟩ : ∃ H : Heap, H = s.heap := ⟨_, rfl⟩
  obtain ⟨locs, hlo⟩ : ∃ k : List Loc, k = [] := ⟨_, rfl⟩
  have hH : gH g I R J AI AJ AR H := by rw [hHe]; exact hH
  have hS : va_S (gA g) s.heap H locs := by rw [hHe, hlo]; exact hS
  suffices hw : W p l e rmX7_laysf s m ([.ref mo, .int (iI sd), .int (iI rr)] : List Value).toArray below meth c H locs 0 0 (MQ below (gQi g (fun (z : Int) (w : gS) => I = w.1 ∧ R = w.2.1 ∧ J = w.2.2.1 ∧ AJ = w.2.2.2.2.1 ∧ AR = w.2.2.2.2.2 ∧ (mInv g gh R I (w.2.2.2.1)) ∧ ((w.2.2.2.1) (gh 50 0) = T) ∧ ((w.2.2.2.1) (gh 75 0) = AI (gh 75 0)) ∧ (∀ b, b ≠ gh 56 0 → b ≠ gh 57 0 → (w.2.2.2.1) b = AI b) ∧ (lyP gh sd rr (I mo 26).toInt AI (w.2.2.2.1) z))) ([.ref mo, .int (iI sd), .int (iI rr)] : List Value).toArray s 0 0 (gA g)) (F0 m 0 ls []) by
    rw [hHe, hlo] at hw; exact hw
  clear hHe hlo
  have ha25 : AI (gh 75 0) = AI (gh 75 0) := rfl
  have hb0 := mJ hv hm
  unfold mNum1 at hb0
  have iX7 : ∀ w ∈ u_ws RX7 TX7 32, w ∈ tsX7_lays := fun w h => List.mem_cons_of_mem _ (inTB7 w h)
  have k269 : Cond.fieldLink RX7 269 (TX7 26).1 (TX7 26).2.1 (TX7 26).2.2.1 ∈ tsX7_lays := List.mem_cons_of_mem _ fl_269
  have k42 : Cond.fieldLink RX7 42 (TX7 25).1 (TX7 25).2.1 (TX7 25).2.2.1 ∈ tsX7_lays := List.mem_cons_of_mem _ fl_42
  have k24 : Cond.fieldLink RX7 24 (TX7 6).1 (TX7 6).2.1 (TX7 6).2.2.1 ∈ tsX7_lays := List.mem_cons_of_mem _ fl_24
  have k27 : Cond.fieldLink RX7 27 (TX7 7).1 (TX7 7).2.1 (TX7 7).2.2.1 ∈ tsX7_lays := List.mem_cons_of_mem _ fl_27
  refine z_iconst F dX7_lays_0 ?_
  refine lv_istore_n (lv' := [(3, .int (iI 0)), (0, .ref mo), (1, .int (iI sd)), (2, .int (iI rr))]) F.1 F.2.1 dX7_lays_1 rfl hl (by decide) rfl (fun ls hl => ?_)
  refine z_iconst F dX7_lays_2 ?_
  refine lv_istore (lv' := [(4, .int (iI 0)), (3, .int (iI 0)), (0, .ref mo), (1, .int (iI sd)), (2, .int (iI rr))]) F.1 F.2.1 dX7_lays_3 hl (by decide) rfl (fun ls hl => ?_)
  have cut_5_0 : ∀ (NN : Nat) (n k : Int) (H : Heap) (locs : List Loc) (ls : Array Slot), zr n → zr k → (0 ≤ k ∧ k ≤ (I mo 26).toInt) → (n = wCnt (AI (gh 75 0)) k.toNat) → ((I mo 26).toInt - k) < ((NN : Nat) : Int) → gH g I R J AI AJ AR H → va_S (gA g) s.heap H locs → lv_has ls 7 [(4, .int (iI k)), (3, .int (iI n)), (0, .ref mo), (1, .int (iI sd)), (2, .int (iI rr))] → W p l e rmX7_laysf s m ([.ref mo, .int (iI sd), .int (iI rr)] : List Value).toArray below meth c H locs 0 0 (MQ below (gQi g (fun (z : Int) (w : gS) => I = w.1 ∧ R = w.2.1 ∧ J = w.2.2.1 ∧ AJ = w.2.2.2.2.1 ∧ AR = w.2.2.2.2.2 ∧ (mInv g gh R I (w.2.2.2.1)) ∧ ((w.2.2.2.1) (gh 50 0) = T) ∧ ((w.2.2.2.1) (gh 75 0) = AI (gh 75 0)) ∧ (∀ b, b ≠ gh 56 0 → b ≠ gh 57 0 → (w.2.2.2.1) b = AI b) ∧ (lyP gh sd rr (I mo 26).toInt AI (w.2.2.2.1) z))) ([.ref mo, .int (iI sd), .int (iI rr)] : List Value).toArray s 0 0 (gA g)) (F0 m 5 ls []) := by
    intro NN5
    induction NN5 with
    | zero =>
      intro n k H locs ls zn zk hk hn hm5 hH hS hl
      exact absurd hm5 (by omega)
    | succ NN5 ih5 =>
      intro n k H locs ls zn zk hk hn hm5 hH hS hl
      have hn2 := wCnt_u (f := (AI (gh 75 0))) (a := k.toNat)
      have hn1 := wCnt_0 (f := (AI (gh 75 0))) (a := k.toNat)
      refine lv_iload F.1 F.2.1 dX7_lays_5 (lv_at hl 0 rfl) ?_
      refine lv_aload_n F.1 F.2.1 dX7_lays_7 rfl (lv_at hl 2 rfl) ?_
      refine g_getI (ci := 7) (k := 26) F hH rfl (by decide) iX7 hm (by decide) rfl k269 dX7_lays_8 ?_
      have b_2 := mJ hv hm
      unfold mNum1 at b_2
      refine z_icmp_ge (tgt := 38) F dX7_lays_11 (by decide) zk (zr_t _) (fun c_3 => ?_) (fun c_3 => ?_)
      · have hx : n = wCnt (AI (gh 75 0)) (I mo 26).toInt.toNat := by rw [← (show k = (I mo 26).toInt by omega)]; exact hn
        have hn0 := wCnt_0 (f := (AI (gh 75 0))) (a := (I mo 26).toInt.toNat)
        refine lv_iload_n F.1 F.2.1 dX7_lays_38 rfl (lv_at hl 1 rfl) ?_
        refine z_bipush F dX7_lays_39 (by decide) ?_
        refine z_icmp_le (tgt := 47) F dX7_lays_41 (by decide) zn ⟨by decide, by decide⟩ (fun c_4 => ?_) (fun c_4 => ?_)
        · refine lv_iload_n F.1 F.2.1 dX7_lays_47 rfl (lv_at hl 3 rfl) ?_
          refine lv_iload_n F.1 F.2.1 dX7_lays_48 rfl (lv_at hl 4 rfl) ?_
          refine z_iconst F dX7_lays_49 ?_
          refine g_calli (g_runS (As := [.int (iI sd), .int (iI rr), .int (iI 0)]) (rest := []) F hl.1 hH hS hz (c_X7_spot l g  I R J AI AJ AR sd rr 0 zsd zrr ⟨by decide, by decide⟩ (by omega) (by omega) (by omega)) (va_cwS 3 F.2.2.2.2.1 (good_up gT_X7_spot) rfl rfl rfl hdX7_spot.2 ⟨Nat.le_of_ble_eq_true rfl, Nat.le_of_ble_eq_true rfl⟩) rfl rfl (Nat.le_of_ble_eq_true rfl) dX7_lays_50 ⟨Nat.zero_le _, Nat.zero_le _⟩) hS (fun v_11 I_5 R_6 J_7 AI_8 AJ_9 AR_10 H locs zv_11 hp_12 hH hS => ?_)
          dsimp only at hp_12
          obtain ⟨rfl, rfl, rfl, rfl, rfl, rfl, q_13⟩ := hp_12
          refine lv_istore (lv' := [(4, .int (iI v_11)), (3, .int (iI n)), (0, .ref mo), (1, .int (iI sd)), (2, .int (iI rr))]) F.1 F.2.1 dX7_lays_53 hl (by decide) rfl (fun ls hl => ?_)
          refine z_iconst F dX7_lays_55 ?_
          refine lv_istore (lv' := [(5, .int (iI 0)), (4, .int (iI v_11)), (3, .int (iI n)), (0, .ref mo), (1, .int (iI sd)), (2, .int (iI rr))]) F.1 F.2.1 dX7_lays_56 hl (by decide) rfl (fun ls hl => ?_)
          have cut_58_14 : ∀ (NN : Nat) (to k2 : Int) (AI_14 : gI) (H : Heap) (locs : List Loc) (ls : Array Slot), zr to → zr k2 → (mInv g gh R I AI_14) → (AI_14 (gh 50 0) = T) → (AI_14 (gh 75 0) = AI (gh 75 0)) → (0 ≤ k2 ∧ k2 ≤ (I mo 26).toInt) → (to = 11520 * sd + 720 * rr + 6 * wCnt (AI (gh 75 0)) k2.toNat) → (∀ b, b ≠ gh 56 0 → AI_14 b = AI b) → (layP (AI (gh 75 0)) (AI (gh 56 0)) (AI_14 (gh 56 0)) (11520 * sd + 720 * rr).toNat k2 0) → ((I mo 26).toInt - k2) < ((NN : Nat) : Int) → gH g I R J AI_14 AJ AR H → va_S (gA g) s.heap H locs → lv_has ls 7 [(5, .int (iI k2)), (4, .int (iI to)), (3, .int (iI n)), (0, .ref mo), (1, .int (iI sd)), (2, .int (iI rr))] → W p l e rmX7_laysf s m ([.ref mo, .int (iI sd), .int (iI rr)] : List Value).toArray below meth c H locs 0 0 (MQ below (gQi g (fun (z : Int) (w : gS) => I = w.1 ∧ R = w.2.1 ∧ J = w.2.2.1 ∧ AJ = w.2.2.2.2.1 ∧ AR = w.2.2.2.2.2 ∧ (mInv g gh R I (w.2.2.2.1)) ∧ ((w.2.2.2.1) (gh 50 0) = T) ∧ ((w.2.2.2.1) (gh 75 0) = AI (gh 75 0)) ∧ (∀ b, b ≠ gh 56 0 → b ≠ gh 57 0 → (w.2.2.2.1) b = AI b) ∧ (lyP gh sd rr (I mo 26).toInt AI (w.2.2.2.1) z))) ([.ref mo, .int (iI sd), .int (iI rr)] : List Value).toArray s 0 0 (gA g)) (F0 m 58 ls []) := by
            intro NN58
            induction NN58 with
            | zero =>
              intro to k2 AI_14 H locs ls zto zk2 hv hT ha25 hk2 hto fW hly hm58 hH hS hl
              exact absurd hm58 (by omega)
            | succ NN58 ih58 =>
              intro to k2 AI_14 H locs ls zto zk2 hv hT ha25 hk2 hto fW hly hm58 hH hS hl
              refine lv_iload F.1 F.2.1 dX7_lays_58 (lv_at hl 0 rfl) ?_
              refine lv_aload_n F.1 F.2.1 dX7_lays_60 rfl (lv_at hl 3 rfl) ?_
              refine g_getI (ci := 7) (k := 26) F hH rfl (by decide) iX7 hm (by decide) rfl k269 dX7_lays_61 ?_
              refine z_icmp_ge (tgt := 133) F dX7_lays_64 (by decide) zk2 (zr_t _) (fun c_16 => ?_) (fun c_16 => ?_)
              · refine lv_aload_n F.1 F.2.1 dX7_lays_133 rfl (lv_at hl 3 rfl) ?_
                obtain ⟨r_17a, r_17b⟩ : R mo 7 = some (gh 57 0) ∧ gAr g (gh 57 0) 9 176 := mR hv hm (q := (7, 176)) (by decide)
                refine g_getR (ci := 7) (k := 7) F hH rfl (by decide) iX7 hm (by decide) rfl (b := gh 57 0) r_17a k27 dX7_lays_134 ?_
                refine z_bipush F dX7_lays_137 (by decide) ?_
                refine lv_iload_n F.1 F.2.1 dX7_lays_139 rfl (lv_at hl 4 rfl) ?_
                refine z_imul F dX7_lays_140 ?_
                refine lv_iload_n F.1 F.2.1 dX7_lays_141 rfl (lv_at hl 5 rfl) ?_
                refine z_iadd F dX7_lays_142 ?_
                refine lv_iload_n F.1 F.2.1 dX7_lays_143 rfl (lv_at hl 2 rfl) ?_
                have hx144 : 0 ≤ ((16 * sd) + rr) ∧ ((16 * sd) + rr) < ((176 : Nat) : Int) ∧ ((16 * sd) + rr) ≤ 2147483647 := ⟨by omega, by omega, by omega⟩
                refine g_iast F hH hS r_17b hx144.1 hx144.2.1 hx144.2.2 dX7_lays_144 (fun H locs hH hS => ?_)
                obtain ⟨AI_18, eAI_18⟩ : ∃ qQ, qQ = gup2 AI_14 (gh 57 0) (((16 * sd) + rr)).toNat (iI (n)) := ⟨_, rfl⟩
                rw [← eAI_18] at hH
                have kAI_18 : ∀ b, b ≠ (gh 57 0) → AI_18 b = AI_14 b := fun b hb => by rw [eAI_18]; exact funext fun j => gup2_a _ _ hb
                have hvO := hv
                have t_19 : AI_18 (gh 50 0) = AI_14 (gh 50 0) := mK hv hm (p := (0, 640)) (q := (7, 176)) (by decide) (by decide) (by decide) kAI_18
                have t_19_25 : AI_18 (gh 75 0) = AI_14 (gh 75 0) := mK hv hm (p := (25, 9600)) (q := (7, 176)) (by decide) (by decide) (by decide) kAI_18
                have ha25 : AI_18 (gh 75 0) = AI (gh 75 0) := t_19_25.trans ha25
                have hv : mInv g gh R I AI_18 := mInv_sizes1 hv hm eAI_18 (by omega) (by omega)
                have hT : AI_18 (gh 50 0) = T := t_19.trans hT
                have b6 : AI_18 (gh 56 0) = AI_14 (gh 56 0) := mK hvO hm (p := (6, 126720)) (q := (7, 176)) (by decide) (by decide) (by decide) kAI_18
                have hsz : (∀ j : Nat, j ≠ (16 * sd + rr).toNat → AI_18 (gh 57 0) j = AI (gh 57 0) j) ∧ AI_18 (gh 57 0) (16 * sd + rr).toNat = iI n := ⟨fun j hj => by rw [eAI_18, gup2_k _ _ (by omega), fW _ (show gh 57 0 ≠ gh 56 0 from mNe hv hm (p := (7, 176)) (q := (6, 126720)) (by decide) (by decide) (by decide))], by rw [eAI_18, gup2_e _ _ (by omega)]⟩
                have fX : ∀ b, b ≠ gh 56 0 → b ≠ gh 57 0 → AI_18 b = AI b := fun b hb hc => (kAI_18 b hc).trans (fW b hb)
                rw [show k2 = (I mo 26).toInt by omega, ← b6] at hly
                refine z_iconst F dX7_lays_145 ?_
                exact g_iret F hr hlk hH hS hz ⟨by decide, by decide⟩ ⟨rfl, rfl, rfl, rfl, rfl, hv, hT, ha25, fX, Or.inl ⟨rfl, hly, hsz.1, hsz.2.trans (by rw [hx]), by omega⟩⟩ dX7_lays_146
              · refine lv_aload_n F.1 F.2.1 dX7_lays_67 rfl (lv_at hl 3 rfl) ?_
                obtain ⟨r_20a, r_20b⟩ : R mo 25 = some (gh 75 0) ∧ gAr g (gh 75 0) 9 9600 := mR hv hm (q := (25, 9600)) (by decide)
                refine g_getR (ci := 7) (k := 25) F hH rfl (by decide) iX7 hm (by decide) rfl (b := gh 75 0) r_20a k42 dX7_lays_68 ?_
                refine z_bipush F dX7_lays_71 (by decide) ?_
                refine lv_iload F.1 F.2.1 dX7_lays_73 (lv_at hl 0 rfl) ?_
                refine z_imul F dX7_lays_75 ?_
                refine z_iconst F dX7_lays_76 ?_
                refine z_iadd F dX7_lays_77 ?_
                have hx78 : 0 ≤ ((6 * k2) + 4) ∧ ((6 * k2) + 4) < ((9600 : Nat) : Int) ∧ ((6 * k2) + 4) ≤ 2147483647 := ⟨by omega, by omega, by omega⟩
                refine g_iald F hH r_20b hx78.1 hx78.2.1 hx78.2.2 dX7_lays_78 ?_
                refine z_name (fun v_21 ev_21 => ?_)
                have zv_21 : zr v_21 := by rw [ev_21]; exact zr_t _
                have hw78 : v_21 = tI (AI (gh 75 0)) (6 * k2 + 4) := by rw [← ha25]; exact ev_21
                refine z_if_ne (tgt := 85) F dX7_lays_79 (by decide) zv_21 (fun c_22 => ?_) (fun c_22 => ?_)
                · have s1 := wCnt_s (f := (AI (gh 75 0))) (k := k2) (by omega) (by omega)
                  have s2 := wCnt_le (f := (AI (gh 75 0))) (a := (k2 + 1).toNat) (b := (I mo 26).toInt.toNat) (by omega)
                  have s3 := wCnt_0 (f := (AI (gh 75 0))) (a := k2.toNat)
                  refine z_iconst F dX7_lays_85 ?_
                  refine lv_istore (lv' := [(6, .int (iI 0)), (5, .int (iI k2)), (4, .int (iI to)), (3, .int (iI n)), (0, .ref mo), (1, .int (iI sd)), (2, .int (iI rr))]) F.1 F.2.1 dX7_lays_86 hl (by decide) rfl (fun ls hl => ?_)
                  have cut_88_23 : ∀ (NN : Nat) (i : Int) (AI_23 : gI) (H : Heap) (locs : List Loc) (ls : Array Slot), zr i → (mInv g gh R I AI_23) → (AI_23 (gh 50 0) = T) → (AI_23 (gh 75 0) = AI (gh 75 0)) → (0 ≤ i ∧ i ≤ 6) → (∀ b, b ≠ gh 56 0 → AI_23 b = AI b) → (layP (AI (gh 75 0)) (AI (gh 56 0)) (AI_23 (gh 56 0)) (11520 * sd + 720 * rr).toNat k2 i) → (6 - i) < ((NN : Nat) : Int) → gH g I R J AI_23 AJ AR H → va_S (gA g) s.heap H locs → lv_has ls 7 [(6, .int (iI i)), (5, .int (iI k2)), (4, .int (iI to)), (3, .int (iI n)), (0, .ref mo), (1, .int (iI sd)), (2, .int (iI rr))] → W p l e rmX7_laysf s m ([.ref mo, .int (iI sd), .int (iI rr)] : List Value).toArray below meth c H locs 0 0 (MQ below (gQi g (fun (z : Int) (w : gS) => I = w.1 ∧ R = w.2.1 ∧ J = w.2.2.1 ∧ AJ = w.2.2.2.2.1 ∧ AR = w.2.2.2.2.2 ∧ (mInv g gh R I (w.2.2.2.1)) ∧ ((w.2.2.2.1) (gh 50 0) = T) ∧ ((w.2.2.2.1) (gh 75 0) = AI (gh 75 0)) ∧ (∀ b, b ≠ gh 56 0 → b ≠ gh 57 0 → (w.2.2.2.1) b = AI b) ∧ (lyP gh sd rr (I mo 26).toInt AI (w.2.2.2.1) z))) ([.ref mo, .int (iI sd), .int (iI rr)] : List Value).toArray s 0 0 (gA g)) (F0 m 88 ls []) := by
                    intro NN88
                    induction NN88 with
                    | zero =>
                      intro i AI_23 H locs ls zi hv hT ha25 hi fW hly hm88 hH hS hl
                      exact absurd hm88 (by omega)
                    | succ NN88 ih88 =>
                      intro i AI_23 H locs ls zi hv hT ha25 hi fW hly hm88 hH hS hl
                      refine lv_iload F.1 F.2.1 dX7_lays_88 (lv_at hl 0 rfl) ?_
                      refine z_bipush F dX7_lays_90 (by decide) ?_
                      refine z_icmp_ge (tgt := 124) F dX7_lays_92 (by decide) zi ⟨by decide, by decide⟩ (fun c_25 => ?_) (fun c_25 => ?_)
                      · refine z_iinc (lv' := [(4, .int (iI (to + 6))), (6, .int (iI i)), (5, .int (iI k2)), (3, .int (iI n)), (0, .ref mo), (1, .int (iI sd)), (2, .int (iI rr))]) F dX7_lays_124 hl (k := 2) rfl (by decide) rfl (fun ls hl => ?_)
                        refine z_iinc (lv' := [(5, .int (iI (k2 + 1))), (4, .int (iI (to + 6))), (6, .int (iI i)), (3, .int (iI n)), (0, .ref mo), (1, .int (iI sd)), (2, .int (iI rr))]) F dX7_lays_127 hl (k := 2) rfl (by decide) rfl (fun ls hl => ?_)
                        refine z_goto (tgt := 58) F dX7_lays_130 (by decide) ?_
                        exact ih58 (to + 6) (k2 + 1) AI_23 H locs ls ⟨by omega, by omega⟩ ⟨by omega, by omega⟩ hv hT ha25 (by omega) (by first | (rw [wCnt_z (by omega) (by omega)]; omega) | (rw [wCnt_s (by omega) (by omega)]; omega) | (show _ = _ + 6 * (0 : Int); omega)) (by first | exact fW | exact fun _ _ => rfl) (by first | exact layP_0 | exact layP_z hly (by omega) (by omega) | exact layP_n (by rw [show i = 6 by omega] at hly; exact hly) (by omega) (by omega)) (by omega) hH hS (lv_sub hl [0, 1, 3, 4, 5, 6] rfl)
                      · refine lv_aload_n F.1 F.2.1 dX7_lays_95 rfl (lv_at hl 4 rfl) ?_
                        obtain ⟨r_26a, r_26b⟩ : R mo 6 = some (gh 56 0) ∧ gAr g (gh 56 0) 9 126720 := mR hv hm (q := (6, 126720)) (by decide)
                        refine g_getR (ci := 7) (k := 6) F hH rfl (by decide) iX7 hm (by decide) rfl (b := gh 56 0) r_26a k24 dX7_lays_96 ?_
                        refine lv_iload F.1 F.2.1 dX7_lays_99 (lv_at hl 2 rfl) ?_
                        refine lv_iload F.1 F.2.1 dX7_lays_101 (lv_at hl 0 rfl) ?_
                        refine z_iadd F dX7_lays_103 ?_
                        refine lv_aload_n F.1 F.2.1 dX7_lays_104 rfl (lv_at hl 4 rfl) ?_
                        refine g_getR (ci := 7) (k := 25) F hH rfl (by decide) iX7 hm (by decide) rfl (b := gh 75 0) r_20a k42 dX7_lays_105 ?_
                        refine z_bipush F dX7_lays_108 (by decide) ?_
                        refine lv_iload F.1 F.2.1 dX7_lays_110 (lv_at hl 1 rfl) ?_
                        refine z_imul F dX7_lays_112 ?_
                        refine lv_iload F.1 F.2.1 dX7_lays_113 (lv_at hl 0 rfl) ?_
                        refine z_iadd F dX7_lays_115 ?_
                        have hx116 : 0 ≤ ((6 * k2) + i) ∧ ((6 * k2) + i) < ((9600 : Nat) : Int) ∧ ((6 * k2) + i) ≤ 2147483647 := ⟨by omega, by omega, by omega⟩
                        refine g_iald F hH r_20b hx116.1 hx116.2.1 hx116.2.2 dX7_lays_116 ?_
                        refine z_name (fun v_27 ev_27 => ?_)
                        have zv_27 : zr v_27 := by rw [ev_27]; exact zr_t _
                        have hx117 : 0 ≤ (to + i) ∧ (to + i) < ((126720 : Nat) : Int) ∧ (to + i) ≤ 2147483647 := ⟨by omega, by omega, by omega⟩
                        refine g_iast F hH hS r_26b hx117.1 hx117.2.1 hx117.2.2 dX7_lays_117 (fun H locs hH hS => ?_)
                        obtain ⟨AI_28, eAI_28⟩ : ∃ qQ, qQ = gup2 AI_23 (gh 56 0) ((to + i)).toNat (iI (v_27)) := ⟨_, rfl⟩
                        rw [← eAI_28] at hH
                        have kAI_28 : ∀ b, b ≠ (gh 56 0) → AI_28 b = AI_23 b := fun b hb => by rw [eAI_28]; exact funext fun j => gup2_a _ _ hb
                        have h27 : iI v_27 = AI (gh 75 0) (6 * k2.toNat + i.toNat) := by rw [ev_27, iI_self, ha25]; congr 1; omega
                        have hvO := hv
                        have t_29 : AI_28 (gh 50 0) = AI_23 (gh 50 0) := mK hv hm (p := (0, 640)) (q := (6, 126720)) (by decide) (by decide) (by decide) kAI_28
                        have t_29_25 : AI_28 (gh 75 0) = AI_23 (gh 75 0) := mK hv hm (p := (25, 9600)) (q := (6, 126720)) (by decide) (by decide) (by decide) kAI_28
                        have ha25 : AI_28 (gh 75 0) = AI (gh 75 0) := t_29_25.trans ha25
                        have hv : mInv g gh R I AI_28 := mInv_a hv hm (q := (6, 126720)) (by decide) (by decide) kAI_28
                        have hT : AI_28 (gh 50 0) = T := t_29.trans hT
                        have hly := layP_s hly (by omega) ⟨by omega, by omega⟩ (g'' := AI_28 (gh 56 0)) (fun p hp => by rw [eAI_28, gup2_k _ _ (by omega)]) (by rw [eAI_28, gup2_e _ _ (by omega), h27])
                        have fW : ∀ b, b ≠ gh 56 0 → AI_28 b = AI b := fun b hb => (kAI_28 b hb).trans (fW b hb)
                        refine z_iinc (lv' := [(6, .int (iI (i + 1))), (5, .int (iI k2)), (4, .int (iI to)), (3, .int (iI n)), (0, .ref mo), (1, .int (iI sd)), (2, .int (iI rr))]) F dX7_lays_118 hl (k := 0) rfl (by decide) rfl (fun ls hl => ?_)
                        refine z_goto (tgt := 88) F dX7_lays_121 (by decide) ?_
                        exact ih88 (i + 1) AI_28 H locs ls ⟨by omega, by omega⟩ hv hT ha25 (by omega) fW hly (by omega) hH hS (lv_sub hl [0, 1, 2, 3, 4, 5, 6] rfl)
                  exact cut_88_23 (((6 - 0) + 1 : Int).toNat) 0 AI_14 H locs ls ⟨by decide, by decide⟩ hv hT ha25 (by omega) fW hly (by omega) hH hS (lv_sub hl [0, 1, 2, 3, 4, 5, 6] rfl)
                · refine z_goto (tgt := 127) F dX7_lays_82 (by decide) ?_
                  refine z_iinc (lv' := [(5, .int (iI (k2 + 1))), (4, .int (iI to)), (3, .int (iI n)), (0, .ref mo), (1, .int (iI sd)), (2, .int (iI rr))]) F dX7_lays_127 hl (k := 0) rfl (by decide) rfl (fun ls hl => ?_)
                  refine z_goto (tgt := 58) F dX7_lays_130 (by decide) ?_
                  exact ih58 to (k2 + 1) AI_14 H locs ls zto ⟨by omega, by omega⟩ hv hT ha25 (by omega) (by first | (rw [wCnt_z (by omega) (by omega)]; omega) | (rw [wCnt_s (by omega) (by omega)]; omega) | (show _ = _ + 6 * (0 : Int); omega)) (by first | exact fW | exact fun _ _ => rfl) (by first | exact layP_0 | exact layP_z hly (by omega) (by omega) | exact layP_n (by rw [show i = 6 by omega] at hly; exact hly) (by omega) (by omega)) (by omega) hH hS (lv_sub hl [0, 1, 2, 3, 4, 5] rfl)
          exact cut_58_14 ((((I mo 26).toInt - 0) + 1 : Int).toNat) v_11 0 AI H locs ls zv_11 ⟨by decide, by decide⟩ hv hT ha25 (by omega) (by first | (rw [wCnt_z (by omega) (by omega)]; omega) | (rw [wCnt_s (by omega) (by omega)]; omega) | (show _ = _ + 6 * (0 : Int); omega)) (by first | exact fW | exact fun _ _ => rfl) (by first | exact layP_0 | exact layP_z hly (by omega) (by omega) | exact layP_n (by rw [show i = 6 by omega] at hly; exact hly) (by omega) (by omega)) (by omega) hH hS (lv_sub hl [0, 1, 2, 3, 4, 5] rfl)
        · refine z_bipush F dX7_lays_44 (by decide) ?_
          exact g_iret F hr hlk hH hS hz ⟨by decide, by decide⟩ ⟨rfl, rfl, rfl, rfl, rfl, hv, hT, ha25, fun _ _ _ => rfl, Or.inr ⟨rfl, by omega, rfl, rfl⟩⟩ dX7_lays_46
      · refine lv_aload_n F.1 F.2.1 dX7_lays_14 rfl (lv_at hl 2 rfl) ?_
        obtain ⟨r_30a, r_30b⟩ : R mo 25 = some (gh 75 0) ∧ gAr g (gh 75 0) 9 9600 := mR hv hm (q := (25, 9600)) (by decide)
        refine g_getR (ci := 7) (k := 25) F hH rfl (by decide) iX7 hm (by decide) rfl (b := gh 75 0) r_30a k42 dX7_lays_15 ?_
        refine z_bipush F dX7_lays_18 (by decide) ?_
        refine lv_iload F.1 F.2.1 dX7_lays_20 (lv_at hl 0 rfl) ?_
        refine z_imul F dX7_lays_22 ?_
        refine z_iconst F dX7_lays_23 ?_
        refine z_iadd F dX7_lays_24 ?_
        have hx25 : 0 ≤ ((6 * k) + 4) ∧ ((6 * k) + 4) < ((9600 : Nat) : Int) ∧ ((6 * k) + 4) ≤ 2147483647 := ⟨by omega, by omega, by omega⟩
        refine g_iald F hH r_30b hx25.1 hx25.2.1 hx25.2.2 dX7_lays_25 ?_
        refine z_name (fun v_31 ev_31 => ?_)
        have zv_31 : zr v_31 := by rw [ev_31]; exact zr_t _
        have hw25 : v_31 = tI (AI (gh 75 0)) (6 * k + 4) := by rw [← ha25]; exact ev_31
        refine z_if_eq (tgt := 32) F dX7_lays_26 (by decide) zv_31 (fun c_32 => ?_) (fun c_32 => ?_)
        · refine z_iinc (lv' := [(4, .int (iI (k + 1))), (3, .int (iI n)), (0, .ref mo), (1, .int (iI sd)), (2, .int (iI rr))]) F dX7_lays_32 hl (k := 0) rfl (by decide) rfl (fun ls hl => ?_)
          refine z_goto (tgt := 5) F dX7_lays_35 (by decide) ?_
          exact ih5 n (k + 1) H locs ls zn ⟨by omega, by omega⟩ (by omega) (by first | rfl | (rw [wCnt_z (by omega) (by omega)]; omega) | (rw [wCnt_s (by omega) (by omega)]; omega)) (by omega) hH hS (lv_sub hl [0, 1, 2, 3, 4] rfl)
        · refine z_iinc (lv' := [(3, .int (iI (n + 1))), (4, .int (iI k)), (0, .ref mo), (1, .int (iI sd)), (2, .int (iI rr))]) F dX7_lays_29 hl (k := 1) rfl (by decide) rfl (fun ls hl => ?_)
          refine z_iinc (lv' := [(4, .int (iI (k + 1))), (3, .int (iI (n + 1))), (0, .ref mo), (1, .int (iI sd)), (2, .int (iI rr))]) F dX7_lays_32 hl (k := 1) rfl (by decide) rfl (fun ls hl => ?_)
          refine z_goto (tgt := 5) F dX7_lays_35 (by decide) ?_
          exact ih5 (n + 1) (k + 1) H locs ls ⟨by omega, by omega⟩ ⟨by omega, by omega⟩ (by omega) (by first | rfl | (rw [wCnt_z (by omega) (by omega)]; omega) | (rw [wCnt_s (by omega) (by omega)]; omega)) (by omega) hH hS (lv_sub hl [0, 1, 2, 3, 4] rfl)
  exact cut_5_0 ((((I mo 26).toInt - 0) + 1 : Int).toNat) 0 0 H locs ls ⟨by decide, by decide⟩ ⟨by decide, by decide⟩ (by omega) (by first | rfl | (rw [wCnt_z (by omega) (by omega)]; omega) | (rw [wCnt_s (by omega) (by omega)]; omega)) (by omega) hH hS (lv_sub hl [0, 1, 2, 3, 4] rfl)
end
section
/-! the reference: tuples of one group -/
section One
variable {c : LC} {t u : Tup} {T : Nat → Int32} {r k : Int}
def gpM (T : Nat → Int32) (r : Int) (c : LC) : Prop := tI T (40 * r + 4) = c.1 4 ∧ c.1 4 ≤ 4 ∧ ∀ k : Nat, (k : Int) < c.1 4 → mP T r (k : Int) 0 = c.2 k 0
theorem gpM_at (h : gpM T r c) (h0 : 0 ≤ k) (h1 : k < c.1 4) : mP T r k 0 = c.2 k.toNat 0 := by
  have q := h.2.2 k.toNat (by omega)
  rw [Int.toNat_of_nonneg h0] at q; exact q
theorem gk_t (h : ∀ j : Nat, (j : Int) < c.1 4 → tg t (c.2 j 0).toNat = tg u (c.2 j 0).toNat) : gk c t = gk c u := by
  unfold gk; congr 1; funext j
  by_cases w : (j : Int) < c.1 4
  · rw [if_pos w, if_pos w]; exact h j w
  · rw [if_neg w, if_neg w]
theorem gk_k {j : Nat} (h : gk c t = gk c u) (h1 : (j : Int) < c.1 4) (h4 : j < 4) : tg t (c.2 j 0).toNat = tg u (c.2 j 0).toNat := by
  have q : tg (gk c t) j = tg (gk c u) j := by rw [h]
  unfold gk at q; rw [tg_mk j h4, tg_mk j h4, if_pos h1, if_pos h1] at q; exact q
end One
end
section
def rmX7_areOneGroupf : Room := { frames := 1, cells := 0, slots := 0, locals := 23 }
set_option maxHeartbeats 4000000 in
set_option maxRecDepth 100000 in
/-- one group -/
theorem c_X7_areOneGroupf (l : Launch) (g : gG) (gh : gGh) (T : Nat → Int32) (lc : LC) (t u : Tup) (I : gI) (R : gR) (J : gJ) (AI : gI) (AJ : gJ) (AR : gR) (mo : Nat) (rr : Int) (px : Int) (py : Int) (zrr : zr rr) (zpx : zr px) (zpy : zr py) (hv : mInv g gh R I AI) (hm : gO g mo 7) (hT : AI (gh 50 0) = T) (hr0 : 0 ≤ rr ∧ rr < (I mo 2).toInt) (hk : tI T (40 * rr) = 7) (h0 : 0 ≤ px ∧ px + 4 ≤ 126720 ∧ 0 ≤ py ∧ py + 4 ≤ 126720) (hgp : gpM T rr lc) (ht : ∀ j, j < 4 → AI (gh 56 0) (px.toNat + j) = tg t j) (hu : ∀ j, j < 4 → AI (gh 56 0) (py.toNat + j) = tg u j) : gMet l g yX7_areOneGroup tsX7_areOneGroup rmX7_areOneGroupf [.ref mo, .int (iI rr), .int (iI px), .int (iI py)] (I, R, J, AI, AJ, AR) (gQi g (fun (z : Int) (w : gS) => I = w.1 ∧ R = w.2.1 ∧ J = w.2.2.1 ∧ AI = w.2.2.2.1 ∧ AJ = w.2.2.2.2.1 ∧ AR = w.2.2.2.2.2 ∧ (z = 0 ∨ z = 1) ∧ (tIz z (gk lc t = gk lc u)))) := by
  refine gStart (cc := cX7_areOneGroup) (maxL := 5) (ret := (some (.boolean))) (by decide) rfl (Nat.le_of_ble_eq_true rfl) ?_
  intro p e s m below meth c ls F hr hlk hH hz hS hl
  have hl : lv_has ls 5 [(0, .ref mo), (1, .int (iI rr)), (2, .int (iI px)), (3, .int (iI py))] := hl
  have hS : va_S (gA g) s.heap s.heap [] := hS
  obtain ⟨H, hHe⟩ : ∃ H : Heap, H = s.heap := ⟨_, rfl⟩
  obtain ⟨locs, hlo⟩ : ∃ k : List Loc, k = [] := ⟨_, rfl⟩
  have hH : gH g I R J AI AJ AR H := by rw [hHe]; exact hH
  have hS : va_S (gA g) s.heap H locs := by rw [hHe, hlo]; exact hS
  suffices hw : W p l e rmX7_areOneGroupf s m ([.ref mo, .int (iI rr), .int (iI px), .int (iI py)] : List Value).toArray below meth c H locs 0 0 (MQ below (gQi g (fun (z : Int) (w : gS) => I = w.1 ∧ R = w.2.1 ∧ J = w.2.2.1 ∧ AI = w.2.2.2.1 ∧ AJ = w.2.2.2.2.1 ∧ AR = w.2.2.2.2.2 ∧ (z = 0 ∨ z = 1) ∧ (tIz z (gk lc t = gk lc u)))) ([.ref mo, .int (iI rr), .int (iI px), .int (iI py)] : List Value).toArray s 0 0 (gA g)) (F0 m 0 ls []) by
    rw [hHe, hlo] at hw; exact hw
  clear hHe hlo
  have hb0 := mJ hv hm
  unfold mNum1 at hb0
  have x := mRow hv hm hT (z := rr) (by omega) (by omega)
  have xa := x.1
  have xc := x.2.2.1
  have xb := x.2.1 (by omega)
  have x7 := x.2.2.2.2.2.2.2.2.1 (by omega)
  have hgp1 := hgp.1
  have hgp2 := hgp.2.1
  have iX7 : ∀ w ∈ u_ws RX7 TX7 32, w ∈ tsX7_areOneGroup := fun w h => List.mem_cons_of_mem _ (inTB7 w h)
  have k24 : Cond.fieldLink RX7 24 (TX7 6).1 (TX7 6).2.1 (TX7 6).2.2.1 ∈ tsX7_areOneGroup := List.mem_cons_of_mem _ fl_24
  refine z_iconst F dX7_areOneGroup_0 ?_
  refine lv_istore (lv' := [(4, .int (iI 0)), (0, .ref mo), (1, .int (iI rr)), (2, .int (iI px)), (3, .int (iI py))]) F.1 F.2.1 dX7_areOneGroup_1 hl (by decide) rfl (fun ls hl => ?_)
  have cut_3_0 : ∀ (NN : Nat) (k : Int) (H : Heap) (locs : List Loc) (ls : Array Slot), zr k → (0 ≤ k ∧ k ≤ tI T (40 * rr + 4)) → (∀ j : Nat, (j : Int) < k → tg t (lc.2 j 0).toNat = tg u (lc.2 j 0).toNat) → (8 - k) < ((NN : Nat) : Int) → gH g I R J AI AJ AR H → va_S (gA g) s.heap H locs → lv_has ls 5 [(4, .int (iI k)), (0, .ref mo), (1, .int (iI rr)), (2, .int (iI px)), (3, .int (iI py))] → W p l e rmX7_areOneGroupf s m ([.ref mo, .int (iI rr), .int (iI px), .int (iI py)] : List Value).toArray below meth c H locs 0 0 (MQ below (gQi g (fun (z : Int) (w : gS) => I = w.1 ∧ R = w.2.1 ∧ J = w.2.2.1 ∧ AI = w.2.2.2.1 ∧ AJ = w.2.2.2.2.1 ∧ AR = w.2.2.2.2.2 ∧ (z = 0 ∨ z = 1) ∧ (tIz z (gk lc t = gk lc u)))) ([.ref mo, .int (iI rr), .int (iI px), .int (iI py)] : List Value).toArray s 0 0 (gA g)) (F0 m 3 ls []) := by
    intro NN3
    induction NN3 with
    | zero =>
      intro k H locs ls zk hk1 hno hm3 hH hS hl
      exact absurd hm3 (by omega)
    | succ NN3 ih3 =>
      intro k H locs ls zk hk1 hno hm3 hH hS hl
      refine lv_iload F.1 F.2.1 dX7_areOneGroup_3 (lv_at hl 0 rfl) ?_
      refine lv_aload_n F.1 F.2.1 dX7_areOneGroup_5 rfl (lv_at hl 1 rfl) ?_
      refine lv_iload_n F.1 F.2.1 dX7_areOneGroup_6 rfl (lv_at hl 2 rfl) ?_
      have b_2 := mJ hv hm
      unfold mNum1 at b_2
      refine g_calli (g_runV (As := [.int (iI rr)]) (rest := [.int (iI k)]) (ci := 7) F hl.1 hH hS hz (c_X7_partsOf l g gh T I R J AI AJ AR mo rr zrr hv hm hT (by omega)) (cwV 1 F.2.2.2.2.1 (good_up gT_X7_partsOf) rfl rfl rfl hdX7_partsOf ⟨Nat.le_of_ble_eq_true rfl, Nat.le_of_ble_eq_true rfl⟩) hm (by decide) rfl rfl rfl (Nat.le_of_ble_eq_true rfl) dX7_areOneGroup_7 ⟨Nat.zero_le _, Nat.zero_le _⟩) hS (fun v_9 I_3 R_4 J_5 AI_6 AJ_7 AR_8 H locs zv_9 hp_10 hH hS => ?_)
      dsimp only at hp_10
      obtain ⟨rfl, rfl, rfl, rfl, rfl, rfl, q_11⟩ := hp_10
      refine z_icmp_ge (tgt := 54) F dX7_areOneGroup_10 (by decide) zk zv_9 (fun c_12 => ?_) (fun c_12 => ?_)
      · refine z_iconst F dX7_areOneGroup_54 ?_
        exact g_zret F hr hlk hH hS hz (by omega) ⟨rfl, rfl, rfl, rfl, rfl, rfl, by first | omega | rfl | (dsimp only; omega), tIz_t (gk_t (fun j hj => hno j (by omega)))⟩ dX7_areOneGroup_55
      · have q1 := x7.2.1 k (by omega) (by omega)
        refine lv_aload_n F.1 F.2.1 dX7_areOneGroup_13 rfl (lv_at hl 1 rfl) ?_
        obtain ⟨r_13a, r_13b⟩ : R mo 6 = some (gh 56 0) ∧ gAr g (gh 56 0) 9 126720 := mR hv hm (q := (6, 126720)) (by decide)
        refine g_getR (ci := 7) (k := 6) F hH rfl (by decide) iX7 hm (by decide) rfl (b := gh 56 0) r_13a k24 dX7_areOneGroup_14 ?_
        refine lv_iload_n F.1 F.2.1 dX7_areOneGroup_17 rfl (lv_at hl 3 rfl) ?_
        refine lv_aload_n F.1 F.2.1 dX7_areOneGroup_18 rfl (lv_at hl 1 rfl) ?_
        refine lv_iload_n F.1 F.2.1 dX7_areOneGroup_19 rfl (lv_at hl 2 rfl) ?_
        refine lv_iload F.1 F.2.1 dX7_areOneGroup_20 (lv_at hl 0 rfl) ?_
        refine z_iconst F dX7_areOneGroup_22 ?_
        refine g_calli (g_runV (As := [.int (iI rr), .int (iI k), .int (iI 0)]) (rest := [.int (iI px), .ref (gh 56 0)]) (ci := 7) F hl.1 hH hS hz (c_X7_part l g gh T I R J AI AJ AR mo rr k 0 zrr zk ⟨by decide, by decide⟩ hv hm hT (by omega) (by omega) (by omega)) (cwV 3 F.2.2.2.2.1 (good_up gT_X7_part) rfl rfl rfl hdX7_part ⟨Nat.le_of_ble_eq_true rfl, Nat.le_of_ble_eq_true rfl⟩) hm (by decide) rfl rfl rfl (Nat.le_of_ble_eq_true rfl) dX7_areOneGroup_23 ⟨Nat.zero_le _, Nat.zero_le _⟩) hS (fun v_20 I_14 R_15 J_16 AI_17 AJ_18 AR_19 H locs zv_20 hp_21 hH hS => ?_)
        dsimp only at hp_21
        obtain ⟨rfl, rfl, rfl, rfl, rfl, rfl, q_22⟩ := hp_21
        have hpk := gpM_at hgp (k := k) (by omega) (by omega)
        refine z_iadd F dX7_areOneGroup_26 ?_
        have hx27 : 0 ≤ (px + v_20) ∧ (px + v_20) < ((126720 : Nat) : Int) ∧ (px + v_20) ≤ 2147483647 := ⟨by omega, by omega, by omega⟩
        refine g_iald F hH r_13b hx27.1 hx27.2.1 hx27.2.2 dX7_areOneGroup_27 ?_
        refine z_name (fun v_23 ev_23 => ?_)
        have zv_23 : zr v_23 := by rw [ev_23]; exact zr_t _
        have c27 : iI v_23 = tg t (lc.2 k.toNat 0).toNat := by rw [ev_23, iI_self, ← ht _ (by omega)]; congr 1; omega
        refine lv_aload_n F.1 F.2.1 dX7_areOneGroup_28 rfl (lv_at hl 1 rfl) ?_
        refine g_getR (ci := 7) (k := 6) F hH rfl (by decide) iX7 hm (by decide) rfl (b := gh 56 0) r_13a k24 dX7_areOneGroup_29 ?_
        refine lv_iload_n F.1 F.2.1 dX7_areOneGroup_32 rfl (lv_at hl 4 rfl) ?_
        refine lv_aload_n F.1 F.2.1 dX7_areOneGroup_33 rfl (lv_at hl 1 rfl) ?_
        refine lv_iload_n F.1 F.2.1 dX7_areOneGroup_34 rfl (lv_at hl 2 rfl) ?_
        refine lv_iload F.1 F.2.1 dX7_areOneGroup_35 (lv_at hl 0 rfl) ?_
        refine z_iconst F dX7_areOneGroup_37 ?_
        refine g_calli (g_runV (As := [.int (iI rr), .int (iI k), .int (iI 0)]) (rest := [.int (iI py), .ref (gh 56 0), .int (iI v_23)]) (ci := 7) F hl.1 hH hS hz (c_X7_part l g gh T I R J AI AJ AR mo rr k 0 zrr zk ⟨by decide, by decide⟩ hv hm hT (by omega) (by omega) (by omega)) (cwV 3 F.2.2.2.2.1 (good_up gT_X7_part) rfl rfl rfl hdX7_part ⟨Nat.le_of_ble_eq_true rfl, Nat.le_of_ble_eq_true rfl⟩) hm (by decide) rfl rfl rfl (Nat.le_of_ble_eq_true rfl) dX7_areOneGroup_38 ⟨Nat.zero_le _, Nat.zero_le _⟩) hS (fun v_30 I_24 R_25 J_26 AI_27 AJ_28 AR_29 H locs zv_30 hp_31 hH hS => ?_)
        dsimp only at hp_31
        obtain ⟨rfl, rfl, rfl, rfl, rfl, rfl, q_32⟩ := hp_31
        refine z_iadd F dX7_areOneGroup_41 ?_
        have hx42 : 0 ≤ (py + v_30) ∧ (py + v_30) < ((126720 : Nat) : Int) ∧ (py + v_30) ≤ 2147483647 := ⟨by omega, by omega, by omega⟩
        refine g_iald F hH r_13b hx42.1 hx42.2.1 hx42.2.2 dX7_areOneGroup_42 ?_
        refine z_name (fun v_33 ev_33 => ?_)
        have zv_33 : zr v_33 := by rw [ev_33]; exact zr_t _
        have c42 : iI v_33 = tg u (lc.2 k.toNat 0).toNat := by rw [ev_33, iI_self, ← hu _ (by omega)]; congr 1; omega
        refine z_icmp_eq (tgt := 48) F dX7_areOneGroup_43 (by decide) zv_23 zv_33 (fun c_34 => ?_) (fun c_34 => ?_)
        · refine z_iinc (lv' := [(4, .int (iI (k + 1))), (0, .ref mo), (1, .int (iI rr)), (2, .int (iI px)), (3, .int (iI py))]) F dX7_areOneGroup_48 hl (k := 0) rfl (by decide) rfl (fun ls hl => ?_)
          refine z_goto (tgt := 3) F dX7_areOneGroup_51 (by decide) ?_
          exact ih3 (k + 1) H locs ls ⟨by omega, by omega⟩ (by omega) (ix_step (P := fun j => tg t (lc.2 j 0).toNat = tg u (lc.2 j 0).toNat) hno (by omega) (by rw [← c27, ← c42]; congr 1)) (by omega) hH hS (lv_sub hl [0, 1, 2, 3, 4] rfl)
        · refine z_iconst F dX7_areOneGroup_46 ?_
          exact g_zret F hr hlk hH hS hz (by omega) ⟨rfl, rfl, rfl, rfl, rfl, rfl, by first | omega | rfl | (dsimp only; omega), tIz_f (fun h9 => by have h8 := gk_k (j := k.toNat) h9 (by omega) (by omega); rw [← c27, ← c42] at h8; have h7 := congrArg Int32.toInt h8; rw [iI_val zv_23, iI_val zv_33] at h7; omega)⟩ dX7_areOneGroup_47
  exact cut_3_0 (((8 - 0) + 1 : Int).toNat) 0 H locs ls ⟨by decide, by decide⟩ (by omega) (fun j hj => absurd hj (by omega)) (by omega) hH hS (lv_sub hl [0, 1, 2, 3, 4] rfl)
end
section
/-! the reference: a row of a bag -/
theorem hF_at {f F : Nat → Int32} {b : Int} {k p : Int} (h : ∀ q : Nat, q < 720 → f (b.toNat + q) = F q) (hb : 0 ≤ b) (h0 : 0 ≤ k ∧ k < 120) (e : p = b + 6 * k) : ∀ j, j < 4 → f (p.toNat + j) = tg (tup F k.toNat) j := fun j hj => by
  rw [tg_up j hj, ← h _ (by omega)]; congr 1; omega
end
section
def rmX7_isFirstOfGroupf : Room := { frames := 2, cells := 0, slots := 0, locals := 47 }
set_option maxHeartbeats 4000000 in
set_option maxRecDepth 100000 in
/-- the first of its group -/
theorem c_X7_isFirstOfGroupf (l : Launch) (g : gG) (gh : gGh) (T : Nat → Int32) (lc : LC) (bg : Nat → Int32) (I : gI) (R : gR) (J : gJ) (AI : gI) (AJ : gJ) (AR : gR) (mo : Nat) (sd : Int) (rr : Int) (ip : Int) (zsd : zr sd) (zrr : zr rr) (zip : zr ip) (hv : mInv g gh R I AI) (hm : gO g mo 7) (hT : AI (gh 50 0) = T) (hs : 0 ≤ sd ∧ sd ≤ 10) (hr0 : 0 ≤ rr ∧ rr < (I mo 2).toInt) (hk : tI T (40 * rr) = 7) (h0 : 0 ≤ ip ∧ ip ≤ 119) (hgp : gpM T rr lc) (hF : ∀ q : Nat, q < 720 → AI (gh 56 0) ((11520 * sd + 720 * tI T (40 * rr + 2)).toNat + q) = bg q) : gMet l g yX7_isFirstOfGroup tsX7_isFirstOfGroup rmX7_isFirstOfGroupf [.ref mo, .int (iI sd), .int (iI rr), .int (iI ip)] (I, R, J, AI, AJ, AR) (gQi g (fun (z : Int) (w : gS) => I = w.1 ∧ R = w.2.1 ∧ J = w.2.2.1 ∧ AI = w.2.2.2.1 ∧ AJ = w.2.2.2.2.1 ∧ AR = w.2.2.2.2.2 ∧ (z = 0 ∨ z = 1) ∧ (tIz z (∀ j : Nat, (j : Int) < ip → gk lc (tup bg j) ≠ gk lc (tup bg ip.toNat))))) := by
  refine gStart (cc := cX7_isFirstOfGroup) (maxL := 5) (ret := (some (.boolean))) (by decide) rfl (Nat.le_of_ble_eq_true rfl) ?_
  intro p e s m below meth c ls F hr hlk hH hz hS hl
  have hl : lv_has ls 5 [(0, .ref mo), (1, .int (iI sd)), (2, .int (iI rr)), (3, .int (iI ip))] := hl
  have hS : va_S (gA g) s.heap s.heap [] := hS
  obtain ⟨H, hHe⟩ : ∃ H : Heap, H = s.heap := ⟨_, rfl⟩
  obtain ⟨locs, hlo⟩ : ∃ k : List Loc, k = [] := ⟨_, rfl⟩
  have hH : gH g I R J AI AJ AR H := by rw [hHe]; exact hH
  have hS : va_S (gA g) s.heap H locs := by rw [hHe, hlo]; exact hS
  suffices hw : W p l e rmX7_isFirstOfGroupf s m ([.ref mo, .int (iI sd), .int (iI rr), .int (iI ip)] : List Value).toArray below meth c H locs 0 0 (MQ below (gQi g (fun (z : Int) (w : gS) => I = w.1 ∧ R = w.2.1 ∧ J = w.2.2.1 ∧ AI = w.2.2.2.1 ∧ AJ = w.2.2.2.2.1 ∧ AR = w.2.2.2.2.2 ∧ (z = 0 ∨ z = 1) ∧ (tIz z (∀ j : Nat, (j : Int) < ip → gk lc (tup bg j) ≠ gk lc (tup bg ip.toNat))))) ([.ref mo, .int (iI sd), .int (iI rr), .int (iI ip)] : List Value).toArray s 0 0 (gA g)) (F0 m 0 ls []) by
    rw [hHe, hlo] at hw; exact hw
  clear hHe hlo
  have hb0 := mJ hv hm
  unfold mNum1 at hb0
  have x := mRow hv hm hT (z := rr) (by omega) (by omega)
  have xa := x.1
  have xc := x.2.2.1
  have xb := x.2.1 (by omega)
  have x7 := x.2.2.2.2.2.2.2.2.1 (by omega)
  refine z_iconst F dX7_isFirstOfGroup_0 ?_
  refine lv_istore (lv' := [(4, .int (iI 0)), (0, .ref mo), (1, .int (iI sd)), (2, .int (iI rr)), (3, .int (iI ip))]) F.1 F.2.1 dX7_isFirstOfGroup_1 hl (by decide) rfl (fun ls hl => ?_)
  have cut_3_0 : ∀ (NN : Nat) (k : Int) (H : Heap) (locs : List Loc) (ls : Array Slot), zr k → (0 ≤ k ∧ k ≤ ip) → (∀ j : Nat, (j : Int) < k → gk lc (tup bg j) ≠ gk lc (tup bg ip.toNat)) → (ip - k) < ((NN : Nat) : Int) → gH g I R J AI AJ AR H → va_S (gA g) s.heap H locs → lv_has ls 5 [(4, .int (iI k)), (0, .ref mo), (1, .int (iI sd)), (2, .int (iI rr)), (3, .int (iI ip))] → W p l e rmX7_isFirstOfGroupf s m ([.ref mo, .int (iI sd), .int (iI rr), .int (iI ip)] : List Value).toArray below meth c H locs 0 0 (MQ below (gQi g (fun (z : Int) (w : gS) => I = w.1 ∧ R = w.2.1 ∧ J = w.2.2.1 ∧ AI = w.2.2.2.1 ∧ AJ = w.2.2.2.2.1 ∧ AR = w.2.2.2.2.2 ∧ (z = 0 ∨ z = 1) ∧ (tIz z (∀ j : Nat, (j : Int) < ip → gk lc (tup bg j) ≠ gk lc (tup bg ip.toNat))))) ([.ref mo, .int (iI sd), .int (iI rr), .int (iI ip)] : List Value).toArray s 0 0 (gA g)) (F0 m 3 ls []) := by
    intro NN3
    induction NN3 with
    | zero =>
      intro k H locs ls zk hk1 hno hm3 hH hS hl
      exact absurd hm3 (by omega)
    | succ NN3 ih3 =>
      intro k H locs ls zk hk1 hno hm3 hH hS hl
      refine lv_iload F.1 F.2.1 dX7_isFirstOfGroup_3 (lv_at hl 0 rfl) ?_
      refine lv_iload_n F.1 F.2.1 dX7_isFirstOfGroup_5 rfl (lv_at hl 4 rfl) ?_
      refine z_icmp_ge (tgt := 46) F dX7_isFirstOfGroup_6 (by decide) zk zip (fun c_2 => ?_) (fun c_2 => ?_)
      · refine z_iconst F dX7_isFirstOfGroup_46 ?_
        exact g_zret F hr hlk hH hS hz (by omega) ⟨rfl, rfl, rfl, rfl, rfl, rfl, by first | omega | rfl | (dsimp only; omega), tIz_t (fun j hj => hno j (by omega))⟩ dX7_isFirstOfGroup_47
      · refine lv_aload_n F.1 F.2.1 dX7_isFirstOfGroup_9 rfl (lv_at hl 1 rfl) ?_
        refine lv_iload_n F.1 F.2.1 dX7_isFirstOfGroup_10 rfl (lv_at hl 3 rfl) ?_
        refine lv_iload_n F.1 F.2.1 dX7_isFirstOfGroup_11 rfl (lv_at hl 2 rfl) ?_
        refine lv_aload_n F.1 F.2.1 dX7_isFirstOfGroup_12 rfl (lv_at hl 1 rfl) ?_
        refine lv_iload_n F.1 F.2.1 dX7_isFirstOfGroup_13 rfl (lv_at hl 3 rfl) ?_
        have b_3 := mJ hv hm
        unfold mNum1 at b_3
        refine g_calli (g_runV (As := [.int (iI rr)]) (rest := [.int (iI sd), .int (iI rr), .ref mo]) (ci := 7) F hl.1 hH hS hz (c_X7_firstOf l g gh T I R J AI AJ AR mo rr zrr hv hm hT (by omega)) (cwV 1 F.2.2.2.2.1 (good_up gT_X7_firstOf) rfl rfl rfl hdX7_firstOf ⟨Nat.le_of_ble_eq_true rfl, Nat.le_of_ble_eq_true rfl⟩) hm (by decide) rfl rfl rfl (Nat.le_of_ble_eq_true rfl) dX7_isFirstOfGroup_14 ⟨Nat.zero_le _, Nat.zero_le _⟩) hS (fun v_10 I_4 R_5 J_6 AI_7 AJ_8 AR_9 H locs zv_10 hp_11 hH hS => ?_)
        dsimp only at hp_11
        obtain ⟨rfl, rfl, rfl, rfl, rfl, rfl, q_12⟩ := hp_11
        refine lv_iload F.1 F.2.1 dX7_isFirstOfGroup_17 (lv_at hl 0 rfl) ?_
        refine g_calli (g_runS (As := [.int (iI sd), .int (iI v_10), .int (iI k)]) (rest := [.int (iI rr), .ref mo]) F hl.1 hH hS hz (c_X7_spot l g  I R J AI AJ AR sd v_10 k zsd zv_10 zk (by omega) (by omega) (by omega)) (va_cwS 3 F.2.2.2.2.1 (good_up gT_X7_spot) rfl rfl rfl hdX7_spot.2 ⟨Nat.le_of_ble_eq_true rfl, Nat.le_of_ble_eq_true rfl⟩) rfl rfl (Nat.le_of_ble_eq_true rfl) dX7_isFirstOfGroup_19 ⟨Nat.zero_le _, Nat.zero_le _⟩) hS (fun v_19 I_13 R_14 J_15 AI_16 AJ_17 AR_18 H locs zv_19 hp_20 hH hS => ?_)
        dsimp only at hp_20
        obtain ⟨rfl, rfl, rfl, rfl, rfl, rfl, q_21⟩ := hp_20
        refine lv_iload_n F.1 F.2.1 dX7_isFirstOfGroup_22 rfl (lv_at hl 2 rfl) ?_
        refine lv_aload_n F.1 F.2.1 dX7_isFirstOfGroup_23 rfl (lv_at hl 1 rfl) ?_
        refine lv_iload_n F.1 F.2.1 dX7_isFirstOfGroup_24 rfl (lv_at hl 3 rfl) ?_
        refine g_calli (g_runV (As := [.int (iI rr)]) (rest := [.int (iI sd), .int (iI v_19), .int (iI rr), .ref mo]) (ci := 7) F hl.1 hH hS hz (c_X7_firstOf l g gh T I R J AI AJ AR mo rr zrr hv hm hT (by omega)) (cwV 1 F.2.2.2.2.1 (good_up gT_X7_firstOf) rfl rfl rfl hdX7_firstOf ⟨Nat.le_of_ble_eq_true rfl, Nat.le_of_ble_eq_true rfl⟩) hm (by decide) rfl rfl rfl (Nat.le_of_ble_eq_true rfl) dX7_isFirstOfGroup_25 ⟨Nat.zero_le _, Nat.zero_le _⟩) hS (fun v_28 I_22 R_23 J_24 AI_25 AJ_26 AR_27 H locs zv_28 hp_29 hH hS => ?_)
        dsimp only at hp_29
        obtain ⟨rfl, rfl, rfl, rfl, rfl, rfl, q_30⟩ := hp_29
        refine lv_iload_n F.1 F.2.1 dX7_isFirstOfGroup_28 rfl (lv_at hl 4 rfl) ?_
        refine g_calli (g_runS (As := [.int (iI sd), .int (iI v_28), .int (iI ip)]) (rest := [.int (iI v_19), .int (iI rr), .ref mo]) F hl.1 hH hS hz (c_X7_spot l g  I R J AI AJ AR sd v_28 ip zsd zv_28 zip (by omega) (by omega) (by omega)) (va_cwS 3 F.2.2.2.2.1 (good_up gT_X7_spot) rfl rfl rfl hdX7_spot.2 ⟨Nat.le_of_ble_eq_true rfl, Nat.le_of_ble_eq_true rfl⟩) rfl rfl (Nat.le_of_ble_eq_true rfl) dX7_isFirstOfGroup_29 ⟨Nat.zero_le _, Nat.zero_le _⟩) hS (fun v_37 I_31 R_32 J_33 AI_34 AJ_35 AR_36 H locs zv_37 hp_38 hH hS => ?_)
        dsimp only at hp_38
        obtain ⟨rfl, rfl, rfl, rfl, rfl, rfl, q_39⟩ := hp_38
        refine g_calli (g_runV (As := [.int (iI rr), .int (iI v_19), .int (iI v_37)]) (rest := []) (ci := 7) F hl.1 hH hS hz (c_X7_areOneGroupf l g gh T lc (tup bg k.toNat) (tup bg ip.toNat) I R J AI AJ AR mo rr v_19 v_37 zrr zv_19 zv_37 hv hm hT (by omega) (by omega) (by omega) hgp (hF_at hF (by omega) (by omega) (by omega)) (hF_at hF (by omega) (by omega) (by omega))) (cwV 3 F.2.2.2.2.1 (good_up gT_X7_areOneGroup) rfl rfl rfl hdX7_areOneGroup ⟨Nat.le_of_ble_eq_true rfl, Nat.le_of_ble_eq_true rfl⟩) hm (by decide) rfl rfl rfl (Nat.le_of_ble_eq_true rfl) dX7_isFirstOfGroup_32 ⟨Nat.zero_le _, Nat.zero_le _⟩) hS (fun v_46 I_40 R_41 J_42 AI_43 AJ_44 AR_45 H locs zv_46 hp_47 hH hS => ?_)
        dsimp only at hp_47
        obtain ⟨rfl, rfl, rfl, rfl, rfl, rfl, q_48, qog⟩ := hp_47
        refine z_if_eq (tgt := 40) F dX7_isFirstOfGroup_35 (by decide) zv_46 (fun c_49 => ?_) (fun c_49 => ?_)
        · refine z_iinc (lv' := [(4, .int (iI (k + 1))), (0, .ref mo), (1, .int (iI sd)), (2, .int (iI rr)), (3, .int (iI ip))]) F dX7_isFirstOfGroup_40 hl (k := 0) rfl (by decide) rfl (fun ls hl => ?_)
          refine z_goto (tgt := 3) F dX7_isFirstOfGroup_43 (by decide) ?_
          exact ih3 (k + 1) H locs ls ⟨by omega, by omega⟩ (by omega) (ix_step (P := fun j => gk lc (tup bg j) ≠ gk lc (tup bg ip.toNat)) hno (by omega) (by rcases qog with ⟨h8, _⟩ | ⟨_, h8⟩ <;> first | exact h8 | omega)) (by omega) hH hS (lv_sub hl [0, 1, 2, 3, 4] rfl)
        · refine z_iconst F dX7_isFirstOfGroup_38 ?_
          exact g_zret F hr hlk hH hS hz (by omega) ⟨rfl, rfl, rfl, rfl, rfl, rfl, by first | omega | rfl | (dsimp only; omega), tIz_f (fun h9 => h9 k.toNat (by omega) (by rcases qog with ⟨_, h8⟩ | ⟨h8, _⟩ <;> first | exact h8 | omega))⟩ dX7_isFirstOfGroup_39
  exact cut_3_0 (((ip - 0) + 1 : Int).toNat) 0 H locs ls ⟨by decide, by decide⟩ (by omega) (fun j hj => absurd hj (by omega)) (by omega) hH hS (lv_sub hl [0, 1, 2, 3, 4] rfl)
end
section
/-! the reference: what is laid is a bag -/
section Laid
variable {f g g' : Nat → Int32} {b n : Nat} {P : Tup → Prop} {S M : Tup → Int32}
theorem wC_ex : ∀ (n q : Nat), (q : Int) < wCnt f n → ∃ r : Nat, r < n ∧ f (6 * r + 4) ≠ 0 ∧ wCnt f r = (q : Int)
  | 0, q, h => by rw [wCnt] at h; omega
  | n + 1, q, h => by
    by_cases w : (q : Int) < wCnt f n
    · obtain ⟨r, h1, h2, h3⟩ := wC_ex n q w
      exact ⟨r, by omega, h2, h3⟩
    · rw [wCnt] at h
      by_cases z : tI f (6 * (n : Int) + 4) = 0
      · rw [if_pos z] at h; omega
      · rw [if_neg z] at h
        refine ⟨n, by omega, fun e => z ?_, by omega⟩
        unfold tI; rw [show (6 * (n : Int) + 4).toNat = 6 * n + 4 by omega, e]; rfl
theorem layP_B (hw : isW f n P S M) (h : layP f g g' b (n : Int) 0) (h0 : ∀ t, S t ≠ 0 → P t) : isB (fun q => g' (b + q)) (wCnt f n).toNat S M := by
  have row : ∀ q : Nat, q < (wCnt f n).toNat → ∃ r : Nat, r < n ∧ f (6 * r + 4) ≠ 0 ∧ wCnt f r = (q : Int) ∧ rwS (fun q => g' (b + q)) q f r := fun q hq => by
    obtain ⟨r, h1, h2, h3⟩ := wC_ex (f := f) n q (by omega)
    refine ⟨r, h1, h2, h3, fun j hj => ?_⟩
    have e := h.1 r (by omega) h2 j hj
    rw [h3, show ((q : Nat) : Int).toNat = q by omega] at e
    show g' (b + (6 * q + j)) = _
    rw [← Nat.add_assoc]; exact e
  refine ⟨fun i j hij hj => ?_, fun i hi => ?_, fun t ht => ?_⟩
  · obtain ⟨r1, a1, _, a3, a4⟩ := row i (by omega)
    obtain ⟨r2, c1, _, c3, c4⟩ := row j hj
    have lt : r1 < r2 := by
      refine Nat.lt_of_not_le fun q => ?_
      have := wCnt_le (f := f) q
      omega
    rw [rwS_t a4, rwS_t c4]; exact hw.1 r1 r2 lt c1
  · obtain ⟨r, a1, a2, _, a4⟩ := row i hi
    have q := hw.2.1 r a1
    rw [rwS_t a4]
    refine ⟨fun e => a2 (by rw [q.2.1]; exact e), ?_, ?_⟩
    · rw [← q.2.1]; exact a4 4 (by omega)
    · rw [← q.2.2]; exact a4 5 (by omega)
  · obtain ⟨r, hr, e⟩ := hw.2.2 t (h0 t ht)
    have q := (hw.2.1 r hr).2.1
    have nz : f (6 * r + 4) ≠ 0 := by rw [q, e]; exact ht
    have lt := wC_lt (f := f) hr nz
    have p := wCnt_0 (f := f) (a := r)
    refine ⟨(wCnt f r).toNat, by omega, ?_⟩
    rw [← e]
    refine tg_x fun k hk => ?_
    rw [tg_up k hk, tg_up k hk]
    show g' (b + (6 * (wCnt f r).toNat + k)) = _
    rw [← Nat.add_assoc]; exact h.1 r (by omega) nz k (by omega)
end Laid
end
