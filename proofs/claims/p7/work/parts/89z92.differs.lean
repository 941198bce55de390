def rmX7_differsf : Room := { frames := 6, cells := 0, slots := 0, locals := 159 }
set_option maxHeartbeats 4000000 in
set_option maxRecDepth 100000 in
/-- differs -/
theorem c_X7_differsf (l : Launch) (g : gG) (gh : gGh) (T : Nat → Int32) (tbs : Int) (nr : Nat) (cc : Nat → LC) (cl : Nat → Int) (I : gI) (R : gR) (J : gJ) (AI : gI) (AJ : gJ) (AR : gR) (mo : Nat) (rr : Int) (zrr : zr rr) (hv : mInv g gh R I AI) (hm : gO g mo 7) (hT : AI (gh 50 0) = T) (hmr : (I mo 2).toInt = (nr : Int)) (hpl : plM9 T tbs nr cc cl) (hbg : ∀ r : Nat, r < nr → bgOK (rfM gh AI 0) cl r) (hvw0 : ∀ r : Nat, r < nr → tbs ≤ (r : Int) → vwP (cc r) (rfM gh AI 0) 0 (rfM gh AI 0 r).2 (rfM gh AI 0 r).1) : gMet l g yX7_differs tsX7_differs rmX7_differsf [.ref mo, .int (iI rr)] (I, R, J, AI, AJ, AR) (gQi g (fun (z : Int) (w : gS) => R = w.2.1 ∧ J = w.2.2.1 ∧ AJ = w.2.2.2.2.1 ∧ AR = w.2.2.2.2.2 ∧ (mInv g gh R (w.1) (w.2.2.2.1)) ∧ ((w.2.2.2.1) (gh 50 0) = T) ∧ (nF mo I (w.1)) ∧ (((rr < 0 ∨ (nr : Int) ≤ rr) ∧ z = -1 ∧ (w.2.2.2.1) = AI) ∨ ((0 ≤ rr ∧ rr < (nr : Int)) ∧ z = 0 ∧ sdK gh AI (w.2.2.2.1) ∧ noZ gh AI (w.2.2.2.1))))) := by
  refine gStart (cc := cX7_differs) (maxL := 7) (ret := (some (.int))) (by decide) rfl (Nat.le_of_ble_eq_true rfl) ?_
  intro p e s m below meth c ls F hr hlk hH hz hS hl
  have hl : lv_has ls 7 [(0, .ref mo), (1, .int (iI rr))] := hl
  have hS : va_S (gA g) s.heap s.heap [] := hS
  obtain ⟨H, hHe⟩ : ∃ H : Heap, H = s.heap := ⟨_, rfl⟩
  obtain ⟨locs, hlo⟩ : ∃ k : List Loc, k = [] := ⟨_, rfl⟩
  have hH : gH g I R J AI AJ AR H := by rw [hHe]; exact hH
  have hS : va_S (gA g) s.heap H locs := by rw [hHe, hlo]; exact hS
  suffices hw : W p l e rmX7_differsf s m ([.ref mo, .int (iI rr)] : List Value).toArray below meth c H locs 0 0 (MQ below (gQi g (fun (z : Int) (w : gS) => R = w.2.1 ∧ J = w.2.2.1 ∧ AJ = w.2.2.2.2.1 ∧ AR = w.2.2.2.2.2 ∧ (mInv g gh R (w.1) (w.2.2.2.1)) ∧ ((w.2.2.2.1) (gh 50 0) = T) ∧ (nF mo I (w.1)) ∧ (((rr < 0 ∨ (nr : Int) ≤ rr) ∧ z = -1 ∧ (w.2.2.2.1) = AI) ∨ ((0 ≤ rr ∧ rr < (nr : Int)) ∧ z = 0 ∧ sdK gh AI (w.2.2.2.1) ∧ noZ gh AI (w.2.2.2.1))))) ([.ref mo, .int (iI rr)] : List Value).toArray s 0 0 (gA g)) (F0 m 0 ls []) by
    rw [hHe, hlo] at hw; exact hw
  clear hHe hlo
  have nf : nF mo I I := nF_r
  have hp1 := hpl.1
  have hb0 := mJ hv hm
  unfold mNum1 at hb0
  have iX7 : ∀ w ∈ u_ws RX7 TX7 32, w ∈ tsX7_differs := fun w h => List.mem_cons_of_mem _ (inTB7 w h)
  have k60 : Cond.fieldLink RX7 60 (TX7 17).1 (TX7 17).2.1 (TX7 17).2.2.1 ∈ tsX7_differs := List.mem_cons_of_mem _ fl_60
  have k24 : Cond.fieldLink RX7 24 (TX7 6).1 (TX7 6).2.1 (TX7 6).2.2.1 ∈ tsX7_differs := List.mem_cons_of_mem _ fl_24
  refine lv_aload_n F.1 F.2.1 dX7_differs_0 rfl (lv_at hl 0 rfl) ?_
  refine z_iconst F dX7_differs_1 ?_
  refine g_putI (ci := 7) (k := 17) F hH hS rfl (by decide) iX7 hm (by decide) tyX7 tyX7_ok nmX7 rfl rfl rfl k60 dX7_differs_2 (fun H locs hH hS => ?_)
  obtain ⟨I_1, eI_1⟩ : ∃ qQ, qQ = gup2 I mo 17 (iI (0)) := ⟨_, rfl⟩
  rw [← eI_1] at hH
  have kI_1 : ∀ b, b ≠ mo → I_1 b = I b := fun b hb => by rw [eI_1]; exact funext fun j => gup2_a _ _ hb
  have w_2 : (I_1 mo 17).toInt = 0 := by rw [eI_1, gup2_s]; exact iI_val ⟨by decide, by decide⟩
  have hv : mInv g gh R I_1 AI := by rw [eI_1]; exact mP17 hv hm
  have nf : nF mo I I_1 := nF_t nf (by rw [eI_1]; exact nF_p (by decide))
  have u_3_2 : (I_1 mo 2).toInt = (I mo 2).toInt := by rw [nf 2 (by decide) (by decide) (by decide) (by decide) (by decide)]
  have u_3_5 : (I_1 mo 5).toInt = (I mo 5).toInt := by rw [nf 5 (by decide) (by decide) (by decide) (by decide) (by decide)]
  have u_3_14 : (I_1 mo 14).toInt = (I mo 14).toInt := by rw [nf 14 (by decide) (by decide) (by decide) (by decide) (by decide)]
  have u_3_16 : (I_1 mo 16).toInt = (I mo 16).toInt := by rw [nf 16 (by decide) (by decide) (by decide) (by decide) (by decide)]
  have u_3_24 : (I_1 mo 24).toInt = (I mo 24).toInt := by rw [nf 24 (by decide) (by decide) (by decide) (by decide) (by decide)]
  refine lv_aload_n F.1 F.2.1 dX7_differs_5 rfl (lv_at hl 0 rfl) ?_
  refine lv_iload_n F.1 F.2.1 dX7_differs_6 rfl (lv_at hl 1 rfl) ?_
  have b_4 := mJ hv hm
  unfold mNum1 at b_4
  refine g_calli (g_runV (As := [.int (iI rr)]) (rest := []) (ci := 7) F hl.1 hH hS hz (c_X7_isRelationf l g gh T I_1 R J AI AJ AR mo rr zrr hv hm hT) (cwV 1 F.2.2.2.2.1 (good_up gT_X7_isRelation) rfl rfl rfl hdX7_isRelation ⟨Nat.le_of_ble_eq_true rfl, Nat.le_of_ble_eq_true rfl⟩) hm (by decide) rfl rfl rfl (Nat.le_of_ble_eq_true rfl) dX7_differs_7 ⟨Nat.zero_le _, Nat.zero_le _⟩) hS (fun v_11 I_5 R_6 J_7 AI_8 AJ_9 AR_10 H locs zv_11 hp_12 hH hS => ?_)
  dsimp only at hp_12
  obtain ⟨rfl, rfl, rfl, rfl, rfl, rfl, q_13, qis⟩ := hp_12
  refine z_if_ne (tgt := 15) F dX7_differs_10 (by decide) zv_11 (fun c_14 => ?_) (fun c_14 => ?_)
  · refine lv_aload_n F.1 F.2.1 dX7_differs_15 rfl (lv_at hl 0 rfl) ?_
    refine z_iconst F dX7_differs_16 ?_
    refine z_bipush F dX7_differs_17 (by decide) ?_
    refine g_callv (g_runV (As := [.int (iI 0), .int (iI 10)]) (rest := []) (ci := 7) F hl.1 hH hS hz (c_X7_copiesf l g gh T I_1 R J AI AJ AR mo 0 10 ⟨by decide, by decide⟩ ⟨by decide, by decide⟩ hv hm hT (by omega)) (cwV 2 F.2.2.2.2.1 (good_up gT_X7_copies) rfl rfl rfl hdX7_copies ⟨Nat.le_of_ble_eq_true rfl, Nat.le_of_ble_eq_true rfl⟩) hm (by decide) rfl rfl rfl (Nat.le_of_ble_eq_true rfl) dX7_differs_19 ⟨Nat.zero_le _, Nat.zero_le _⟩) hS (fun I_15 R_16 J_17 AI_18 AJ_19 AR_20 H locs hp_21 hH hS => ?_)
    dsimp only at hp_21
    obtain ⟨rfl, rfl, rfl, rfl, rfl, hv, hT, qcp⟩ := hp_21
    have hdf : dfI gh AI AI_18 nr := df_0 (fun q hq => cp_to qcp ⟨by decide, by decide⟩ hq) (by omega)
    have hsk := sdK_c qcp
    have hnz := noZ_c qcp
    refine lv_aload_n F.1 F.2.1 dX7_differs_22 rfl (lv_at hl 0 rfl) ?_
    refine g_calli (g_runV (As := []) (rest := []) (ci := 7) F hl.1 hH hS hz (c_X7_tablesf l g gh T I_1 R J AI_18 AJ AR mo hv hm hT) (cwV 0 F.2.2.2.2.1 (good_up gT_X7_tables) rfl rfl rfl hdX7_tables ⟨Nat.le_of_ble_eq_true rfl, Nat.le_of_ble_eq_true rfl⟩) hm (by decide) rfl rfl rfl (Nat.le_of_ble_eq_true rfl) dX7_differs_23 ⟨Nat.zero_le _, Nat.zero_le _⟩) hS (fun v_28 I_22 R_23 J_24 AI_25 AJ_26 AR_27 H locs zv_28 hp_29 hH hS => ?_)
    dsimp only at hp_29
    obtain ⟨rfl, rfl, rfl, rfl, rfl, rfl, q_30, hvw, qtt⟩ := hp_29
    obtain ⟨tb, etb⟩ : ∃ q, q = v_28 := ⟨_, rfl⟩
    have ht23 : v_28 = tbs := tb_eq (many := (I mo 2).toInt) (by omega) (fun r h1 h2 => hvw r h1 (by omega)) qtt (by omega) hpl.2.1 (pl_6 hpl hmr)
    refine lv_istore_n (lv' := [(2, .int (iI v_28)), (0, .ref mo), (1, .int (iI rr))]) F.1 F.2.1 dX7_differs_26 rfl hl (by decide) rfl (fun ls hl => ?_)
    have cut_27_32 : ∀ (NN : Nat) (k : Int) (I_31 : gI) (AI_32 : gI) (H : Heap) (locs : List Loc) (ls : Array Slot), zr k → (mInv g gh R I_31 AI_32) → (AI_32 (gh 50 0) = T) → (nF mo I I_31) → (tb ≤ k ∧ k ≤ 17) → (dfI gh AI AI_32 nr) → (sdK gh AI AI_32) → (noZ gh AI AI_32) → (17 - k) < ((NN : Nat) : Int) → gH g I_31 R J AI_32 AJ AR H → va_S (gA g) s.heap H locs → lv_has ls 7 [(2, .int (iI k)), (0, .ref mo), (1, .int (iI rr))] → W p l e rmX7_differsf s m ([.ref mo, .int (iI rr)] : List Value).toArray below meth c H locs 0 0 (MQ below (gQi g (fun (z : Int) (w : gS) => R = w.2.1 ∧ J = w.2.2.1 ∧ AJ = w.2.2.2.2.1 ∧ AR = w.2.2.2.2.2 ∧ (mInv g gh R (w.1) (w.2.2.2.1)) ∧ ((w.2.2.2.1) (gh 50 0) = T) ∧ (nF mo I (w.1)) ∧ (((rr < 0 ∨ (nr : Int) ≤ rr) ∧ z = -1 ∧ (w.2.2.2.1) = AI) ∨ ((0 ≤ rr ∧ rr < (nr : Int)) ∧ z = 0 ∧ sdK gh AI (w.2.2.2.1) ∧ noZ gh AI (w.2.2.2.1))))) ([.ref mo, .int (iI rr)] : List Value).toArray s 0 0 (gA g)) (F0 m 27 ls []) := by
      intro NN27
      induction NN27 with
      | zero =>
        intro k I_31 AI_32 H locs ls zk hv hT nf hk hdf hsk hnz hm27 hH hS hl
        exact absurd hm27 (by omega)
      | succ NN27 ih27 =>
        intro k I_31 AI_32 H locs ls zk hv hT nf hk hdf hsk hnz hm27 hH hS hl
        have uc_2 : (I_31 mo 2).toInt = (I mo 2).toInt := by rw [nf 2 (by decide) (by decide) (by decide) (by decide) (by decide)]
        have uc_5 : (I_31 mo 5).toInt = (I mo 5).toInt := by rw [nf 5 (by decide) (by decide) (by decide) (by decide) (by decide)]
        have uc_14 : (I_31 mo 14).toInt = (I mo 14).toInt := by rw [nf 14 (by decide) (by decide) (by decide) (by decide) (by decide)]
        have uc_16 : (I_31 mo 16).toInt = (I mo 16).toInt := by rw [nf 16 (by decide) (by decide) (by decide) (by decide) (by decide)]
        have uc_24 : (I_31 mo 24).toInt = (I mo 24).toInt := by rw [nf 24 (by decide) (by decide) (by decide) (by decide) (by decide)]
        refine lv_iload_n F.1 F.2.1 dX7_differs_27 rfl (lv_at hl 0 rfl) ?_
        refine lv_iload_n F.1 F.2.1 dX7_differs_28 rfl (lv_at hl 2 rfl) ?_
        refine z_icmp_gt (tgt := 55) F dX7_differs_29 (by decide) zk zrr (fun c_34 => ?_) (fun c_34 => ?_)
        · have hdr := hdf rr.toNat (by omega)
          have hok := (hbg rr.toNat (by omega)).1
          have h120 := (hbg rr.toNat (by omega)).2.1
          have e79 : rfM gh AI_32 0 rr.toNat = (rfM gh AI 0 rr.toNat) := rs_rf (rsM_k hsk ⟨by decide, by decide⟩ (by omega))
          have hn9 : (rfM gh AI_32 10 rr.toNat).1 = (rfM gh AI 0 rr.toNat).1 := hdr.1
          have hw9 : rwA (rfM gh AI_32 10 rr.toNat).2 (rfM gh AI 0 rr.toNat).2 (rfM gh AI 0 rr.toNat).1 := by rw [← hn9]; exact hdr.2
          refine lv_aload_n F.1 F.2.1 dX7_differs_55 rfl (lv_at hl 1 rfl) ?_
          refine z_iconst F dX7_differs_56 ?_
          refine lv_iload_n F.1 F.2.1 dX7_differs_57 rfl (lv_at hl 2 rfl) ?_
          have b_35 := mJ hv hm
          unfold mNum1 at b_35
          refine g_calli (g_runV (As := [.int (iI 0), .int (iI rr)]) (rest := []) (ci := 7) F hl.1 hH hS hz (c_X7_sizeOf l g gh T I_31 R J AI_32 AJ AR mo 0 rr ⟨by decide, by decide⟩ zrr hv hm hT (by omega) (by omega)) (cwV 2 F.2.2.2.2.1 (good_up gT_X7_sizeOf) rfl rfl rfl hdX7_sizeOf ⟨Nat.le_of_ble_eq_true rfl, Nat.le_of_ble_eq_true rfl⟩) hm (by decide) rfl rfl rfl (Nat.le_of_ble_eq_true rfl) dX7_differs_58 ⟨Nat.zero_le _, Nat.zero_le _⟩) hS (fun v_42 I_36 R_37 J_38 AI_39 AJ_40 AR_41 H locs zv_42 hp_43 hH hS => ?_)
          dsimp only at hp_43
          obtain ⟨rfl, rfl, rfl, rfl, rfl, rfl, q_44, qsz58⟩ := hp_43
          have hs580 : v_42 = (((rfM gh AI_32 0 rr.toNat).1 : Nat) : Int) := by rw [rfM_1 (by omega), qsz58]; unfold tI; have h8 := (mSz hv hm (z := 16 * 0 + rr) (by omega) (by omega)).1; omega
          have hs58 : v_42 = (((rfM gh AI 0 rr.toNat).1 : Nat) : Int) := by rw [hs580, e79]
          refine lv_aload_n F.1 F.2.1 dX7_differs_61 rfl (lv_at hl 1 rfl) ?_
          refine z_bipush F dX7_differs_62 (by decide) ?_
          refine lv_iload_n F.1 F.2.1 dX7_differs_64 rfl (lv_at hl 2 rfl) ?_
          refine g_calli (g_runV (As := [.int (iI 10), .int (iI rr)]) (rest := [.int (iI v_42)]) (ci := 7) F hl.1 hH hS hz (c_X7_sizeOf l g gh T I_31 R J AI_32 AJ AR mo 10 rr ⟨by decide, by decide⟩ zrr hv hm hT (by omega) (by omega)) (cwV 2 F.2.2.2.2.1 (good_up gT_X7_sizeOf) rfl rfl rfl hdX7_sizeOf ⟨Nat.le_of_ble_eq_true rfl, Nat.le_of_ble_eq_true rfl⟩) hm (by decide) rfl rfl rfl (Nat.le_of_ble_eq_true rfl) dX7_differs_65 ⟨Nat.zero_le _, Nat.zero_le _⟩) hS (fun v_51 I_45 R_46 J_47 AI_48 AJ_49 AR_50 H locs zv_51 hp_52 hH hS => ?_)
          dsimp only at hp_52
          obtain ⟨rfl, rfl, rfl, rfl, rfl, rfl, q_53, qsz65⟩ := hp_52
          have hs650 : v_51 = (((rfM gh AI_32 10 rr.toNat).1 : Nat) : Int) := by rw [rfM_1 (by omega), qsz65]; unfold tI; have h8 := (mSz hv hm (z := 16 * 10 + rr) (by omega) (by omega)).1; omega
          have hs65 : v_51 = (((rfM gh AI 0 rr.toNat).1 : Nat) : Int) := by rw [hs650, hn9]
          refine z_iadd F dX7_differs_68 ?_
          refine lv_istore_n (lv' := [(2, .int (iI (v_42 + v_51))), (0, .ref mo), (1, .int (iI rr))]) F.1 F.2.1 dX7_differs_69 rfl hl (by decide) rfl (fun ls hl => ?_)
          refine z_iconst F dX7_differs_70 ?_
          refine lv_istore_n (lv' := [(3, .int (iI 0)), (2, .int (iI (v_42 + v_51))), (0, .ref mo), (1, .int (iI rr))]) F.1 F.2.1 dX7_differs_71 rfl hl (by decide) rfl (fun ls hl => ?_)
          have cut_72_53 : ∀ (NN : Nat) (n i : Int) (H : Heap) (locs : List Loc) (ls : Array Slot), zr n → zr i → (0 ≤ i ∧ i ≤ 120) → (n = 2 * (((rfM gh AI 0 rr.toNat).1 : Nat) : Int) - 2 * i ∧ i ≤ (((rfM gh AI 0 rr.toNat).1 : Nat) : Int)) → (120 - i) < ((NN : Nat) : Int) → gH g I_31 R J AI_32 AJ AR H → va_S (gA g) s.heap H locs → lv_has ls 7 [(3, .int (iI i)), (2, .int (iI n)), (0, .ref mo), (1, .int (iI rr))] → W p l e rmX7_differsf s m ([.ref mo, .int (iI rr)] : List Value).toArray below meth c H locs 0 0 (MQ below (gQi g (fun (z : Int) (w : gS) => R = w.2.1 ∧ J = w.2.2.1 ∧ AJ = w.2.2.2.2.1 ∧ AR = w.2.2.2.2.2 ∧ (mInv g gh R (w.1) (w.2.2.2.1)) ∧ ((w.2.2.2.1) (gh 50 0) = T) ∧ (nF mo I (w.1)) ∧ (((rr < 0 ∨ (nr : Int) ≤ rr) ∧ z = -1 ∧ (w.2.2.2.1) = AI) ∨ ((0 ≤ rr ∧ rr < (nr : Int)) ∧ z = 0 ∧ sdK gh AI (w.2.2.2.1) ∧ noZ gh AI (w.2.2.2.1))))) ([.ref mo, .int (iI rr)] : List Value).toArray s 0 0 (gA g)) (F0 m 72 ls []) := by
            intro NN72
            induction NN72 with
            | zero =>
              intro n i H locs ls zn zi hi hnn hm72 hH hS hl
              exact absurd hm72 (by omega)
            | succ NN72 ih72 =>
              intro n i H locs ls zn zi hi hnn hm72 hH hS hl
              refine lv_iload_n F.1 F.2.1 dX7_differs_72 rfl (lv_at hl 0 rfl) ?_
              refine lv_aload_n F.1 F.2.1 dX7_differs_73 rfl (lv_at hl 2 rfl) ?_
              refine z_iconst F dX7_differs_74 ?_
              refine lv_iload_n F.1 F.2.1 dX7_differs_75 rfl (lv_at hl 3 rfl) ?_
              refine g_calli (g_runV (As := [.int (iI 0), .int (iI rr)]) (rest := [.int (iI i)]) (ci := 7) F hl.1 hH hS hz (c_X7_sizeOf l g gh T I_31 R J AI_32 AJ AR mo 0 rr ⟨by decide, by decide⟩ zrr hv hm hT (by omega) (by omega)) (cwV 2 F.2.2.2.2.1 (good_up gT_X7_sizeOf) rfl rfl rfl hdX7_sizeOf ⟨Nat.le_of_ble_eq_true rfl, Nat.le_of_ble_eq_true rfl⟩) hm (by decide) rfl rfl rfl (Nat.le_of_ble_eq_true rfl) dX7_differs_76 ⟨Nat.zero_le _, Nat.zero_le _⟩) hS (fun v_61 I_55 R_56 J_57 AI_58 AJ_59 AR_60 H locs zv_61 hp_62 hH hS => ?_)
              dsimp only at hp_62
              obtain ⟨rfl, rfl, rfl, rfl, rfl, rfl, q_63, qsz76⟩ := hp_62
              have hs760 : v_61 = (((rfM gh AI_32 0 rr.toNat).1 : Nat) : Int) := by rw [rfM_1 (by omega), qsz76]; unfold tI; have h8 := (mSz hv hm (z := 16 * 0 + rr) (by omega) (by omega)).1; omega
              have hs76 : v_61 = (((rfM gh AI 0 rr.toNat).1 : Nat) : Int) := by rw [hs760, e79]
              refine z_icmp_ge (tgt := 174) F dX7_differs_79 (by decide) zi zv_61 (fun c_64 => ?_) (fun c_64 => ?_)
              · refine lv_iload_n F.1 F.2.1 dX7_differs_174 rfl (lv_at hl 1 rfl) ?_
                exact g_iret F hr hlk hH hS hz zn ⟨rfl, rfl, rfl, rfl, hv, hT, nf, Or.inr ⟨by omega, by omega, hsk, hnz⟩⟩ dX7_differs_175
              · refine z_iconst F dX7_differs_82 ?_
                refine lv_istore (lv' := [(4, .int (iI 0)), (3, .int (iI i)), (2, .int (iI n)), (0, .ref mo), (1, .int (iI rr))]) F.1 F.2.1 dX7_differs_83 hl (by decide) rfl (fun ls hl => ?_)
                have cut_85_64 : ∀ (NN : Nat) (n jj : Int) (H : Heap) (locs : List Loc) (ls : Array Slot), zr n → zr jj → (0 ≤ jj ∧ jj ≤ 120) → (((jj ≤ i ∧ n = 2 * (((rfM gh AI 0 rr.toNat).1 : Nat) : Int) - 2 * i) ∨ (i < jj ∧ n = 2 * (((rfM gh AI 0 rr.toNat).1 : Nat) : Int) - 2 * i - 2)) ∧ jj ≤ (((rfM gh AI 0 rr.toNat).1 : Nat) : Int)) → (120 - jj) < ((NN : Nat) : Int) → gH g I_31 R J AI_32 AJ AR H → va_S (gA g) s.heap H locs → lv_has ls 7 [(4, .int (iI jj)), (3, .int (iI i)), (2, .int (iI n)), (0, .ref mo), (1, .int (iI rr))] → W p l e rmX7_differsf s m ([.ref mo, .int (iI rr)] : List Value).toArray below meth c H locs 0 0 (MQ below (gQi g (fun (z : Int) (w : gS) => R = w.2.1 ∧ J = w.2.2.1 ∧ AJ = w.2.2.2.2.1 ∧ AR = w.2.2.2.2.2 ∧ (mInv g gh R (w.1) (w.2.2.2.1)) ∧ ((w.2.2.2.1) (gh 50 0) = T) ∧ (nF mo I (w.1)) ∧ (((rr < 0 ∨ (nr : Int) ≤ rr) ∧ z = -1 ∧ (w.2.2.2.1) = AI) ∨ ((0 ≤ rr ∧ rr < (nr : Int)) ∧ z = 0 ∧ sdK gh AI (w.2.2.2.1) ∧ noZ gh AI (w.2.2.2.1))))) ([.ref mo, .int (iI rr)] : List Value).toArray s 0 0 (gA g)) (F0 m 85 ls []) := by
                  intro NN85
                  induction NN85 with
                  | zero =>
                    intro n jj H locs ls zn zjj hj hnj hm85 hH hS hl
                    exact absurd hm85 (by omega)
                  | succ NN85 ih85 =>
                    intro n jj H locs ls zn zjj hj hnj hm85 hH hS hl
                    refine lv_iload F.1 F.2.1 dX7_differs_85 (lv_at hl 0 rfl) ?_
                    refine lv_aload_n F.1 F.2.1 dX7_differs_87 rfl (lv_at hl 3 rfl) ?_
                    refine z_bipush F dX7_differs_88 (by decide) ?_
                    refine lv_iload_n F.1 F.2.1 dX7_differs_90 rfl (lv_at hl 4 rfl) ?_
                    refine g_calli (g_runV (As := [.int (iI 10), .int (iI rr)]) (rest := [.int (iI jj)]) (ci := 7) F hl.1 hH hS hz (c_X7_sizeOf l g gh T I_31 R J AI_32 AJ AR mo 10 rr ⟨by decide, by decide⟩ zrr hv hm hT (by omega) (by omega)) (cwV 2 F.2.2.2.2.1 (good_up gT_X7_sizeOf) rfl rfl rfl hdX7_sizeOf ⟨Nat.le_of_ble_eq_true rfl, Nat.le_of_ble_eq_true rfl⟩) hm (by decide) rfl rfl rfl (Nat.le_of_ble_eq_true rfl) dX7_differs_91 ⟨Nat.zero_le _, Nat.zero_le _⟩) hS (fun v_72 I_66 R_67 J_68 AI_69 AJ_70 AR_71 H locs zv_72 hp_73 hH hS => ?_)
                    dsimp only at hp_73
                    obtain ⟨rfl, rfl, rfl, rfl, rfl, rfl, q_74, qsz91⟩ := hp_73
                    have hs910 : v_72 = (((rfM gh AI_32 10 rr.toNat).1 : Nat) : Int) := by rw [rfM_1 (by omega), qsz91]; unfold tI; have h8 := (mSz hv hm (z := 16 * 10 + rr) (by omega) (by omega)).1; omega
                    have hs91 : v_72 = (((rfM gh AI 0 rr.toNat).1 : Nat) : Int) := by rw [hs910, hn9]
                    refine z_icmp_ge (tgt := 168) F dX7_differs_94 (by decide) zjj zv_72 (fun c_75 => ?_) (fun c_75 => ?_)
                    · refine z_iinc (lv' := [(3, .int (iI (i + 1))), (4, .int (iI jj)), (2, .int (iI n)), (0, .ref mo), (1, .int (iI rr))]) F dX7_differs_168 hl (k := 1) rfl (by decide) rfl (fun ls hl => ?_)
                      refine z_goto (tgt := 72) F dX7_differs_171 (by decide) ?_
                      exact ih72 n (i + 1) H locs ls zn ⟨by omega, by omega⟩ (by omega) (by omega) (by omega) hH hS (lv_sub hl [0, 2, 3, 4] rfl)
                    · refine z_iconst F dX7_differs_97 ?_
                      refine lv_iload_n F.1 F.2.1 dX7_differs_98 rfl (lv_at hl 4 rfl) ?_
                      refine lv_iload_n F.1 F.2.1 dX7_differs_99 rfl (lv_at hl 1 rfl) ?_
                      refine g_calli (g_runS (As := [.int (iI 0), .int (iI rr), .int (iI i)]) (rest := []) F hl.1 hH hS hz (c_X7_spot l g  I_31 R J AI_32 AJ AR 0 rr i ⟨by decide, by decide⟩ zrr zi (by omega) (by omega) (by omega)) (va_cwS 3 F.2.2.2.2.1 (good_up gT_X7_spot) rfl rfl rfl hdX7_spot.2 ⟨Nat.le_of_ble_eq_true rfl, Nat.le_of_ble_eq_true rfl⟩) rfl rfl (Nat.le_of_ble_eq_true rfl) dX7_differs_100 ⟨Nat.zero_le _, Nat.zero_le _⟩) hS (fun v_82 I_76 R_77 J_78 AI_79 AJ_80 AR_81 H locs zv_82 hp_83 hH hS => ?_)
                      dsimp only at hp_83
                      obtain ⟨rfl, rfl, rfl, rfl, rfl, rfl, q_84⟩ := hp_83
                      refine lv_istore (lv' := [(5, .int (iI v_82)), (4, .int (iI jj)), (3, .int (iI i)), (2, .int (iI n)), (0, .ref mo), (1, .int (iI rr))]) F.1 F.2.1 dX7_differs_103 hl (by decide) rfl (fun ls hl => ?_)
                      refine z_bipush F dX7_differs_105 (by decide) ?_
                      refine lv_iload_n F.1 F.2.1 dX7_differs_107 rfl (lv_at hl 5 rfl) ?_
                      refine lv_iload F.1 F.2.1 dX7_differs_108 (lv_at hl 1 rfl) ?_
                      refine g_calli (g_runS (As := [.int (iI 10), .int (iI rr), .int (iI jj)]) (rest := []) F hl.1 hH hS hz (c_X7_spot l g  I_31 R J AI_32 AJ AR 10 rr jj ⟨by decide, by decide⟩ zrr zjj (by omega) (by omega) (by omega)) (va_cwS 3 F.2.2.2.2.1 (good_up gT_X7_spot) rfl rfl rfl hdX7_spot.2 ⟨Nat.le_of_ble_eq_true rfl, Nat.le_of_ble_eq_true rfl⟩) rfl rfl (Nat.le_of_ble_eq_true rfl) dX7_differs_110 ⟨Nat.zero_le _, Nat.zero_le _⟩) hS (fun v_91 I_85 R_86 J_87 AI_88 AJ_89 AR_90 H locs zv_91 hp_92 hH hS => ?_)
                      dsimp only at hp_92
                      obtain ⟨rfl, rfl, rfl, rfl, rfl, rfl, q_93⟩ := hp_92
                      refine lv_istore (lv' := [(6, .int (iI v_91)), (5, .int (iI v_82)), (4, .int (iI jj)), (3, .int (iI i)), (2, .int (iI n)), (0, .ref mo), (1, .int (iI rr))]) F.1 F.2.1 dX7_differs_113 hl (by decide) rfl (fun ls hl => ?_)
                      refine lv_aload_n F.1 F.2.1 dX7_differs_115 rfl (lv_at hl 5 rfl) ?_
                      obtain ⟨r_94a, r_94b⟩ : R mo 6 = some (gh 56 0) ∧ gAr g (gh 56 0) 9 126720 := mR hv hm (q := (6, 126720)) (by decide)
                      refine g_getR (ci := 7) (k := 6) F hH rfl (by decide) iX7 hm (by decide) rfl (b := gh 56 0) r_94a k24 dX7_differs_116 ?_
                      refine lv_iload F.1 F.2.1 dX7_differs_119 (lv_at hl 1 rfl) ?_
                      refine lv_aload_n F.1 F.2.1 dX7_differs_121 rfl (lv_at hl 5 rfl) ?_
                      refine g_getR (ci := 7) (k := 6) F hH rfl (by decide) iX7 hm (by decide) rfl (b := gh 56 0) r_94a k24 dX7_differs_122 ?_
                      refine lv_iload F.1 F.2.1 dX7_differs_125 (lv_at hl 0 rfl) ?_
                      refine g_calli (g_runS (As := [.ref (gh 56 0), .int (iI v_82), .ref (gh 56 0), .int (iI v_91)]) (rest := []) F hl.1 hH hS hz (c_X7_comparef l g 126720 126720 I_31 R J AI_32 AJ AR (gh 56 0) v_82 (gh 56 0) v_91 zv_82 zv_91 r_94b r_94b (by omega) (by omega) (by omega) (by omega)) (va_cwS 4 F.2.2.2.2.1 (good_up gT_X7_compare) rfl rfl rfl hdX7_compare.2 ⟨Nat.le_of_ble_eq_true rfl, Nat.le_of_ble_eq_true rfl⟩) rfl rfl (Nat.le_of_ble_eq_true rfl) dX7_differs_127 ⟨Nat.zero_le _, Nat.zero_le _⟩) hS (fun v_101 I_95 R_96 J_97 AI_98 AJ_99 AR_100 H locs zv_101 hp_102 hH hS => ?_)
                      dsimp only at hp_102
                      obtain ⟨rfl, rfl, rfl, rfl, rfl, rfl, q_103, qc⟩ := hp_102
                      have qk : v_101 = tc (tup (rfM gh AI 0 rr.toNat).2 i.toNat) (tup (rfM gh AI_32 10 rr.toNat).2 jj.toNat) := by rw [qc, ← e79]; exact kc_c (rk_tu (fun k hk => by rw [tg_up k hk, rfM_2 (by omega) (by omega)]; congr 1; omega)) (rk_tu (fun k hk => by rw [tg_up k hk, rfM_2 (by omega) (by omega)]; congr 1; omega))
                      have hde := df_e hok hw9 (i := i.toNat) (j := jj.toNat) (by omega) (by omega)
                      refine z_if_ne (tgt := 162) F dX7_differs_130 (by decide) zv_101 (fun c_104 => ?_) (fun c_104 => ?_)
                      · have hij : i ≠ jj := fun h9 => by have h8 := tc_0.mpr (hde.mpr (by omega)); rw [← qk] at h8; omega
                        refine z_iinc (lv' := [(4, .int (iI (jj + 1))), (6, .int (iI v_91)), (5, .int (iI v_82)), (3, .int (iI i)), (2, .int (iI n)), (0, .ref mo), (1, .int (iI rr))]) F dX7_differs_162 hl (k := 2) rfl (by decide) rfl (fun ls hl => ?_)
                        refine z_goto (tgt := 85) F dX7_differs_165 (by decide) ?_
                        exact ih85 n (jj + 1) H locs ls zn ⟨by omega, by omega⟩ (by omega) (by omega) (by omega) hH hS (lv_sub hl [0, 3, 4, 5, 6] rfl)
                      · have hij : i.toNat = jj.toNat := hde.mp (tc_0.mp (by rw [← qk]; omega))
                        refine lv_iload_n F.1 F.2.1 dX7_differs_133 rfl (lv_at hl 4 rfl) ?_
                        refine lv_aload_n F.1 F.2.1 dX7_differs_134 rfl (lv_at hl 5 rfl) ?_
                        refine g_getR (ci := 7) (k := 6) F hH rfl (by decide) iX7 hm (by decide) rfl (b := gh 56 0) r_94a k24 dX7_differs_135 ?_
                        refine lv_iload F.1 F.2.1 dX7_differs_138 (lv_at hl 1 rfl) ?_
                        refine z_iconst F dX7_differs_140 ?_
                        refine z_iadd F dX7_differs_141 ?_
                        have hx142 : 0 ≤ (v_82 + 4) ∧ (v_82 + 4) < ((126720 : Nat) : Int) ∧ (v_82 + 4) ≤ 2147483647 := ⟨by omega, by omega, by omega⟩
                        refine g_iald F hH r_94b hx142.1 hx142.2.1 hx142.2.2 dX7_differs_142 ?_
                        refine z_name (fun v_105 ev_105 => ?_)
                        have zv_105 : zr v_105 := by rw [ev_105]; exact zr_t _
                        have c142 : iI v_105 = (rfM gh AI 0 rr.toNat).2 (6 * i.toNat + 4) := by rw [← e79, rfM_2 (by omega) (by omega), ev_105, iI_self]; congr 1; omega
                        refine lv_aload_n F.1 F.2.1 dX7_differs_143 rfl (lv_at hl 5 rfl) ?_
                        refine g_getR (ci := 7) (k := 6) F hH rfl (by decide) iX7 hm (by decide) rfl (b := gh 56 0) r_94a k24 dX7_differs_144 ?_
                        refine lv_iload F.1 F.2.1 dX7_differs_147 (lv_at hl 0 rfl) ?_
                        refine z_iconst F dX7_differs_149 ?_
                        refine z_iadd F dX7_differs_150 ?_
                        have hx151 : 0 ≤ (v_91 + 4) ∧ (v_91 + 4) < ((126720 : Nat) : Int) ∧ (v_91 + 4) ≤ 2147483647 := ⟨by omega, by omega, by omega⟩
                        refine g_iald F hH r_94b hx151.1 hx151.2.1 hx151.2.2 dX7_differs_151 ?_
                        refine z_name (fun v_106 ev_106 => ?_)
                        have zv_106 : zr v_106 := by rw [ev_106]; exact zr_t _
                        have c151 : iI v_106 = (rfM gh AI_32 10 rr.toNat).2 (6 * jj.toNat + 4) := by rw [rfM_2 (by omega) (by omega), ev_106, iI_self]; congr 1; omega
                        have hee : v_105 = v_106 := (iI_eq zv_105 zv_106).mp (by rw [c142, c151, ← hij]; exact (df_4 hw9 (by omega)).symm)
                        refine z_icmp_ne (tgt := 159) F dX7_differs_152 (by decide) zv_105 zv_106 (fun c_107 => ?_) (fun c_107 => ?_)
                        · refine z_iconst F dX7_differs_159 ?_
                          refine z_isub F dX7_differs_160 ?_
                          refine z_norm (fun v_108 zv_108 ev_108 => ?_)
                          have hv9 := (iI_eq zv_108 ⟨by omega, by omega⟩).mp ev_108
                          refine lv_istore_n (lv' := [(2, .int (iI v_108)), (6, .int (iI v_91)), (5, .int (iI v_82)), (4, .int (iI jj)), (3, .int (iI i)), (0, .ref mo), (1, .int (iI rr))]) F.1 F.2.1 dX7_differs_161 rfl hl (by decide) rfl (fun ls hl => ?_)
                          refine z_iinc (lv' := [(4, .int (iI (jj + 1))), (2, .int (iI v_108)), (6, .int (iI v_91)), (5, .int (iI v_82)), (3, .int (iI i)), (0, .ref mo), (1, .int (iI rr))]) F dX7_differs_162 hl (k := 3) rfl (by decide) rfl (fun ls hl => ?_)
                          refine z_goto (tgt := 85) F dX7_differs_165 (by decide) ?_
                          exact ih85 v_108 (jj + 1) H locs ls zv_108 ⟨by omega, by omega⟩ (by omega) (by omega) (by omega) hH hS (lv_sub hl [0, 4, 1, 5, 6] rfl)
                        · refine z_iconst F dX7_differs_155 ?_
                          refine z_goto (tgt := 160) F dX7_differs_156 (by decide) ?_
                          refine z_isub F dX7_differs_160 ?_
                          refine z_norm (fun v_109 zv_109 ev_109 => ?_)
                          have hv9 := (iI_eq zv_109 ⟨by omega, by omega⟩).mp ev_109
                          refine lv_istore_n (lv' := [(2, .int (iI v_109)), (6, .int (iI v_91)), (5, .int (iI v_82)), (4, .int (iI jj)), (3, .int (iI i)), (0, .ref mo), (1, .int (iI rr))]) F.1 F.2.1 dX7_differs_161 rfl hl (by decide) rfl (fun ls hl => ?_)
                          refine z_iinc (lv' := [(4, .int (iI (jj + 1))), (2, .int (iI v_109)), (6, .int (iI v_91)), (5, .int (iI v_82)), (3, .int (iI i)), (0, .ref mo), (1, .int (iI rr))]) F dX7_differs_162 hl (k := 3) rfl (by decide) rfl (fun ls hl => ?_)
                          refine z_goto (tgt := 85) F dX7_differs_165 (by decide) ?_
                          exact ih85 v_109 (jj + 1) H locs ls zv_109 ⟨by omega, by omega⟩ (by omega) (by omega) (by omega) hH hS (lv_sub hl [0, 4, 1, 5, 6] rfl)
                exact cut_85_64 (((120 - 0) + 1 : Int).toNat) n 0 H locs ls zn ⟨by decide, by decide⟩ (by omega) (by omega) (by omega) hH hS (lv_sub hl [0, 1, 2, 3, 4] rfl)
          exact cut_72_53 (((120 - 0) + 1 : Int).toNat) (v_42 + v_51) 0 H locs ls ⟨by omega, by omega⟩ ⟨by decide, by decide⟩ (by omega) (by omega) (by omega) hH hS (lv_sub hl [0, 1, 2, 3] rfl)
        · have hlv9 := hpl.2.2 k.toNat (by omega) (by omega)
          rw [show ((k.toNat : Nat) : Int) = k by omega] at hlv9
          refine lv_aload_n F.1 F.2.1 dX7_differs_32 rfl (lv_at hl 1 rfl) ?_
          refine z_bipush F dX7_differs_33 (by decide) ?_
          refine lv_iload_n F.1 F.2.1 dX7_differs_35 rfl (lv_at hl 0 rfl) ?_
          have b_110 := mJ hv hm
          unfold mNum1 at b_110
          refine g_calli (g_runV (As := [.int (iI 10), .int (iI k)]) (rest := []) (ci := 7) F hl.1 hH hS hz (c_X7_reckonsf l g gh T (cc k.toNat) cl I_31 R J AI_32 AJ AR mo 10 k ⟨by decide, by decide⟩ zk hv hm hT (by omega) (by omega) (hvw k (by omega) (by omega)) hlv9.1 hlv9.2.1 (fun q hq => df_g hdf (by omega) (hbg q (by omega)))) (cwV 2 F.2.2.2.2.1 (good_up gT_X7_reckons) rfl rfl rfl hdX7_reckons ⟨Nat.le_of_ble_eq_true rfl, Nat.le_of_ble_eq_true rfl⟩) hm (by decide) rfl rfl rfl (Nat.le_of_ble_eq_true rfl) dX7_differs_36 ⟨Nat.zero_le _, Nat.zero_le _⟩) hS (fun v_117 I_111 R_112 J_113 AI_114 AJ_115 AR_116 H locs zv_117 hp_118 hH hS => ?_)
          dsimp only at hp_118
          obtain ⟨rfl, rfl, rfl, rfl, hv, hT, wfq, qrk, qvw, qzz, qrr⟩ := hp_118
          have nf := nF_t nf (nF_w wfq)
          have u_119_2 : (I_111 mo 2).toInt = (I mo 2).toInt := by rw [nf 2 (by decide) (by decide) (by decide) (by decide) (by decide)]
          have u_119_5 : (I_111 mo 5).toInt = (I mo 5).toInt := by rw [nf 5 (by decide) (by decide) (by decide) (by decide) (by decide)]
          have u_119_14 : (I_111 mo 14).toInt = (I mo 14).toInt := by rw [nf 14 (by decide) (by decide) (by decide) (by decide) (by decide)]
          have u_119_16 : (I_111 mo 16).toInt = (I mo 16).toInt := by rw [nf 16 (by decide) (by decide) (by decide) (by decide) (by decide)]
          have u_119_24 : (I_111 mo 24).toInt = (I mo 24).toInt := by rw [nf 24 (by decide) (by decide) (by decide) (by decide) (by decide)]
          have hsk := sdK_k hsk qrk (by omega)
          have hnz := noZ_k hnz qrk
          rw [show k = ((k.toNat : Nat) : Int) by omega] at qrk
          have hds := df_s (cc := cc) (cl := cl) hdf (by omega) (by omega) qrk qvw (hvw0 k.toNat (by omega) (by omega)) hlv9.2.1
          have hz36 := hds.1
          refine z_if_ge (tgt := 49) F dX7_differs_39 (by decide) zv_117 (fun c_120 => ?_) (fun c_120 => ?_)
          · refine z_iinc (lv' := [(2, .int (iI (k + 1))), (0, .ref mo), (1, .int (iI rr))]) F dX7_differs_49 hl (k := 0) rfl (by decide) rfl (fun ls hl => ?_)
            refine z_goto (tgt := 27) F dX7_differs_52 (by decide) ?_
            exact ih27 (k + 1) I_111 AI_114 H locs ls ⟨by omega, by omega⟩ hv hT nf (by omega) hds.2 hsk hnz (by omega) hH hS (lv_sub hl [0, 1, 2] rfl)
          · refine lv_aload_n F.1 F.2.1 dX7_differs_42 rfl (lv_at hl 1 rfl) ?_
            refine z_iconst F dX7_differs_43 ?_
            refine lv_iload_n F.1 F.2.1 dX7_differs_44 rfl (lv_at hl 2 rfl) ?_
            have b_121 := mJ hv hm
            unfold mNum1 at b_121
            refine g_calli (g_runV (As := [.int (iI 0), .int (iI rr)]) (rest := []) (ci := 7) F hl.1 hH hS hz (c_X7_sizeOf l g gh T I_111 R J AI_114 AJ AR mo 0 rr ⟨by decide, by decide⟩ zrr hv hm hT (by omega) (by omega)) (cwV 2 F.2.2.2.2.1 (good_up gT_X7_sizeOf) rfl rfl rfl hdX7_sizeOf ⟨Nat.le_of_ble_eq_true rfl, Nat.le_of_ble_eq_true rfl⟩) hm (by decide) rfl rfl rfl (Nat.le_of_ble_eq_true rfl) dX7_differs_45 ⟨Nat.zero_le _, Nat.zero_le _⟩) hS (fun v_128 I_122 R_123 J_124 AI_125 AJ_126 AR_127 H locs zv_128 hp_129 hH hS => ?_)
            dsimp only at hp_129
            obtain ⟨rfl, rfl, rfl, rfl, rfl, rfl, q_130, q_131⟩ := hp_129
            exact g_iret F hr hlk hH hS hz zv_128 ⟨rfl, rfl, rfl, rfl, hv, hT, nf, absurd trivial (by omega)⟩ dX7_differs_48
    exact cut_27_32 (((17 - v_28) + 1 : Int).toNat) v_28 I_1 AI_18 H locs ls zv_28 hv hT nf (by omega) hdf hsk hnz (by omega) hH hS (lv_sub hl [0, 1, 2] rfl)
  · refine z_iconst F dX7_differs_13 ?_
    exact g_iret F hr hlk hH hS hz ⟨by decide, by decide⟩ ⟨rfl, rfl, rfl, rfl, hv, hT, nf, Or.inl ⟨by have h9 := qis (by omega); omega, rfl, rfl⟩⟩ dX7_differs_14
