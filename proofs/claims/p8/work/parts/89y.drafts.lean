def rmX7_draftsf : Room := { frames := 6, cells := 0, slots := 0, locals := 159 }
set_option maxHeartbeats 4000000 in
set_option maxRecDepth 100000 in
/-- the draft -/
theorem c_X7_draftsf (l : Launch) (g : gG) (gh : gGh) (T : Nat → Int32) (tbs : Int) (nr nb : Nat) (cc : Nat → LC) (cl : Nat → Int) (bf : Nat → Int32) (I : gI) (R : gR) (J : gJ) (AI : gI) (AJ : gJ) (AR : gR) (mo : Nat) (hv : mInv g gh R I AI) (hm : gO g mo 7) (hT : AI (gh 50 0) = T) (hmr : (I mo 2).toInt = (nr : Int)) (hpl : plM9 T tbs nr cc cl) (hnb : (I mo 14).toInt = (nb : Int)) (hbm : btM9 gh AI bf nb tbs cl) (hbg : ∀ r : Nat, r < nr → bgOK (rfM gh AI 0) cl r) (hps : ∀ r : Nat, (r : Int) < tbs → ∀ t, 0 ≤ (bS (rfM gh AI 0 r).2 (rfM gh AI 0 r).1 t).toInt) : gMet l g yX7_drafts tsX7_drafts rmX7_draftsf [.ref mo] (I, R, J, AI, AJ, AR) (gQi g (fun (z : Int) (w : gS) => R = w.2.1 ∧ J = w.2.2.1 ∧ AJ = w.2.2.2.2.1 ∧ AR = w.2.2.2.2.2 ∧ (mInv g gh R (w.1) (w.2.2.2.1)) ∧ ((w.2.2.2.1) (gh 50 0) = T) ∧ (wF mo I (w.1)) ∧ (drP gh AI tbs nr cc cl bf nb z (w.2.2.2.1)))) := by
  refine gStart (cc := cX7_drafts) (maxL := 4) (ret := (some (.int))) (by decide) rfl (Nat.le_of_ble_eq_true rfl) ?_
  intro p e s m below meth c ls F hr hlk hH hz hS hl
  have hl : lv_has ls 4 [(0, .ref mo)] := hl
  have hS : va_S (gA g) s.heap s.heap [] := hS
  obtain ⟨H, hHe⟩ : ∃ H : Heap, H = s.heap := ⟨_, rfl⟩
  obtain ⟨locs, hlo⟩ : ∃ k : List Loc, k = [] := ⟨_, rfl⟩
  have hH : gH g I R J AI AJ AR H := by rw [hHe]; exact hH
  have hS : va_S (gA g) s.heap H locs := by rw [hHe, hlo]; exact hS
  suffices hw : W p l e rmX7_draftsf s m ([.ref mo] : List Value).toArray below meth c H locs 0 0 (MQ below (gQi g (fun (z : Int) (w : gS) => R = w.2.1 ∧ J = w.2.2.1 ∧ AJ = w.2.2.2.2.1 ∧ AR = w.2.2.2.2.2 ∧ (mInv g gh R (w.1) (w.2.2.2.1)) ∧ ((w.2.2.2.1) (gh 50 0) = T) ∧ (wF mo I (w.1)) ∧ (drP gh AI tbs nr cc cl bf nb z (w.2.2.2.1)))) ([.ref mo] : List Value).toArray s 0 0 (gA g)) (F0 m 0 ls []) by
    rw [hHe, hlo] at hw; exact hw
  clear hHe hlo
  have wf : wF mo I I := wF_r
  have hb0 := mJ hv hm
  unfold mNum1 at hb0
  have hv0 := hv
  have hp1 := hpl.1
  have iX7 : ∀ w ∈ u_ws RX7 TX7 32, w ∈ tsX7_drafts := fun w h => List.mem_cons_of_mem _ (inTB7 w h)
  have k64 : Cond.fieldLink RX7 64 (TX7 2).1 (TX7 2).2.1 (TX7 2).2.2.1 ∈ tsX7_drafts := List.mem_cons_of_mem _ fl_64
  refine lv_aload_n F.1 F.2.1 dX7_drafts_0 rfl (lv_at hl 0 rfl) ?_
  refine z_iconst F dX7_drafts_1 ?_
  refine z_bipush F dX7_drafts_2 (by decide) ?_
  have b_1 := mJ hv hm
  unfold mNum1 at b_1
  refine g_callv (g_runV (As := [.int (iI 0), .int (iI 10)]) (rest := []) (ci := 7) F hl.1 hH hS hz (c_X7_copiesf l g gh T I R J AI AJ AR mo 0 10 ⟨by decide, by decide⟩ ⟨by decide, by decide⟩ hv hm hT (by omega)) (cwV 2 F.2.2.2.2.1 (good_up gT_X7_copies) rfl rfl rfl hdX7_copies ⟨Nat.le_of_ble_eq_true rfl, Nat.le_of_ble_eq_true rfl⟩) hm (by decide) rfl rfl rfl (Nat.le_of_ble_eq_true rfl) dX7_drafts_4 ⟨Nat.zero_le _, Nat.zero_le _⟩) hS (fun I_2 R_3 J_4 AI_5 AJ_6 AR_7 H locs hp_8 hH hS => ?_)
  dsimp only at hp_8
  obtain ⟨rfl, rfl, rfl, rfl, rfl, hv, hT, qcp⟩ := hp_8
  have hv1 := hv
  have hF1 : ∀ q : Nat, q < 16 → rfM gh AI_5 10 q = rfM gh AI 0 q := fun q hq => cp_to qcp ⟨by decide, by decide⟩ hq
  have hz1 := noZ_c qcp
  have hs1 := sdK_c qcp
  have n61 : AI_5 (gh 61 0) = AI (gh 61 0) := qcp.1 _ (show gh 61 0 ≠ gh 56 0 from mNe hv hm (p := (11, 41)) (q := (6, 126720)) (by decide) (by decide) (by decide)) (show gh 61 0 ≠ gh 57 0 from mNe hv hm (p := (11, 41)) (q := (7, 176)) (by decide) (by decide) (by decide)) (show gh 61 0 ≠ gh 79 0 from mNe hv hm (p := (11, 41)) (q := (29, 176)) (by decide) (by decide) (by decide))
  have n62 : AI_5 (gh 62 0) = AI (gh 62 0) := qcp.1 _ (show gh 62 0 ≠ gh 56 0 from mNe hv hm (p := (12, 164)) (q := (6, 126720)) (by decide) (by decide) (by decide)) (show gh 62 0 ≠ gh 57 0 from mNe hv hm (p := (12, 164)) (q := (7, 176)) (by decide) (by decide) (by decide)) (show gh 62 0 ≠ gh 79 0 from mNe hv hm (p := (12, 164)) (q := (29, 176)) (by decide) (by decide) (by decide))
  have n63 : AI_5 (gh 63 0) = AI (gh 63 0) := qcp.1 _ (show gh 63 0 ≠ gh 56 0 from mNe hv hm (p := (13, 41)) (q := (6, 126720)) (by decide) (by decide) (by decide)) (show gh 63 0 ≠ gh 57 0 from mNe hv hm (p := (13, 41)) (q := (7, 176)) (by decide) (by decide) (by decide)) (show gh 63 0 ≠ gh 79 0 from mNe hv hm (p := (13, 41)) (q := (29, 176)) (by decide) (by decide) (by decide))
  refine z_iconst F dX7_drafts_7 ?_
  refine lv_istore_n (lv' := [(1, .int (iI 0)), (0, .ref mo)]) F.1 F.2.1 dX7_drafts_8 rfl hl (by decide) rfl (fun ls hl => ?_)
  have cut_9_10 : ∀ (NN : Nat) (k : Int) (I_9 : gI) (AI_10 : gI) (H : Heap) (locs : List Loc) (ls : Array Slot), zr k → (mInv g gh R I_9 AI_10) → (AI_10 (gh 50 0) = T) → (wF mo I I_9) → (0 ≤ k ∧ k ≤ 16) → (∀ b, b ≠ gh 75 0 → b ≠ gh 77 0 → AI_10 b = AI_5 b) → (∀ q : Nat, (q : Int) < k → ¬ lowX (rfM gh AI 0 q).2 (rfM gh AI 0 q).1 bf (q : Int) nb) → (16 - k) < ((NN : Nat) : Int) → gH g I_9 R J AI_10 AJ AR H → va_S (gA g) s.heap H locs → lv_has ls 4 [(1, .int (iI k)), (0, .ref mo)] → W p l e rmX7_draftsf s m ([.ref mo] : List Value).toArray below meth c H locs 0 0 (MQ below (gQi g (fun (z : Int) (w : gS) => R = w.2.1 ∧ J = w.2.2.1 ∧ AJ = w.2.2.2.2.1 ∧ AR = w.2.2.2.2.2 ∧ (mInv g gh R (w.1) (w.2.2.2.1)) ∧ ((w.2.2.2.1) (gh 50 0) = T) ∧ (wF mo I (w.1)) ∧ (drP gh AI tbs nr cc cl bf nb z (w.2.2.2.1)))) ([.ref mo] : List Value).toArray s 0 0 (gA g)) (F0 m 9 ls []) := by
    intro NN9
    induction NN9 with
    | zero =>
      intro k I_9 AI_10 H locs ls zk hv hT wf hk1 fW hnl hm9 hH hS hl
      exact absurd hm9 (by omega)
    | succ NN9 ih9 =>
      intro k I_9 AI_10 H locs ls zk hv hT wf hk1 fW hnl hm9 hH hS hl
      have uc_2 : (I_9 mo 2).toInt = (I mo 2).toInt := by rw [wf 2 (by decide)]
      have uc_5 : (I_9 mo 5).toInt = (I mo 5).toInt := by rw [wf 5 (by decide)]
      have uc_14 : (I_9 mo 14).toInt = (I mo 14).toInt := by rw [wf 14 (by decide)]
      have uc_16 : (I_9 mo 16).toInt = (I mo 16).toInt := by rw [wf 16 (by decide)]
      have uc_24 : (I_9 mo 24).toInt = (I mo 24).toInt := by rw [wf 24 (by decide)]
      refine lv_iload_n F.1 F.2.1 dX7_drafts_9 rfl (lv_at hl 0 rfl) ?_
      refine lv_aload_n F.1 F.2.1 dX7_drafts_10 rfl (lv_at hl 1 rfl) ?_
      have b_12 := mJ hv hm
      unfold mNum1 at b_12
      refine g_calli (g_runV (As := []) (rest := [.int (iI k)]) (ci := 7) F hl.1 hH hS hz (c_X7_tablesf l g gh T I_9 R J AI_10 AJ AR mo hv hm hT) (cwV 0 F.2.2.2.2.1 (good_up gT_X7_tables) rfl rfl rfl hdX7_tables ⟨Nat.le_of_ble_eq_true rfl, Nat.le_of_ble_eq_true rfl⟩) hm (by decide) rfl rfl rfl (Nat.le_of_ble_eq_true rfl) dX7_drafts_11 ⟨Nat.zero_le _, Nat.zero_le _⟩) hS (fun v_19 I_13 R_14 J_15 AI_16 AJ_17 AR_18 H locs zv_19 hp_20 hH hS => ?_)
      dsimp only at hp_20
      obtain ⟨rfl, rfl, rfl, rfl, rfl, rfl, q_21, hvw, qtt⟩ := hp_20
      have ht11 : v_19 = tbs := tb_eq (many := (I mo 2).toInt) (by omega) (fun r h1 h2 => hvw r h1 (by omega)) qtt (by omega) hpl.2.1 (pl_6 hpl hmr)
      refine z_icmp_ge (tgt := 36) F dX7_drafts_14 (by decide) zk zv_19 (fun c_22 => ?_) (fun c_22 => ?_)
      · have hnbl : ¬ ∃ i, i < nb ∧ blw bf (rfM gh AI 0) 1 i := low_f hbm.2.1 hbm.2.2.2 (fun q hq => hnl q (by omega))
        have h56 : AI_10 (gh 56 0) = AI_5 (gh 56 0) := fW _ (show gh 56 0 ≠ gh 75 0 from mNe hv hm (p := (6, 126720)) (q := (25, 9600)) (by decide) (by decide) (by decide)) (show gh 56 0 ≠ gh 77 0 from mNe hv hm (p := (6, 126720)) (q := (27, 4)) (by decide) (by decide) (by decide))
        have h57 : AI_10 (gh 57 0) = AI_5 (gh 57 0) := fW _ (show gh 57 0 ≠ gh 75 0 from mNe hv hm (p := (7, 176)) (q := (25, 9600)) (by decide) (by decide) (by decide)) (show gh 57 0 ≠ gh 77 0 from mNe hv hm (p := (7, 176)) (q := (27, 4)) (by decide) (by decide) (by decide))
        have hrk0 := rk_1 (sd := 10) (rr := 0) (AI := AI_5) (AI1 := AI_10) hv1 hm (fun b h1 h2 _ _ _ => fW b h1 h2) (fun j _ => by rw [fW _ (show gh 79 0 ≠ gh 75 0 from mNe hv hm (p := (29, 176)) (q := (25, 9600)) (by decide) (by decide) (by decide)) (show gh 79 0 ≠ gh 77 0 from mNe hv hm (p := (29, 176)) (q := (27, 4)) (by decide) (by decide) (by decide))])
        have hds9 : drS gh AI tbs nr cc cl bf nb AI_10 (0 : Int).toNat := dr_0 (sdK_k hs1 hrk0 (by decide)) (noZ_k hz1 hrk0) (fun q hq => by rw [rfM_g h56 h57]; exact hF1 q hq)
        refine z_iconst F dX7_drafts_36 ?_
        refine lv_istore_n (lv' := [(1, .int (iI 0)), (0, .ref mo)]) F.1 F.2.1 dX7_drafts_37 rfl hl (by decide) rfl (fun ls hl => ?_)
        have cut_38_24 : ∀ (NN : Nat) (k : Int) (I_23 : gI) (AI_24 : gI) (H : Heap) (locs : List Loc) (ls : Array Slot), zr k → (mInv g gh R I_23 AI_24) → (AI_24 (gh 50 0) = T) → (wF mo I I_23) → (0 ≤ k ∧ k ≤ 16) → (drS gh AI tbs nr cc cl bf nb AI_24 k.toNat) → (k ≤ (nr : Int)) → (16 - k) < ((NN : Nat) : Int) → gH g I_23 R J AI_24 AJ AR H → va_S (gA g) s.heap H locs → lv_has ls 4 [(1, .int (iI k)), (0, .ref mo)] → W p l e rmX7_draftsf s m ([.ref mo] : List Value).toArray below meth c H locs 0 0 (MQ below (gQi g (fun (z : Int) (w : gS) => R = w.2.1 ∧ J = w.2.2.1 ∧ AJ = w.2.2.2.2.1 ∧ AR = w.2.2.2.2.2 ∧ (mInv g gh R (w.1) (w.2.2.2.1)) ∧ ((w.2.2.2.1) (gh 50 0) = T) ∧ (wF mo I (w.1)) ∧ (drP gh AI tbs nr cc cl bf nb z (w.2.2.2.1)))) ([.ref mo] : List Value).toArray s 0 0 (gA g)) (F0 m 38 ls []) := by
          intro NN38
          induction NN38 with
          | zero =>
            intro k I_23 AI_24 H locs ls zk hv hT wf hk2 hds hkn hm38 hH hS hl
            exact absurd hm38 (by omega)
          | succ NN38 ih38 =>
            intro k I_23 AI_24 H locs ls zk hv hT wf hk2 hds hkn hm38 hH hS hl
            have uc_2 : (I_23 mo 2).toInt = (I mo 2).toInt := by rw [wf 2 (by decide)]
            have uc_5 : (I_23 mo 5).toInt = (I mo 5).toInt := by rw [wf 5 (by decide)]
            have uc_14 : (I_23 mo 14).toInt = (I mo 14).toInt := by rw [wf 14 (by decide)]
            have uc_16 : (I_23 mo 16).toInt = (I mo 16).toInt := by rw [wf 16 (by decide)]
            have uc_24 : (I_23 mo 24).toInt = (I mo 24).toInt := by rw [wf 24 (by decide)]
            refine lv_iload_n F.1 F.2.1 dX7_drafts_38 rfl (lv_at hl 0 rfl) ?_
            refine lv_aload_n F.1 F.2.1 dX7_drafts_39 rfl (lv_at hl 1 rfl) ?_
            refine g_getI (ci := 7) (k := 2) F hH rfl (by decide) iX7 hm (by decide) rfl k64 dX7_drafts_40 ?_
            have b_26 := mJ hv hm
            unfold mNum1 at b_26
            refine z_icmp_ge (tgt := 102) F dX7_drafts_43 (by decide) zk (zr_t _) (fun c_27 => ?_) (fun c_27 => ?_)
            · refine z_iconst F dX7_drafts_102 ?_
              exact g_iret F hr hlk hH hS hz ⟨by decide, by decide⟩ ⟨rfl, rfl, rfl, rfl, hv, hT, wf, (dr_end (by rw [show k.toNat = nr by omega] at hds; exact hds) hnbl)⟩ dX7_drafts_103
            · refine lv_aload_n F.1 F.2.1 dX7_drafts_46 rfl (lv_at hl 1 rfl) ?_
              refine lv_iload_n F.1 F.2.1 dX7_drafts_47 rfl (lv_at hl 0 rfl) ?_
              refine g_calli (g_runV (As := [.int (iI k)]) (rest := []) (ci := 7) F hl.1 hH hS hz (c_X7_kindOf l g gh T I_23 R J AI_24 AJ AR mo k zk hv hm hT (by omega)) (cwV 1 F.2.2.2.2.1 (good_up gT_X7_kindOf) rfl rfl rfl hdX7_kindOf ⟨Nat.le_of_ble_eq_true rfl, Nat.le_of_ble_eq_true rfl⟩) hm (by decide) rfl rfl rfl (Nat.le_of_ble_eq_true rfl) dX7_drafts_48 ⟨Nat.zero_le _, Nat.zero_le _⟩) hS (fun v_34 I_28 R_29 J_30 AI_31 AJ_32 AR_33 H locs zv_34 hp_35 hH hS => ?_)
              dsimp only at hp_35
              obtain ⟨rfl, rfl, rfl, rfl, rfl, rfl, qkd⟩ := hp_35
              refine z_if_ne (tgt := 82) F dX7_drafts_51 (by decide) zv_34 (fun c_36 => ?_) (fun c_36 => ?_)
              · have hkv : tbs ≤ k := by
                  apply Classical.byContradiction
                  intro h9
                  exact absurd (hpl.2.1 k (by omega) (by omega)) (by omega)
                have hlv9 := hpl.2.2 k.toNat (by omega) (by omega)
                rw [show ((k.toNat : Nat) : Int) = k by omega] at hlv9
                refine lv_aload_n F.1 F.2.1 dX7_drafts_82 rfl (lv_at hl 1 rfl) ?_
                refine z_bipush F dX7_drafts_83 (by decide) ?_
                refine lv_iload_n F.1 F.2.1 dX7_drafts_85 rfl (lv_at hl 0 rfl) ?_
                refine g_calli (g_runV (As := [.int (iI 10), .int (iI k)]) (rest := []) (ci := 7) F hl.1 hH hS hz (c_X7_reckonsf l g gh T (cc k.toNat) cl I_23 R J AI_24 AJ AR mo 10 k ⟨by decide, by decide⟩ zk hv hm hT (by omega) (by omega) (by omega) hlv9.1 hlv9.2.1 (fun q hq => (hds.2.2.1 q hq).2)) (cwV 2 F.2.2.2.2.1 (good_up gT_X7_reckons) rfl rfl rfl hdX7_reckons ⟨Nat.le_of_ble_eq_true rfl, Nat.le_of_ble_eq_true rfl⟩) hm (by decide) rfl rfl rfl (Nat.le_of_ble_eq_true rfl) dX7_drafts_86 ⟨Nat.zero_le _, Nat.zero_le _⟩) hS (fun v_43 I_37 R_38 J_39 AI_40 AJ_41 AR_42 H locs zv_43 hp_44 hH hS => ?_)
                dsimp only at hp_44
                obtain ⟨rfl, rfl, rfl, rfl, hv, hT, wfq, qrk, qvw, qzz, qrr⟩ := hp_44
                have wf := wF_t wf wfq
                have u_45_2 : (I_37 mo 2).toInt = (I mo 2).toInt := by rw [wf 2 (by decide)]
                have u_45_5 : (I_37 mo 5).toInt = (I mo 5).toInt := by rw [wf 5 (by decide)]
                have u_45_14 : (I_37 mo 14).toInt = (I mo 14).toInt := by rw [wf 14 (by decide)]
                have u_45_16 : (I_37 mo 16).toInt = (I mo 16).toInt := by rw [wf 16 (by decide)]
                have u_45_24 : (I_37 mo 24).toInt = (I mo 24).toInt := by rw [wf 24 (by decide)]
                rw [show k = ((k.toNat : Nat) : Int) by omega] at qrk
                refine lv_istore_n (lv' := [(2, .int (iI v_43)), (1, .int (iI k)), (0, .ref mo)]) F.1 F.2.1 dX7_drafts_89 rfl hl (by decide) rfl (fun ls hl => ?_)
                refine lv_iload_n F.1 F.2.1 dX7_drafts_90 rfl (lv_at hl 0 rfl) ?_
                refine z_if_ge (tgt := 96) F dX7_drafts_91 (by decide) zv_43 (fun c_46 => ?_) (fun c_46 => ?_)
                · have hds9 := dr_v (cLt_of (fun r h1 h2 => (hpl.2.2 r h1 h2).2)) (by omega) (by omega) (by omega) hlv9.2 hds qrk (by have e9 : v_43 = 0 := (by omega); rw [e9] at qvw; exact qvw) (fun h9 => by obtain ⟨R9, h8, h7⟩ := qrr h9 (by omega); exact ⟨R9, h8, by rw [show 160 + k.toNat = (16 * 10 + k).toNat by omega]; exact h7⟩)
                  rw [show k.toNat + 1 = (k + 1).toNat by omega] at hds9
                  refine z_iinc (lv' := [(1, .int (iI (k + 1))), (2, .int (iI v_43)), (0, .ref mo)]) F dX7_drafts_96 hl (k := 1) rfl (by decide) rfl (fun ls hl => ?_)
                  refine z_goto (tgt := 38) F dX7_drafts_99 (by decide) ?_
                  exact ih38 (k + 1) I_37 AI_40 H locs ls ⟨by omega, by omega⟩ hv hT wf (by omega) hds9 (by omega) (by omega) hH hS (lv_sub hl [0, 2] rfl)
                · refine lv_iload_n F.1 F.2.1 dX7_drafts_94 rfl (lv_at hl 0 rfl) ?_
                  exact g_iret F hr hlk hH hS hz zv_43 ⟨rfl, rfl, rfl, rfl, hv, hT, wf, (dr_vm (cLt_of (fun r h1 h2 => (hpl.2.2 r h1 h2).2)) (by omega) (by omega) (by omega) hlv9.2.1 hds qrk hnbl qzz (by omega) qvw)⟩ dX7_drafts_95
              · have hv4 := hv
                have hkt : k < tbs := by
                  apply Classical.byContradiction
                  intro h9
                  exact pl_6 hpl hmr k (by omega) (by omega) (by omega)
                have hr9 := rfM_s (gh := gh) (AI := AI_24) (sd := 10) (a := k) (n := (rfM gh AI 0 k.toNat).1) (f := (rfM gh AI 0 k.toNat).2) (by rw [hds.2.2.2.1 _ (Nat.le_refl _) (by omega)]) (by omega) (mSz1 hv hm (z := 16 * 10 + k) (by omega) (by omega)).1
                have hbf9 : rbE (AI_24 (gh 61 0)) (AI_24 (gh 62 0)) (AI_24 (gh 63 0)) bf nb := by rw [hds.2.1 _ (show gh 61 0 ≠ gh 56 0 from mNe hv hm (p := (11, 41)) (q := (6, 126720)) (by decide) (by decide) (by decide)) (show gh 61 0 ≠ gh 57 0 from mNe hv hm (p := (11, 41)) (q := (7, 176)) (by decide) (by decide) (by decide)) (show gh 61 0 ≠ gh 75 0 from mNe hv hm (p := (11, 41)) (q := (25, 9600)) (by decide) (by decide) (by decide)) (show gh 61 0 ≠ gh 77 0 from mNe hv hm (p := (11, 41)) (q := (27, 4)) (by decide) (by decide) (by decide)) (show gh 61 0 ≠ gh 78 0 from mNe hv hm (p := (11, 41)) (q := (28, 8)) (by decide) (by decide) (by decide)) (show gh 61 0 ≠ gh 79 0 from mNe hv hm (p := (11, 41)) (q := (29, 176)) (by decide) (by decide) (by decide)) (show gh 61 0 ≠ gh 80 0 from mNe hv hm (p := (11, 41)) (q := (30, 600)) (by decide) (by decide) (by decide)), hds.2.1 _ (show gh 62 0 ≠ gh 56 0 from mNe hv hm (p := (12, 164)) (q := (6, 126720)) (by decide) (by decide) (by decide)) (show gh 62 0 ≠ gh 57 0 from mNe hv hm (p := (12, 164)) (q := (7, 176)) (by decide) (by decide) (by decide)) (show gh 62 0 ≠ gh 75 0 from mNe hv hm (p := (12, 164)) (q := (25, 9600)) (by decide) (by decide) (by decide)) (show gh 62 0 ≠ gh 77 0 from mNe hv hm (p := (12, 164)) (q := (27, 4)) (by decide) (by decide) (by decide)) (show gh 62 0 ≠ gh 78 0 from mNe hv hm (p := (12, 164)) (q := (28, 8)) (by decide) (by decide) (by decide)) (show gh 62 0 ≠ gh 79 0 from mNe hv hm (p := (12, 164)) (q := (29, 176)) (by decide) (by decide) (by decide)) (show gh 62 0 ≠ gh 80 0 from mNe hv hm (p := (12, 164)) (q := (30, 600)) (by decide) (by decide) (by decide)), hds.2.1 _ (show gh 63 0 ≠ gh 56 0 from mNe hv hm (p := (13, 41)) (q := (6, 126720)) (by decide) (by decide) (by decide)) (show gh 63 0 ≠ gh 57 0 from mNe hv hm (p := (13, 41)) (q := (7, 176)) (by decide) (by decide) (by decide)) (show gh 63 0 ≠ gh 75 0 from mNe hv hm (p := (13, 41)) (q := (25, 9600)) (by decide) (by decide) (by decide)) (show gh 63 0 ≠ gh 77 0 from mNe hv hm (p := (13, 41)) (q := (27, 4)) (by decide) (by decide) (by decide)) (show gh 63 0 ≠ gh 78 0 from mNe hv hm (p := (13, 41)) (q := (28, 8)) (by decide) (by decide) (by decide)) (show gh 63 0 ≠ gh 79 0 from mNe hv hm (p := (13, 41)) (q := (29, 176)) (by decide) (by decide) (by decide)) (show gh 63 0 ≠ gh 80 0 from mNe hv hm (p := (13, 41)) (q := (30, 600)) (by decide) (by decide) (by decide))]; exact hbm.1
                refine lv_aload_n F.1 F.2.1 dX7_drafts_54 rfl (lv_at hl 1 rfl) ?_
                refine z_bipush F dX7_drafts_55 (by decide) ?_
                refine lv_iload_n F.1 F.2.1 dX7_drafts_57 rfl (lv_at hl 0 rfl) ?_
                refine g_calli (g_runV (As := [.int (iI 10), .int (iI k)]) (rest := []) (ci := 7) F hl.1 hH hS hz (c_X7_changesOff l g gh T ((rfM gh AI 0 k.toNat).1) nb ((rfM gh AI 0 k.toNat).2) bf I_23 R J AI_24 AJ AR mo 10 k ⟨by decide, by decide⟩ zk hv hm hT (by omega) (by omega) hr9.1 hr9.2 (hbg k.toNat (by omega)).2.1 (hbg k.toNat (by omega)).1 (by omega) hbf9 hbm.2.1) (cwV 2 F.2.2.2.2.1 (good_up gT_X7_changesOf) rfl rfl rfl hdX7_changesOf ⟨Nat.le_of_ble_eq_true rfl, Nat.le_of_ble_eq_true rfl⟩) hm (by decide) rfl rfl rfl (Nat.le_of_ble_eq_true rfl) dX7_drafts_58 ⟨Nat.zero_le _, Nat.zero_le _⟩) hS (fun v_53 I_47 R_48 J_49 AI_50 AJ_51 AR_52 H locs zv_53 hp_54 hH hS => ?_)
                dsimp only at hp_54
                obtain ⟨rfl, rfl, rfl, rfl, hv, hT, wfq, q_55, fWq, qgx, qlw⟩ := hp_54
                have wf := wF_t wf wfq
                have u_56_2 : (I_47 mo 2).toInt = (I mo 2).toInt := by rw [wf 2 (by decide)]
                have u_56_5 : (I_47 mo 5).toInt = (I mo 5).toInt := by rw [wf 5 (by decide)]
                have u_56_14 : (I_47 mo 14).toInt = (I mo 14).toInt := by rw [wf 14 (by decide)]
                have u_56_16 : (I_47 mo 16).toInt = (I mo 16).toInt := by rw [wf 16 (by decide)]
                have u_56_24 : (I_47 mo 24).toInt = (I mo 24).toInt := by rw [wf 24 (by decide)]
                have hrk := rk_1 (sd := 10) (rr := k) (AI := AI_24) (AI1 := AI_50) hv4 hm (fun b h1 h2 _ _ _ => fWq b h1 h2) (fun j _ => by rw [fWq _ (show gh 79 0 ≠ gh 75 0 from mNe hv hm (p := (29, 176)) (q := (25, 9600)) (by decide) (by decide) (by decide)) (show gh 79 0 ≠ gh 77 0 from mNe hv hm (p := (29, 176)) (q := (27, 4)) (by decide) (by decide) (by decide))])
                have hgx9 := gaX_R qgx
                have hgx8 : gaR (AI_50 (gh 75 0)) (I_47 mo 26).toInt.toNat (tbS bf nb (rfM gh AI 0) 1 k.toNat) := by have h9 := sb_tb (b := bf) (nb := nb) (F := rfM gh AI 0) (r := k.toNat); rw [Int.toNat_of_nonneg (by omega)] at h9; rw [← h9]; exact hgx9
                refine lv_istore_n (lv' := [(3, .int (iI v_53)), (1, .int (iI k)), (0, .ref mo)]) F.1 F.2.1 dX7_drafts_61 rfl hl (by decide) rfl (fun ls hl => ?_)
                refine lv_iload_n F.1 F.2.1 dX7_drafts_62 rfl (lv_at hl 0 rfl) ?_
                refine z_if_eq (tgt := 71) F dX7_drafts_63 (by decide) zv_53 (fun c_57 => ?_) (fun c_57 => ?_)
                · refine lv_aload_n F.1 F.2.1 dX7_drafts_71 rfl (lv_at hl 2 rfl) ?_
                  refine z_bipush F dX7_drafts_72 (by decide) ?_
                  refine lv_iload_n F.1 F.2.1 dX7_drafts_74 rfl (lv_at hl 1 rfl) ?_
                  have b_58 := mJ hv hm
                  unfold mNum1 at b_58
                  refine g_calli (g_runV (As := [.int (iI 10), .int (iI k)]) (rest := []) (ci := 7) F hl.1 hH hS hz (c_X7_laysf l g gh T I_47 R J AI_50 AJ AR mo 10 k ⟨by decide, by decide⟩ zk hv hm hT (by omega) (by omega)) (cwV 2 F.2.2.2.2.1 (good_up gT_X7_lays) rfl rfl rfl hdX7_lays ⟨Nat.le_of_ble_eq_true rfl, Nat.le_of_ble_eq_true rfl⟩) hm (by decide) rfl rfl rfl (Nat.le_of_ble_eq_true rfl) dX7_drafts_75 ⟨Nat.zero_le _, Nat.zero_le _⟩) hS (fun v_65 I_59 R_60 J_61 AI_62 AJ_63 AR_64 H locs zv_65 hp_66 hH hS => ?_)
                  dsimp only at hp_66
                  obtain ⟨rfl, rfl, rfl, rfl, rfl, hv, hT, haq25, qlf, qly⟩ := hp_66
                  have hrk9 := rk_2 hv4 hm hrk qlf qly
                  have hsz9 := mSz1 hv hm (z := 16 * 10 + k) (by omega) (by omega)
                  have hlt := lay_t (by omega) hsz9.2 (by omega) hgx8 qly
                  rw [show k = ((k.toNat : Nat) : Int) by omega] at hrk9
                  refine lv_istore_n (lv' := [(2, .int (iI v_65)), (3, .int (iI v_53)), (1, .int (iI k)), (0, .ref mo)]) F.1 F.2.1 dX7_drafts_78 rfl hl (by decide) rfl (fun ls hl => ?_)
                  refine z_goto (tgt := 90) F dX7_drafts_79 (by decide) ?_
                  refine lv_iload_n F.1 F.2.1 dX7_drafts_90 rfl (lv_at hl 0 rfl) ?_
                  refine z_if_ge (tgt := 96) F dX7_drafts_91 (by decide) zv_65 (fun c_67 => ?_) (fun c_67 => ?_)
                  · obtain ⟨-, hl1, hl2⟩ := hlt.resolve_right (fun h => by omega)
                    have hds9 := dr_t (cLt_of (fun r h1 h2 => (hpl.2.2 r h1 h2).2)) (by omega) (by omega) (by omega) hds hrk9 (hbg k.toNat (by omega)).2.2 hbm.2.2.1 hl1 hl2
                    rw [show k.toNat + 1 = (k + 1).toNat by omega] at hds9
                    refine z_iinc (lv' := [(1, .int (iI (k + 1))), (2, .int (iI v_65)), (3, .int (iI v_53)), (0, .ref mo)]) F dX7_drafts_96 hl (k := 2) rfl (by decide) rfl (fun ls hl => ?_)
                    refine z_goto (tgt := 38) F dX7_drafts_99 (by decide) ?_
                    exact ih38 (k + 1) I_47 AI_62 H locs ls ⟨by omega, by omega⟩ hv hT wf (by omega) hds9 (by omega) (by omega) hH hS (lv_sub hl [0, 3] rfl)
                  · refine lv_iload_n F.1 F.2.1 dX7_drafts_94 rfl (lv_at hl 0 rfl) ?_
                    exact g_iret F hr hlk hH hS hz zv_65 ⟨rfl, rfl, rfl, rfl, hv, hT, wf, (by obtain ⟨h9, h8⟩ := hlt.resolve_left (fun h => by omega); rw [h9]; exact dr_tm (cLt_of (fun r h1 h2 => (hpl.2.2 r h1 h2).2)) (by omega) (by omega) (by omega) hds hrk9 hnbl h8)⟩ dX7_drafts_95
                · refine z_bipush F dX7_drafts_66 (by decide) ?_
                  refine z_goto (tgt := 78) F dX7_drafts_68 (by decide) ?_
                  refine lv_istore_n (lv' := [(2, .int (iI ((-2)))), (3, .int (iI v_53)), (1, .int (iI k)), (0, .ref mo)]) F.1 F.2.1 dX7_drafts_78 rfl hl (by decide) rfl (fun ls hl => ?_)
                  refine z_goto (tgt := 90) F dX7_drafts_79 (by decide) ?_
                  refine lv_iload_n F.1 F.2.1 dX7_drafts_90 rfl (lv_at hl 0 rfl) ?_
                  refine z_if_ge (tgt := 96) F dX7_drafts_91 (by decide) ⟨by decide, by decide⟩ (fun c_68 => ?_) (fun c_68 => ?_)
                  · exact absurd trivial (by omega)
                  · refine lv_iload_n F.1 F.2.1 dX7_drafts_94 rfl (lv_at hl 0 rfl) ?_
                    exact g_iret F hr hlk hH hS hz ⟨by decide, by decide⟩ ⟨rfl, rfl, rfl, rfl, hv, hT, wf, (absurd (low_b hbm.2.1 (hps k.toNat (by omega)) (by omega) (tIz_1 qlw (by omega))) hnbl)⟩ dX7_drafts_95
        exact cut_38_24 (((16 - 0) + 1 : Int).toNat) 0 I_9 AI_10 H locs ls ⟨by decide, by decide⟩ hv hT wf (by omega) hds9 (by omega) (by omega) hH hS (lv_sub hl [0, 1] rfl)
      · have h56 : AI_10 (gh 56 0) = AI_5 (gh 56 0) := fW _ (show gh 56 0 ≠ gh 75 0 from mNe hv hm (p := (6, 126720)) (q := (25, 9600)) (by decide) (by decide) (by decide)) (show gh 56 0 ≠ gh 77 0 from mNe hv hm (p := (6, 126720)) (q := (27, 4)) (by decide) (by decide) (by decide))
        have h57 : AI_10 (gh 57 0) = AI_5 (gh 57 0) := fW _ (show gh 57 0 ≠ gh 75 0 from mNe hv hm (p := (7, 176)) (q := (25, 9600)) (by decide) (by decide) (by decide)) (show gh 57 0 ≠ gh 77 0 from mNe hv hm (p := (7, 176)) (q := (27, 4)) (by decide) (by decide) (by decide))
        have hr9 := rfM_s (gh := gh) (AI := AI_10) (sd := 10) (a := k) (n := (rfM gh AI 0 k.toNat).1) (f := (rfM gh AI 0 k.toNat).2) (by rw [rfM_g h56 h57, hF1 _ (by omega)]) (by omega) (mSz1 hv hm (z := 16 * 10 + k) (by omega) (by omega)).1
        have hbf9 : rbE (AI_10 (gh 61 0)) (AI_10 (gh 62 0)) (AI_10 (gh 63 0)) bf nb := by rw [fW _ (show gh 61 0 ≠ gh 75 0 from mNe hv hm (p := (11, 41)) (q := (25, 9600)) (by decide) (by decide) (by decide)) (show gh 61 0 ≠ gh 77 0 from mNe hv hm (p := (11, 41)) (q := (27, 4)) (by decide) (by decide) (by decide)), fW _ (show gh 62 0 ≠ gh 75 0 from mNe hv hm (p := (12, 164)) (q := (25, 9600)) (by decide) (by decide) (by decide)) (show gh 62 0 ≠ gh 77 0 from mNe hv hm (p := (12, 164)) (q := (27, 4)) (by decide) (by decide) (by decide)), fW _ (show gh 63 0 ≠ gh 75 0 from mNe hv hm (p := (13, 41)) (q := (25, 9600)) (by decide) (by decide) (by decide)) (show gh 63 0 ≠ gh 77 0 from mNe hv hm (p := (13, 41)) (q := (27, 4)) (by decide) (by decide) (by decide)), n61, n62, n63]; exact hbm.1
        refine lv_aload_n F.1 F.2.1 dX7_drafts_17 rfl (lv_at hl 1 rfl) ?_
        refine z_bipush F dX7_drafts_18 (by decide) ?_
        refine lv_iload_n F.1 F.2.1 dX7_drafts_20 rfl (lv_at hl 0 rfl) ?_
        refine g_calli (g_runV (As := [.int (iI 10), .int (iI k)]) (rest := []) (ci := 7) F hl.1 hH hS hz (c_X7_changesOff l g gh T ((rfM gh AI 0 k.toNat).1) nb ((rfM gh AI 0 k.toNat).2) bf I_9 R J AI_10 AJ AR mo 10 k ⟨by decide, by decide⟩ zk hv hm hT (by omega) (by omega) hr9.1 hr9.2 (hbg k.toNat (by omega)).2.1 (hbg k.toNat (by omega)).1 (by omega) hbf9 hbm.2.1) (cwV 2 F.2.2.2.2.1 (good_up gT_X7_changesOf) rfl rfl rfl hdX7_changesOf ⟨Nat.le_of_ble_eq_true rfl, Nat.le_of_ble_eq_true rfl⟩) hm (by decide) rfl rfl rfl (Nat.le_of_ble_eq_true rfl) dX7_drafts_21 ⟨Nat.zero_le _, Nat.zero_le _⟩) hS (fun v_75 I_69 R_70 J_71 AI_72 AJ_73 AR_74 H locs zv_75 hp_76 hH hS => ?_)
        dsimp only at hp_76
        obtain ⟨rfl, rfl, rfl, rfl, hv, hT, wfq, q_77, fWq, qgx, qlw⟩ := hp_76
        have wf := wF_t wf wfq
        have u_78_2 : (I_69 mo 2).toInt = (I mo 2).toInt := by rw [wf 2 (by decide)]
        have u_78_5 : (I_69 mo 5).toInt = (I mo 5).toInt := by rw [wf 5 (by decide)]
        have u_78_14 : (I_69 mo 14).toInt = (I mo 14).toInt := by rw [wf 14 (by decide)]
        have u_78_16 : (I_69 mo 16).toInt = (I mo 16).toInt := by rw [wf 16 (by decide)]
        have u_78_24 : (I_69 mo 24).toInt = (I mo 24).toInt := by rw [wf 24 (by decide)]
        have fW : ∀ b, b ≠ gh 75 0 → b ≠ gh 77 0 → AI_72 b = AI_5 b := fun b h1 h2 => (fWq b h1 h2).trans (fW b h1 h2)
        refine z_if_eq (tgt := 30) F dX7_drafts_24 (by decide) zv_75 (fun c_79 => ?_) (fun c_79 => ?_)
        · have hnl9 : ∀ q : Nat, (q : Int) < k + 1 → ¬ lowX (rfM gh AI 0 q).2 (rfM gh AI 0 q).1 bf (q : Int) nb := fun q hq => by
            by_cases e9 : (q : Int) = k
            · rw [e9, show q = k.toNat by omega]; exact tIz_0 qlw (by omega)
            · exact hnl q (by omega)
          refine z_iinc (lv' := [(1, .int (iI (k + 1))), (0, .ref mo)]) F dX7_drafts_30 hl (k := 0) rfl (by decide) rfl (fun ls hl => ?_)
          refine z_goto (tgt := 9) F dX7_drafts_33 (by decide) ?_
          exact ih9 (k + 1) I_69 AI_72 H locs ls ⟨by omega, by omega⟩ hv hT wf (by omega) fW hnl9 (by omega) hH hS (lv_sub hl [0, 1] rfl)
        · refine z_bipush F dX7_drafts_27 (by decide) ?_
          exact g_iret F hr hlk hH hS hz ⟨by decide, by decide⟩ ⟨rfl, rfl, rfl, rfl, hv, hT, wf, (dr_low (sdK_k hs1 (rk_1 (sd := 10) (rr := 0) (AI := AI_5) (AI1 := AI_72) hv1 hm (fun b h1 h2 _ _ _ => fW b h1 h2) (fun j _ => by rw [fW _ (show gh 79 0 ≠ gh 75 0 from mNe hv hm (p := (29, 176)) (q := (25, 9600)) (by decide) (by decide) (by decide)) (show gh 79 0 ≠ gh 77 0 from mNe hv hm (p := (29, 176)) (q := (27, 4)) (by decide) (by decide) (by decide))])) (by decide)) (noZ_k hz1 (rk_1 (sd := 10) (rr := 0) (AI := AI_5) (AI1 := AI_72) hv1 hm (fun b h1 h2 _ _ _ => fW b h1 h2) (fun j _ => by rw [fW _ (show gh 79 0 ≠ gh 75 0 from mNe hv hm (p := (29, 176)) (q := (25, 9600)) (by decide) (by decide) (by decide)) (show gh 79 0 ≠ gh 77 0 from mNe hv hm (p := (29, 176)) (q := (27, 4)) (by decide) (by decide) (by decide))]))) (low_b hbm.2.1 (hps k.toNat (by omega)) (by omega) (tIz_1 qlw (by omega))))⟩ dX7_drafts_29
  exact cut_9_10 (((16 - 0) + 1 : Int).toNat) 0 I AI_5 H locs ls ⟨by decide, by decide⟩ hv hT wf (by omega) (fun _ _ _ => rfl) (fun j hj => absurd hj (by omega)) (by omega) hH hS (lv_sub hl [0, 1] rfl)
