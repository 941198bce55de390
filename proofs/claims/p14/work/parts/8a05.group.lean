def rmX3_foldf : Room := { frames := 1, cells := 0, slots := 0, locals := 23 }
set_option maxHeartbeats 4000000 in
set_option maxRecDepth 100000 in
/-- the fold of a group -/
theorem c_X3_foldf (l : Launch) (g : gG) (gh : gGh) (lc : LC) (I : gI) (R : gR) (J : gJ) (AI : gI) (AJ : gJ) (AR : gR) (fd : Int) (out : Nat) (row : Int) (val : Int) (n : Int) (zfd : zr fd) (zrow : zr row) (zval : zr val) (zn : zr n) (hv : gInv g gh R AR I AI) (hout : gO g out 4) (h4 : gh 2 out = 4) (h0 : 0 ≤ row ∧ row < (gh 1 out : Int)) (h4 : gh 2 out = 4) (hfd : fd = 16 + lc.1 9) (hf9 : 0 ≤ lc.1 9 ∧ lc.1 9 ≤ 3) : gMet l g yX3_fold wsX3_fold rmX3_foldf [.int (iI fd), .ref out, .int (iI row), .int (iI val), .int (iI n)] (I, R, J, AI, AJ, AR) (gQv g (fun w : gS => I = w.1 ∧ R = w.2.1 ∧ J = w.2.2.1 ∧ AJ = w.2.2.2.2.1 ∧ AR = w.2.2.2.2.2 ∧ (gInv g gh R AR I (w.2.2.2.1)) ∧ (fldP lc (AI (gh 0 out)) ((w.2.2.2.1) (gh 0 out)) row.toNat (iI val) (iI n)) ∧ (∀ b, b ≠ gh 0 out → (w.2.2.2.1) b = AI b))) := by
  refine gStart (cc := cX3_fold) (maxL := 7) (ret := none) (by decide) rfl (Nat.le_of_ble_eq_true rfl) ?_
  intro p e s m below meth c ls F hr hlk hH hz hS hl
  have hl : lv_has ls 7 [(0, .int (iI fd)), (1, .ref out), (2, .int (iI row)), (3, .int (iI val)), (4, .int (iI n))] := hl
  have hS : va_S (gA g) s.heap s.heap [] := hS
  obtain ⟨H, hHe⟩ : ∃ H : Heap, H = s.heap := ⟨_, rfl⟩
  obtain ⟨locs, hlo⟩ : ∃ k : List Loc, k = [] := ⟨_, rfl⟩
  have hH : gH g I R J AI AJ AR H := by rw [hHe]; exact hH
  have hS : va_S (gA g) s.heap H locs := by rw [hHe, hlo]; exact hS
  suffices hw : W p l e rmX3_foldf s m ([.int (iI fd), .ref out, .int (iI row), .int (iI val), .int (iI n)] : List Value).toArray below meth c H locs 0 0 (MQ below (gQv g (fun w : gS => I = w.1 ∧ R = w.2.1 ∧ J = w.2.2.1 ∧ AJ = w.2.2.2.2.1 ∧ AR = w.2.2.2.2.2 ∧ (gInv g gh R AR I (w.2.2.2.1)) ∧ (fldP lc (AI (gh 0 out)) ((w.2.2.2.1) (gh 0 out)) row.toNat (iI val) (iI n)) ∧ (∀ b, b ≠ gh 0 out → (w.2.2.2.1) b = AI b))) ([.int (iI fd), .ref out, .int (iI row), .int (iI val), .int (iI n)] : List Value).toArray s 0 0 (gA g)) (F0 m 0 ls []) by
    rw [hHe, hlo] at hw; exact hw
  clear hHe hlo
  refine lv_aload_n F.1 F.2.1 dX3_fold_0 rfl (lv_at hl 1 rfl) ?_
  refine lv_iload_n F.1 F.2.1 dX3_fold_1 rfl (lv_at hl 2 rfl) ?_
  obtain ⟨b_1a, b_1b, b_1c, b_1d, b_1e, b_1f, b_1g, b_1h⟩ := gI_rows hv hout
  refine g_calli (g_runV (As := [.int (iI row)]) (rest := []) (ci := 4) F hl.1 hH hS hz (c_X4_amount l g gh I R J AI AJ AR out row zrow hv hout (by omega) (by omega)) (cwV 1 F.2.2.2.2.1 gX3_fold_X4_amount rfl rfl rfl hdX4_amount ⟨Nat.le_of_ble_eq_true rfl, Nat.le_of_ble_eq_true rfl⟩) hout (by decide) rfl rfl rfl (Nat.le_of_ble_eq_true rfl) dX3_fold_2 ⟨Nat.zero_le _, Nat.zero_le _⟩) hS (fun v_8 I_2 R_3 J_4 AI_5 AJ_6 AR_7 H locs zv_8 hp_9 hH hS => ?_)
  dsimp only at hp_9
  obtain ⟨rfl, rfl, rfl, rfl, rfl, rfl, qh0⟩ := hp_9
  have qh : iI v_8 = (AI (gh 0 out)) (6 * row.toNat + 4) := by rw [qh0, iI_self]; congr 1; omega
  refine lv_istore (lv' := [(5, .int (iI v_8)), (0, .int (iI fd)), (1, .ref out), (2, .int (iI row)), (3, .int (iI val)), (4, .int (iI n))]) F.1 F.2.1 dX3_fold_5 hl (by decide) rfl (fun ls hl => ?_)
  refine lv_iload_n F.1 F.2.1 dX3_fold_7 rfl (lv_at hl 1 rfl) ?_
  refine z_bipush F dX3_fold_8 (by decide) ?_
  refine z_icmp_ne (tgt := 27) F dX3_fold_10 (by decide) zfd ⟨by decide, by decide⟩ (fun c_10 => ?_) (fun c_10 => ?_)
  · refine lv_iload_n F.1 F.2.1 dX3_fold_27 rfl (lv_at hl 1 rfl) ?_
    refine z_bipush F dX3_fold_28 (by decide) ?_
    refine z_icmp_ne (tgt := 49) F dX3_fold_30 (by decide) zfd ⟨by decide, by decide⟩ (fun c_11 => ?_) (fun c_11 => ?_)
    · refine lv_iload F.1 F.2.1 dX3_fold_49 (lv_at hl 5 rfl) ?_
      refine z_if_le (tgt := 110) F dX3_fold_51 (by decide) zn (fun c_12 => ?_) (fun c_12 => ?_)
      · exact g_vret F hr hlk hH hS hz ⟨rfl, rfl, rfl, rfl, rfl, hv, by (try dsimp only); exact fld_no (by omega) (by omega) (by rw [iI_val zn]; omega), by (try dsimp only); exact fun _ _ => rfl⟩ dX3_fold_110
      · refine lv_aload_n F.1 F.2.1 dX3_fold_54 rfl (lv_at hl 2 rfl) ?_
        refine lv_iload_n F.1 F.2.1 dX3_fold_55 rfl (lv_at hl 3 rfl) ?_
        refine z_iconst F dX3_fold_56 ?_
        refine g_calli (g_runV (As := [.int (iI row), .int (iI 5)]) (rest := []) (ci := 4) F hl.1 hH hS hz (c_X4_cell l g gh I R J AI AJ AR out row 5 zrow ⟨by decide, by decide⟩ hv hout (by omega) (by omega) (by omega) (by omega)) (cwV 2 F.2.2.2.2.1 gX3_fold_X4_cell rfl rfl rfl hdX4_cell ⟨Nat.le_of_ble_eq_true rfl, Nat.le_of_ble_eq_true rfl⟩) hout (by decide) rfl rfl rfl (Nat.le_of_ble_eq_true rfl) dX3_fold_57 ⟨Nat.zero_le _, Nat.zero_le _⟩) hS (fun v_19 I_13 R_14 J_15 AI_16 AJ_17 AR_18 H locs zv_19 hp_20 hH hS => ?_)
        dsimp only at hp_20
        obtain ⟨rfl, rfl, rfl, rfl, rfl, rfl, qm0⟩ := hp_20
        have qm : iI v_19 = (AI (gh 0 out)) (6 * row.toNat + 5) := by rw [qm0, iI_self]; congr 1; omega
        refine z_if_ne (tgt := 67) F dX3_fold_60 (by decide) zv_19 (fun c_21 => ?_) (fun c_21 => ?_)
        · refine z_iconst F dX3_fold_67 ?_
          refine lv_istore (lv' := [(6, .int (iI 0)), (5, .int (iI v_8)), (0, .int (iI fd)), (1, .ref out), (2, .int (iI row)), (3, .int (iI val)), (4, .int (iI n))]) F.1 F.2.1 dX3_fold_68 hl (by decide) rfl (fun ls hl => ?_)
          refine lv_iload F.1 F.2.1 dX3_fold_70 (lv_at hl 0 rfl) ?_
          refine z_if_ne (tgt := 96) F dX3_fold_72 (by decide) ⟨by decide, by decide⟩ (fun c_22 => ?_) (fun c_22 => ?_)
          · exact absurd trivial (by omega)
          · refine lv_iload_n F.1 F.2.1 dX3_fold_75 rfl (lv_at hl 2 rfl) ?_
            refine z_bipush F dX3_fold_76 (by decide) ?_
            refine z_icmp_ne (tgt := 90) F dX3_fold_78 (by decide) zfd ⟨by decide, by decide⟩ (fun c_23 => ?_) (fun c_23 => ?_)
            · refine lv_iload_n F.1 F.2.1 dX3_fold_90 rfl (lv_at hl 5 rfl) ?_
              refine lv_iload F.1 F.2.1 dX3_fold_91 (lv_at hl 1 rfl) ?_
              refine z_icmp_le (tgt := 103) F dX3_fold_93 (by decide) zval zv_8 (fun c_24 => ?_) (fun c_24 => ?_)
              · refine lv_aload_n F.1 F.2.1 dX3_fold_103 rfl (lv_at hl 3 rfl) ?_
                refine lv_iload_n F.1 F.2.1 dX3_fold_104 rfl (lv_at hl 4 rfl) ?_
                refine z_iconst F dX3_fold_105 ?_
                refine z_iconst F dX3_fold_106 ?_
                refine g_callv (g_runV (As := [.int (iI row), .int (iI 5), .int (iI 1)]) (rest := []) (ci := 4) F hl.1 hH hS hz (c_X4_setCell l g gh I R J AI AJ AR out row 5 1 zrow ⟨by decide, by decide⟩ ⟨by decide, by decide⟩ hv hout (by omega) (by omega) (by omega) (by omega) (by omega) (by first | exact hfz | omega)) (cwV 3 F.2.2.2.2.1 gX3_fold_X4_setCell rfl rfl rfl hdX4_setCell ⟨Nat.le_of_ble_eq_true rfl, Nat.le_of_ble_eq_true rfl⟩) hout (by decide) rfl rfl rfl (Nat.le_of_ble_eq_true rfl) dX3_fold_107 ⟨Nat.zero_le _, Nat.zero_le _⟩) hS (fun I_25 R_26 J_27 AI_28 AJ_29 AR_30 H locs hp_31 hH hS => ?_)
                dsimp only at hp_31
                obtain ⟨rfl, rfl, rfl, rfl, rfl, e2, hv, q_32⟩ := hp_31
                exact g_vret F hr hlk hH hS hz ⟨rfl, rfl, rfl, rfl, rfl, hv, by (try dsimp only); exact fld_keep (by omega) (by omega) (by rw [iI_val zn]; omega) (by rw [← qm, ← qh, iI_val zval, iI_val zv_8]; rintro (h9 | h9 | h9); (· exact absurd ((iI_eq zv_19 zr_0).mp h9) (by omega)); (· omega); (· omega)) (fun j h => by rw [e2, gup2_k _ _ (by omega)]) (by rw [e2, gup2_e _ _ (by omega)]; rfl), by (try dsimp only); exact fun b hb => by rw [e2]; exact funext fun j => gup2_a _ _ hb⟩ dX3_fold_110
              · refine lv_aload_n F.1 F.2.1 dX3_fold_96 rfl (lv_at hl 3 rfl) ?_
                refine lv_iload_n F.1 F.2.1 dX3_fold_97 rfl (lv_at hl 4 rfl) ?_
                refine z_iconst F dX3_fold_98 ?_
                refine lv_iload_n F.1 F.2.1 dX3_fold_99 rfl (lv_at hl 5 rfl) ?_
                refine g_callv (g_runV (As := [.int (iI row), .int (iI 4), .int (iI val)]) (rest := []) (ci := 4) F hl.1 hH hS hz (c_X4_setCell l g gh I R J AI AJ AR out row 4 val zrow ⟨by decide, by decide⟩ zval hv hout (by omega) (by omega) (by omega) (by omega) (by omega) (by first | exact hfz | omega)) (cwV 3 F.2.2.2.2.1 gX3_fold_X4_setCell rfl rfl rfl hdX4_setCell ⟨Nat.le_of_ble_eq_true rfl, Nat.le_of_ble_eq_true rfl⟩) hout (by decide) rfl rfl rfl (Nat.le_of_ble_eq_true rfl) dX3_fold_100 ⟨Nat.zero_le _, Nat.zero_le _⟩) hS (fun I_33 R_34 J_35 AI_36 AJ_37 AR_38 H locs hp_39 hH hS => ?_)
                dsimp only at hp_39
                obtain ⟨rfl, rfl, rfl, rfl, rfl, e1, hv, q_40⟩ := hp_39
                refine lv_aload_n F.1 F.2.1 dX3_fold_103 rfl (lv_at hl 3 rfl) ?_
                refine lv_iload_n F.1 F.2.1 dX3_fold_104 rfl (lv_at hl 4 rfl) ?_
                refine z_iconst F dX3_fold_105 ?_
                refine z_iconst F dX3_fold_106 ?_
                refine g_callv (g_runV (As := [.int (iI row), .int (iI 5), .int (iI 1)]) (rest := []) (ci := 4) F hl.1 hH hS hz (c_X4_setCell l g gh I R J AI_36 AJ AR out row 5 1 zrow ⟨by decide, by decide⟩ ⟨by decide, by decide⟩ hv hout (by omega) (by omega) (by omega) (by omega) (by omega) (by first | exact hfz | omega)) (cwV 3 F.2.2.2.2.1 gX3_fold_X4_setCell rfl rfl rfl hdX4_setCell ⟨Nat.le_of_ble_eq_true rfl, Nat.le_of_ble_eq_true rfl⟩) hout (by decide) rfl rfl rfl (Nat.le_of_ble_eq_true rfl) dX3_fold_107 ⟨Nat.zero_le _, Nat.zero_le _⟩) hS (fun I_41 R_42 J_43 AI_44 AJ_45 AR_46 H locs hp_47 hH hS => ?_)
                dsimp only at hp_47
                obtain ⟨rfl, rfl, rfl, rfl, rfl, e2, hv, q_48⟩ := hp_47
                exact g_vret F hr hlk hH hS hz ⟨rfl, rfl, rfl, rfl, rfl, hv, by (try dsimp only); exact fld_set (by omega) (by omega) (by rw [iI_val zn]; omega) (by rw [← qm, ← qh, iI_val zval, iI_val zv_8]; first | exact Or.inl (by rw [show v_19 = 0 by omega]; rfl) | exact Or.inr (Or.inl (by omega)) | exact Or.inr (Or.inr (by omega))) (fun j h h5 => by rw [e2, gup2_k _ _ (by omega), e1, gup2_k _ _ (by omega)]) (by rw [e2, gup2_k _ _ (by omega), e1, gup2_e _ _ (by omega)]) (by rw [e2, gup2_e _ _ (by omega)]; rfl), by (try dsimp only); exact fun b hb => by rw [e2, e1]; exact funext fun j => (gup2_a _ _ hb).trans (gup2_a _ _ hb)⟩ dX3_fold_110
            · refine lv_iload_n F.1 F.2.1 dX3_fold_81 rfl (lv_at hl 5 rfl) ?_
              refine lv_iload F.1 F.2.1 dX3_fold_82 (lv_at hl 1 rfl) ?_
              refine z_icmp_ge (tgt := 103) F dX3_fold_84 (by decide) zval zv_8 (fun c_49 => ?_) (fun c_49 => ?_)
              · refine lv_aload_n F.1 F.2.1 dX3_fold_103 rfl (lv_at hl 3 rfl) ?_
                refine lv_iload_n F.1 F.2.1 dX3_fold_104 rfl (lv_at hl 4 rfl) ?_
                refine z_iconst F dX3_fold_105 ?_
                refine z_iconst F dX3_fold_106 ?_
                refine g_callv (g_runV (As := [.int (iI row), .int (iI 5), .int (iI 1)]) (rest := []) (ci := 4) F hl.1 hH hS hz (c_X4_setCell l g gh I R J AI AJ AR out row 5 1 zrow ⟨by decide, by decide⟩ ⟨by decide, by decide⟩ hv hout (by omega) (by omega) (by omega) (by omega) (by omega) (by first | exact hfz | omega)) (cwV 3 F.2.2.2.2.1 gX3_fold_X4_setCell rfl rfl rfl hdX4_setCell ⟨Nat.le_of_ble_eq_true rfl, Nat.le_of_ble_eq_true rfl⟩) hout (by decide) rfl rfl rfl (Nat.le_of_ble_eq_true rfl) dX3_fold_107 ⟨Nat.zero_le _, Nat.zero_le _⟩) hS (fun I_50 R_51 J_52 AI_53 AJ_54 AR_55 H locs hp_56 hH hS => ?_)
                dsimp only at hp_56
                obtain ⟨rfl, rfl, rfl, rfl, rfl, e2, hv, q_57⟩ := hp_56
                exact g_vret F hr hlk hH hS hz ⟨rfl, rfl, rfl, rfl, rfl, hv, by (try dsimp only); exact fld_keep (by omega) (by omega) (by rw [iI_val zn]; omega) (by rw [← qm, ← qh, iI_val zval, iI_val zv_8]; rintro (h9 | h9 | h9); (· exact absurd ((iI_eq zv_19 zr_0).mp h9) (by omega)); (· omega); (· omega)) (fun j h => by rw [e2, gup2_k _ _ (by omega)]) (by rw [e2, gup2_e _ _ (by omega)]; rfl), by (try dsimp only); exact fun b hb => by rw [e2]; exact funext fun j => gup2_a _ _ hb⟩ dX3_fold_110
              · refine z_goto (tgt := 96) F dX3_fold_87 (by decide) ?_
                refine lv_aload_n F.1 F.2.1 dX3_fold_96 rfl (lv_at hl 3 rfl) ?_
                refine lv_iload_n F.1 F.2.1 dX3_fold_97 rfl (lv_at hl 4 rfl) ?_
                refine z_iconst F dX3_fold_98 ?_
                refine lv_iload_n F.1 F.2.1 dX3_fold_99 rfl (lv_at hl 5 rfl) ?_
                refine g_callv (g_runV (As := [.int (iI row), .int (iI 4), .int (iI val)]) (rest := []) (ci := 4) F hl.1 hH hS hz (c_X4_setCell l g gh I R J AI AJ AR out row 4 val zrow ⟨by decide, by decide⟩ zval hv hout (by omega) (by omega) (by omega) (by omega) (by omega) (by first | exact hfz | omega)) (cwV 3 F.2.2.2.2.1 gX3_fold_X4_setCell rfl rfl rfl hdX4_setCell ⟨Nat.le_of_ble_eq_true rfl, Nat.le_of_ble_eq_true rfl⟩) hout (by decide) rfl rfl rfl (Nat.le_of_ble_eq_true rfl) dX3_fold_100 ⟨Nat.zero_le _, Nat.zero_le _⟩) hS (fun I_58 R_59 J_60 AI_61 AJ_62 AR_63 H locs hp_64 hH hS => ?_)
                dsimp only at hp_64
                obtain ⟨rfl, rfl, rfl, rfl, rfl, e1, hv, q_65⟩ := hp_64
                refine lv_aload_n F.1 F.2.1 dX3_fold_103 rfl (lv_at hl 3 rfl) ?_
                refine lv_iload_n F.1 F.2.1 dX3_fold_104 rfl (lv_at hl 4 rfl) ?_
                refine z_iconst F dX3_fold_105 ?_
                refine z_iconst F dX3_fold_106 ?_
                refine g_callv (g_runV (As := [.int (iI row), .int (iI 5), .int (iI 1)]) (rest := []) (ci := 4) F hl.1 hH hS hz (c_X4_setCell l g gh I R J AI_61 AJ AR out row 5 1 zrow ⟨by decide, by decide⟩ ⟨by decide, by decide⟩ hv hout (by omega) (by omega) (by omega) (by omega) (by omega) (by first | exact hfz | omega)) (cwV 3 F.2.2.2.2.1 gX3_fold_X4_setCell rfl rfl rfl hdX4_setCell ⟨Nat.le_of_ble_eq_true rfl, Nat.le_of_ble_eq_true rfl⟩) hout (by decide) rfl rfl rfl (Nat.le_of_ble_eq_true rfl) dX3_fold_107 ⟨Nat.zero_le _, Nat.zero_le _⟩) hS (fun I_66 R_67 J_68 AI_69 AJ_70 AR_71 H locs hp_72 hH hS => ?_)
                dsimp only at hp_72
                obtain ⟨rfl, rfl, rfl, rfl, rfl, e2, hv, q_73⟩ := hp_72
                exact g_vret F hr hlk hH hS hz ⟨rfl, rfl, rfl, rfl, rfl, hv, by (try dsimp only); exact fld_set (by omega) (by omega) (by rw [iI_val zn]; omega) (by rw [← qm, ← qh, iI_val zval, iI_val zv_8]; first | exact Or.inl (by rw [show v_19 = 0 by omega]; rfl) | exact Or.inr (Or.inl (by omega)) | exact Or.inr (Or.inr (by omega))) (fun j h h5 => by rw [e2, gup2_k _ _ (by omega), e1, gup2_k _ _ (by omega)]) (by rw [e2, gup2_k _ _ (by omega), e1, gup2_e _ _ (by omega)]) (by rw [e2, gup2_e _ _ (by omega)]; rfl), by (try dsimp only); exact fun b hb => by rw [e2, e1]; exact funext fun j => (gup2_a _ _ hb).trans (gup2_a _ _ hb)⟩ dX3_fold_110
        · refine z_iconst F dX3_fold_63 ?_
          refine z_goto (tgt := 68) F dX3_fold_64 (by decide) ?_
          refine lv_istore (lv' := [(6, .int (iI 1)), (5, .int (iI v_8)), (0, .int (iI fd)), (1, .ref out), (2, .int (iI row)), (3, .int (iI val)), (4, .int (iI n))]) F.1 F.2.1 dX3_fold_68 hl (by decide) rfl (fun ls hl => ?_)
          refine lv_iload F.1 F.2.1 dX3_fold_70 (lv_at hl 0 rfl) ?_
          refine z_if_ne (tgt := 96) F dX3_fold_72 (by decide) ⟨by decide, by decide⟩ (fun c_74 => ?_) (fun c_74 => ?_)
          · refine lv_aload_n F.1 F.2.1 dX3_fold_96 rfl (lv_at hl 3 rfl) ?_
            refine lv_iload_n F.1 F.2.1 dX3_fold_97 rfl (lv_at hl 4 rfl) ?_
            refine z_iconst F dX3_fold_98 ?_
            refine lv_iload_n F.1 F.2.1 dX3_fold_99 rfl (lv_at hl 5 rfl) ?_
            refine g_callv (g_runV (As := [.int (iI row), .int (iI 4), .int (iI val)]) (rest := []) (ci := 4) F hl.1 hH hS hz (c_X4_setCell l g gh I R J AI AJ AR out row 4 val zrow ⟨by decide, by decide⟩ zval hv hout (by omega) (by omega) (by omega) (by omega) (by omega) (by first | exact hfz | omega)) (cwV 3 F.2.2.2.2.1 gX3_fold_X4_setCell rfl rfl rfl hdX4_setCell ⟨Nat.le_of_ble_eq_true rfl, Nat.le_of_ble_eq_true rfl⟩) hout (by decide) rfl rfl rfl (Nat.le_of_ble_eq_true rfl) dX3_fold_100 ⟨Nat.zero_le _, Nat.zero_le _⟩) hS (fun I_75 R_76 J_77 AI_78 AJ_79 AR_80 H locs hp_81 hH hS => ?_)
            dsimp only at hp_81
            obtain ⟨rfl, rfl, rfl, rfl, rfl, e1, hv, q_82⟩ := hp_81
            refine lv_aload_n F.1 F.2.1 dX3_fold_103 rfl (lv_at hl 3 rfl) ?_
            refine lv_iload_n F.1 F.2.1 dX3_fold_104 rfl (lv_at hl 4 rfl) ?_
            refine z_iconst F dX3_fold_105 ?_
            refine z_iconst F dX3_fold_106 ?_
            refine g_callv (g_runV (As := [.int (iI row), .int (iI 5), .int (iI 1)]) (rest := []) (ci := 4) F hl.1 hH hS hz (c_X4_setCell l g gh I R J AI_78 AJ AR out row 5 1 zrow ⟨by decide, by decide⟩ ⟨by decide, by decide⟩ hv hout (by omega) (by omega) (by omega) (by omega) (by omega) (by first | exact hfz | omega)) (cwV 3 F.2.2.2.2.1 gX3_fold_X4_setCell rfl rfl rfl hdX4_setCell ⟨Nat.le_of_ble_eq_true rfl, Nat.le_of_ble_eq_true rfl⟩) hout (by decide) rfl rfl rfl (Nat.le_of_ble_eq_true rfl) dX3_fold_107 ⟨Nat.zero_le _, Nat.zero_le _⟩) hS (fun I_83 R_84 J_85 AI_86 AJ_87 AR_88 H locs hp_89 hH hS => ?_)
            dsimp only at hp_89
            obtain ⟨rfl, rfl, rfl, rfl, rfl, e2, hv, q_90⟩ := hp_89
            exact g_vret F hr hlk hH hS hz ⟨rfl, rfl, rfl, rfl, rfl, hv, by (try dsimp only); exact fld_set (by omega) (by omega) (by rw [iI_val zn]; omega) (by rw [← qm, ← qh, iI_val zval, iI_val zv_8]; first | exact Or.inl (by rw [show v_19 = 0 by omega]; rfl) | exact Or.inr (Or.inl (by omega)) | exact Or.inr (Or.inr (by omega))) (fun j h h5 => by rw [e2, gup2_k _ _ (by omega), e1, gup2_k _ _ (by omega)]) (by rw [e2, gup2_k _ _ (by omega), e1, gup2_e _ _ (by omega)]) (by rw [e2, gup2_e _ _ (by omega)]; rfl), by (try dsimp only); exact fun b hb => by rw [e2, e1]; exact funext fun j => (gup2_a _ _ hb).trans (gup2_a _ _ hb)⟩ dX3_fold_110
          · exact absurd trivial (by omega)
    · refine lv_aload_n F.1 F.2.1 dX3_fold_33 rfl (lv_at hl 2 rfl) ?_
      refine lv_iload_n F.1 F.2.1 dX3_fold_34 rfl (lv_at hl 3 rfl) ?_
      refine z_iconst F dX3_fold_35 ?_
      refine lv_iload F.1 F.2.1 dX3_fold_36 (lv_at hl 0 rfl) ?_
      refine lv_iload F.1 F.2.1 dX3_fold_38 (lv_at hl 5 rfl) ?_
      refine lv_iload_n F.1 F.2.1 dX3_fold_40 rfl (lv_at hl 4 rfl) ?_
      refine z_imul F dX3_fold_41 ?_
      refine z_norm (fun v_91 zv_91 ev_91 => ?_)
      refine z_iadd F dX3_fold_42 ?_
      refine z_norm (fun v_92 zv_92 ev_92 => ?_)
      refine g_callv (g_runV (As := [.int (iI row), .int (iI 4), .int (iI v_92)]) (rest := []) (ci := 4) F hl.1 hH hS hz (c_X4_setCell l g gh I R J AI AJ AR out row 4 v_92 zrow ⟨by decide, by decide⟩ zv_92 hv hout (by omega) (by omega) (by omega) (by omega) (by omega) (by first | exact hfz | omega)) (cwV 3 F.2.2.2.2.1 gX3_fold_X4_setCell rfl rfl rfl hdX4_setCell ⟨Nat.le_of_ble_eq_true rfl, Nat.le_of_ble_eq_true rfl⟩) hout (by decide) rfl rfl rfl (Nat.le_of_ble_eq_true rfl) dX3_fold_43 ⟨Nat.zero_le _, Nat.zero_le _⟩) hS (fun I_93 R_94 J_95 AI_96 AJ_97 AR_98 H locs hp_99 hH hS => ?_)
      dsimp only at hp_99
      obtain ⟨rfl, rfl, rfl, rfl, rfl, e1, hv, q_100⟩ := hp_99
      refine z_goto (tgt := 110) F dX3_fold_46 (by decide) ?_
      exact g_vret F hr hlk hH hS hz ⟨rfl, rfl, rfl, rfl, rfl, hv, by (try dsimp only); exact fld_sum (by omega) (fun j h => by rw [e1, gup2_k _ _ (by omega)]) (by rw [e1, gup2_e _ _ (by omega), ev_92, ← iI_add, qh, ev_91, ← iI_mul]), by (try dsimp only); exact fun b hb => by rw [e1]; exact funext fun j => gup2_a _ _ hb⟩ dX3_fold_110
  · refine lv_aload_n F.1 F.2.1 dX3_fold_13 rfl (lv_at hl 2 rfl) ?_
    refine lv_iload_n F.1 F.2.1 dX3_fold_14 rfl (lv_at hl 3 rfl) ?_
    refine z_iconst F dX3_fold_15 ?_
    refine lv_iload F.1 F.2.1 dX3_fold_16 (lv_at hl 0 rfl) ?_
    refine lv_iload F.1 F.2.1 dX3_fold_18 (lv_at hl 5 rfl) ?_
    refine z_iadd F dX3_fold_20 ?_
    refine z_norm (fun v_101 zv_101 ev_101 => ?_)
    refine g_callv (g_runV (As := [.int (iI row), .int (iI 4), .int (iI v_101)]) (rest := []) (ci := 4) F hl.1 hH hS hz (c_X4_setCell l g gh I R J AI AJ AR out row 4 v_101 zrow ⟨by decide, by decide⟩ zv_101 hv hout (by omega) (by omega) (by omega) (by omega) (by omega) (by first | exact hfz | omega)) (cwV 3 F.2.2.2.2.1 gX3_fold_X4_setCell rfl rfl rfl hdX4_setCell ⟨Nat.le_of_ble_eq_true rfl, Nat.le_of_ble_eq_true rfl⟩) hout (by decide) rfl rfl rfl (Nat.le_of_ble_eq_true rfl) dX3_fold_21 ⟨Nat.zero_le _, Nat.zero_le _⟩) hS (fun I_102 R_103 J_104 AI_105 AJ_106 AR_107 H locs hp_108 hH hS => ?_)
    dsimp only at hp_108
    obtain ⟨rfl, rfl, rfl, rfl, rfl, e1, hv, q_109⟩ := hp_108
    refine z_goto (tgt := 110) F dX3_fold_24 (by decide) ?_
    exact g_vret F hr hlk hH hS hz ⟨rfl, rfl, rfl, rfl, rfl, hv, by (try dsimp only); exact fld_cnt (by omega) (fun j h => by rw [e1, gup2_k _ _ (by omega)]) (by rw [e1, gup2_e _ _ (by omega), ev_101, ← iI_add, qh]), by (try dsimp only); exact fun b hb => by rw [e1]; exact funext fun j => gup2_a _ _ hb⟩ dX3_fold_110

def rmX3_groupf : Room := { frames := 2, cells := 0, slots := 0, locals := 84 }
set_option maxHeartbeats 4000000 in
set_option maxRecDepth 100000 in
/-- a group -/
theorem c_X3_groupf (l : Launch) (g : gG) (gh : gGh) (lc : LC) (n : Nat) (I : gI) (R : gR) (J : gJ) (AI : gI) (AJ : gJ) (AR : gR) (a : Nat) (ln : Nat) (inr : Nat) (out : Nat) (hv : gInv g gh R AR I AI) (ha : gO g a 3) (hln : gO g ln 0) (hin : gO g inr 4) (hout : gO g out 4) (h4 : gh 2 out = 4) (hkd : (I ln 0).toInt = 7) (hlc : lnC (I ln) (AI (gh 3 ln)) lc) (hk7 : lc.1 0 = 7) (hg9 : 0 ≤ lc.1 9 ∧ lc.1 9 ≤ 3) (hg10 : 0 ≤ lc.1 10 ∧ lc.1 10 ≤ 3) (hp4 : 0 ≤ lc.1 4 ∧ lc.1 4 ≤ 3) (hne : inr ≠ out) (h5 : gh 2 inr = 4) (hnx : (I inr 3).toInt = (n : Int)) (hA : okB (AI (gh 0 inr)) n) (hl0 : (I out 3).toInt = 0) (hn9 : (n : Int) ≤ (gh 1 out : Int)) : gMet l g yX3_group wsX3_group rmX3_groupf [.ref a, .ref ln, .ref inr, .ref out] (I, R, J, AI, AJ, AR) (gQi g (fun (z : Int) (w : gS) => R = w.2.1 ∧ J = w.2.2.1 ∧ AJ = w.2.2.2.2.1 ∧ AR = w.2.2.2.2.2 ∧ (gInv g gh R AR (w.1) (w.2.2.2.1)) ∧ (rF g I (w.1)) ∧ (-4 ≤ z ∧ z ≤ 0) ∧ (kI out I (w.1)) ∧ (kA gh out AI (w.2.2.2.1)) ∧ (z = 0 ∧ isB ((w.2.2.2.1) (gh 0 out)) ((w.1) out 3).toInt.toNat (sG lc (AI (gh 0 inr)) n) zM ∧ ((w.1) out 3).toInt ≤ (n : Int)))) := by
  refine gStart (cc := cX3_group) (maxL := 6) (ret := (some (.int))) (by decide) rfl (Nat.le_of_ble_eq_true rfl) ?_
  intro p e s m below meth c ls F hr hlk hH hz hS hl
  have hl : lv_has ls 6 [(0, .ref a), (1, .ref ln), (2, .ref inr), (3, .ref out)] := hl
  have hS : va_S (gA g) s.heap s.heap [] := hS
  obtain ⟨H, hHe⟩ : ∃ H : Heap, H = s.heap := ⟨_, rfl⟩
  obtain ⟨locs, hlo⟩ : ∃ k : List Loc, k = [] := ⟨_, rfl⟩
  have hH : gH g I R J AI AJ AR H := by rw [hHe]; exact hH
  have hS : va_S (gA g) s.heap H locs := by rw [hHe, hlo]; exact hS
  suffices hw : W p l e rmX3_groupf s m ([.ref a, .ref ln, .ref inr, .ref out] : List Value).toArray below meth c H locs 0 0 (MQ below (gQi g (fun (z : Int) (w : gS) => R = w.2.1 ∧ J = w.2.2.1 ∧ AJ = w.2.2.2.2.1 ∧ AR = w.2.2.2.2.2 ∧ (gInv g gh R AR (w.1) (w.2.2.2.1)) ∧ (rF g I (w.1)) ∧ (-4 ≤ z ∧ z ≤ 0) ∧ (kI out I (w.1)) ∧ (kA gh out AI (w.2.2.2.1)) ∧ (z = 0 ∧ isB ((w.2.2.2.1) (gh 0 out)) ((w.1) out 3).toInt.toNat (sG lc (AI (gh 0 inr)) n) zM ∧ ((w.1) out 3).toInt ≤ (n : Int)))) ([.ref a, .ref ln, .ref inr, .ref out] : List Value).toArray s 0 0 (gA g)) (F0 m 0 ls []) by
    rw [hHe, hlo] at hw; exact hw
  clear hHe hlo
  have rf : rF g I I := rF_r
  have fI : kI out I I := kI_r
  have fA : kA gh out AI AI := kA_r
  have iX4 : ∀ w ∈ u_ws RX4 TX4 4, w ∈ wsX3_group := (by decide +kernel)
  have iX3 : ∀ w ∈ u_ws RX3 TX3 3, w ∈ wsX3_group := (by decide +kernel)
  have iX0 : ∀ w ∈ u_ws RX0 TX0 15, w ∈ wsX3_group := (by decide +kernel)
  have k23 : Cond.fieldLink RX3 23 (TX4 3).1 (TX4 3).2.1 (TX4 3).2.2.1 ∈ wsX3_group := List.mem_of_getElem? (i := 1) rfl
  have k110 : Cond.fieldLink RX3 110 (TX0 8).1 (TX0 8).2.1 (TX0 8).2.2.1 ∈ wsX3_group := List.mem_of_getElem? (i := 2) rfl
  have k11 : Cond.fieldLink RX3 11 (TX3 0).1 (TX3 0).2.1 (TX3 0).2.2.1 ∈ wsX3_group := List.mem_of_getElem? (i := 3) rfl
  have k113 : Cond.fieldLink RX3 113 (TX0 7).1 (TX0 7).2.1 (TX0 7).2.2.1 ∈ wsX3_group := List.mem_of_getElem? (i := 4) rfl
  have k124 : Cond.fieldLink RX3 124 (TX0 11).1 (TX0 11).2.1 (TX0 11).2.2.1 ∈ wsX3_group := List.mem_of_getElem? (i := 5) rfl
  have k127 : Cond.fieldLink RX3 127 (TX0 12).1 (TX0 12).2.1 (TX0 12).2.2.1 ∈ wsX3_group := List.mem_of_getElem? (i := 6) rfl
  refine lv_aload_n F.1 F.2.1 dX3_group_0 rfl (lv_at hl 0 rfl) ?_
  refine g_callv (g_runV (As := []) (rest := []) (ci := 3) F hl.1 hH hS hz (c_X3_clearKeyf l g gh I R J AI AJ AR a hv ha) (cwV 0 F.2.2.2.2.1 gX3_group_X3_clearKey rfl rfl rfl hdX3_clearKey ⟨Nat.le_of_ble_eq_true rfl, Nat.le_of_ble_eq_true rfl⟩) ha (by decide) rfl rfl rfl (Nat.le_of_ble_eq_true rfl) dX3_group_1 ⟨Nat.zero_le _, Nat.zero_le _⟩) hS (fun I_1 R_2 J_3 AI_4 AJ_5 AR_6 H locs hp_7 hH hS => ?_)
  dsimp only at hp_7
  obtain ⟨rfl, rfl, rfl, rfl, rfl, hv, q_8, hkz0⟩ := hp_7
  have fA := kA_t fA (kA_0 q_8)
  refine z_iconst F dX3_group_4 ?_
  refine lv_istore (lv' := [(4, .int (iI 0)), (0, .ref a), (1, .ref ln), (2, .ref inr), (3, .ref out)]) F.1 F.2.1 dX3_group_5 hl (by decide) rfl (fun ls hl => ?_)
  have cut_7_10 : ∀ (NN : Nat) (i : Int) (I_9 : gI) (AI_10 : gI) (H : Heap) (locs : List Loc) (ls : Array Slot), zr i → (gInv g gh R AR I_9 AI_10) → (rF g I I_9) → ((I_9 ln 0).toInt = 7) → (0 ≤ i ∧ i ≤ 240) → (kI out I I_9) → (kA gh out AI AI_10) → (∀ j : Nat, lc.1 4 ≤ (j : Int) → j < 5 → AI_10 (gh 30 0) j = 0) → (grI lc (AI (gh 0 inr)) (AI_10 (gh 0 out)) (I_9 out 3).toInt.toNat i.toNat) → (0 ≤ (I_9 out 3).toInt ∧ 0 ≤ i ∧ i ≤ (n : Int)) → (240 - i) < ((NN : Nat) : Int) → gH g I_9 R J AI_10 AJ AR H → va_S (gA g) s.heap H locs → lv_has ls 6 [(4, .int (iI i)), (0, .ref a), (1, .ref ln), (2, .ref inr), (3, .ref out)] → W p l e rmX3_groupf s m ([.ref a, .ref ln, .ref inr, .ref out] : List Value).toArray below meth c H locs 0 0 (MQ below (gQi g (fun (z : Int) (w : gS) => R = w.2.1 ∧ J = w.2.2.1 ∧ AJ = w.2.2.2.2.1 ∧ AR = w.2.2.2.2.2 ∧ (gInv g gh R AR (w.1) (w.2.2.2.1)) ∧ (rF g I (w.1)) ∧ (-4 ≤ z ∧ z ≤ 0) ∧ (kI out I (w.1)) ∧ (kA gh out AI (w.2.2.2.1)) ∧ (z = 0 ∧ isB ((w.2.2.2.1) (gh 0 out)) ((w.1) out 3).toInt.toNat (sG lc (AI (gh 0 inr)) n) zM ∧ ((w.1) out 3).toInt ≤ (n : Int)))) ([.ref a, .ref ln, .ref inr, .ref out] : List Value).toArray s 0 0 (gA g)) (F0 m 7 ls []) := by
    intro NN7
    induction NN7 with
    | zero =>
      intro i I_9 AI_10 H locs ls zi hv rf hkd hi fI fA hkz hgr hse2 hm7 hH hS hl
      exact absurd hm7 (by omega)
    | succ NN7 ih7 =>
      intro i I_9 AI_10 H locs ls zi hv rf hkd hi fI fA hkz hgr hse2 hm7 hH hS hl
      have hX : AI_10 (gh 0 inr) = AI (gh 0 inr) := kA_x fA hv ha hout hin hne
      have hXi : I_9 inr = I inr := fI inr hne
      have hXn : (I_9 inr 3).toInt = (n : Int) := by rw [hXi]; exact hnx
      have hlcN : lnC (I_9 ln) (AI_10 (gh 3 ln)) lc := lnC_m hlc (fI ln (gO_ne hln hout (by decide))) (kA_l fA hv ha hout hln)
      have hle := hgr.2
      have h8c := hlcN.2.1 (by omega)
      have hlen9 : (I_9 out 3).toInt = (((I_9 out 3).toInt.toNat : Nat) : Int) := by omega
      refine lv_iload F.1 F.2.1 dX3_group_7 (lv_at hl 0 rfl) ?_
      refine lv_aload_n F.1 F.2.1 dX3_group_9 rfl (lv_at hl 3 rfl) ?_
      refine g_getI (ci := 4) (k := 3) F hH rfl (by decide) iX4 hin (by decide) rfl k23 dX3_group_10 ?_
      obtain ⟨b_12a, b_12b, b_12c, b_12d, b_12e, b_12f, b_12g, b_12h⟩ := gI_rows hv hin
      refine z_icmp_ge (tgt := 124) F dX3_group_13 (by decide) zi (zr_t _) (fun c_13 => ?_) (fun c_13 => ?_)
      · refine z_iconst F dX3_group_124 ?_
        refine lv_istore (lv' := [(4, .int (iI 0)), (0, .ref a), (1, .ref ln), (2, .ref inr), (3, .ref out)]) F.1 F.2.1 dX3_group_125 hl (by decide) rfl (fun ls hl => ?_)
        have cut_127_15 : ∀ (NN : Nat) (i2 : Int) (I_14 : gI) (AI_15 : gI) (H : Heap) (locs : List Loc) (ls : Array Slot), zr i2 → (gInv g gh R AR I_14 AI_15) → (rF g I I_14) → ((I_14 ln 0).toInt = 7) → (0 ≤ i2 ∧ i2 ≤ 240) → (kI out I I_14) → (kA gh out AI AI_15) → (grF lc (AI (gh 0 inr)) (AI_15 (gh 0 out)) n (I_14 out 3).toInt.toNat i2.toNat) → (0 ≤ (I_14 out 3).toInt ∧ (I_14 out 3).toInt ≤ (n : Int) ∧ i2 ≤ (I_14 out 3).toInt) → (240 - i2) < ((NN : Nat) : Int) → gH g I_14 R J AI_15 AJ AR H → va_S (gA g) s.heap H locs → lv_has ls 6 [(4, .int (iI i2)), (0, .ref a), (1, .ref ln), (2, .ref inr), (3, .ref out)] → W p l e rmX3_groupf s m ([.ref a, .ref ln, .ref inr, .ref out] : List Value).toArray below meth c H locs 0 0 (MQ below (gQi g (fun (z : Int) (w : gS) => R = w.2.1 ∧ J = w.2.2.1 ∧ AJ = w.2.2.2.2.1 ∧ AR = w.2.2.2.2.2 ∧ (gInv g gh R AR (w.1) (w.2.2.2.1)) ∧ (rF g I (w.1)) ∧ (-4 ≤ z ∧ z ≤ 0) ∧ (kI out I (w.1)) ∧ (kA gh out AI (w.2.2.2.1)) ∧ (z = 0 ∧ isB ((w.2.2.2.1) (gh 0 out)) ((w.1) out 3).toInt.toNat (sG lc (AI (gh 0 inr)) n) zM ∧ ((w.1) out 3).toInt ≤ (n : Int)))) ([.ref a, .ref ln, .ref inr, .ref out] : List Value).toArray s 0 0 (gA g)) (F0 m 127 ls []) := by
          intro NN127
          induction NN127 with
          | zero =>
            intro i2 I_14 AI_15 H locs ls zi2 hv rf hkd hi2 fI fA hgf hse3 hm127 hH hS hl
            exact absurd hm127 (by omega)
          | succ NN127 ih127 =>
            intro i2 I_14 AI_15 H locs ls zi2 hv rf hkd hi2 fI fA hgf hse3 hm127 hH hS hl
            have qp3 := ((gP_line hv hln).2.2.2 hkd).1
            have hX : AI_15 (gh 0 inr) = AI (gh 0 inr) := kA_x fA hv ha hout hin hne
            have hXi : I_14 inr = I inr := fI inr hne
            have hXn : (I_14 inr 3).toInt = (n : Int) := by rw [hXi]; exact hnx
            have hlcN : lnC (I_14 ln) (AI_15 (gh 3 ln)) lc := lnC_m hlc (fI ln (gO_ne hln hout (by decide))) (kA_l fA hv ha hout hln)
            have h8c := hlcN.2.1 (by omega)
            refine lv_iload F.1 F.2.1 dX3_group_127 (lv_at hl 0 rfl) ?_
            refine lv_aload_n F.1 F.2.1 dX3_group_129 rfl (lv_at hl 4 rfl) ?_
            refine g_getI (ci := 4) (k := 3) F hH rfl (by decide) iX4 hout (by decide) rfl k23 dX3_group_130 ?_
            obtain ⟨b_17a, b_17b, b_17c, b_17d, b_17e, b_17f, b_17g, b_17h⟩ := gI_rows hv hout
            refine z_icmp_ge (tgt := 174) F dX3_group_133 (by decide) zi2 (zr_t _) (fun c_18 => ?_) (fun c_18 => ?_)
            · refine z_iconst F dX3_group_174 ?_
              exact g_iret F hr hlk hH hS hz ⟨by decide, by decide⟩ ⟨rfl, rfl, rfl, rfl, hv, rf, by first | omega | rfl | (dsimp only; omega), fI, fA, ⟨rfl, by (try dsimp only); rw [show i2.toNat = (I_14 out 3).toInt.toNat by omega] at hgf; exact grF_e hgf (by omega) (by omega), by (try dsimp only); omega⟩⟩ dX3_group_175
            · refine lv_aload_n F.1 F.2.1 dX3_group_136 rfl (lv_at hl 4 rfl) ?_
              refine lv_iload F.1 F.2.1 dX3_group_137 (lv_at hl 0 rfl) ?_
              refine lv_aload_n F.1 F.2.1 dX3_group_139 rfl (lv_at hl 2 rfl) ?_
              refine g_getI (ci := 0) (k := 8) F hH rfl (by decide) iX0 hln (by decide) rfl k110 dX3_group_140 ?_
              have b_19 := gI_line hv hln
              unfold vLineI at b_19
              refine lv_aload_n F.1 F.2.1 dX3_group_143 rfl (lv_at hl 4 rfl) ?_
              refine lv_iload F.1 F.2.1 dX3_group_144 (lv_at hl 0 rfl) ?_
              refine g_calli (g_runV (As := [.int (iI i2)]) (rest := [.int (iI ((I_14 ln 8).toInt)), .int (iI i2), .ref out]) (ci := 4) F hl.1 hH hS hz (c_X4_amount l g gh I_14 R J AI_15 AJ AR out i2 zi2 hv hout (by omega) (by omega)) (cwV 1 F.2.2.2.2.1 gX3_group_X4_amount rfl rfl rfl hdX4_amount ⟨Nat.le_of_ble_eq_true rfl, Nat.le_of_ble_eq_true rfl⟩) hout (by decide) rfl rfl rfl (Nat.le_of_ble_eq_true rfl) dX3_group_146 ⟨Nat.zero_le _, Nat.zero_le _⟩) hS (fun v_26 I_20 R_21 J_22 AI_23 AJ_24 AR_25 H locs zv_26 hp_27 hH hS => ?_)
              dsimp only at hp_27
              obtain ⟨rfl, rfl, rfl, rfl, rfl, rfl, qa146⟩ := hp_27
              refine g_callv (g_runV (As := [.int (iI i2), .int (iI ((I_14 ln 8).toInt)), .int (iI v_26)]) (rest := []) (ci := 4) F hl.1 hH hS hz (c_X4_setCell l g gh I_14 R J AI_15 AJ AR out i2 ((I_14 ln 8).toInt) v_26 zi2 (zr_t _) zv_26 hv hout (by omega) (by omega) (by omega) (by omega) (by omega) (by first | exact hfz | omega)) (cwV 3 F.2.2.2.2.1 gX3_group_X4_setCell rfl rfl rfl hdX4_setCell ⟨Nat.le_of_ble_eq_true rfl, Nat.le_of_ble_eq_true rfl⟩) hout (by decide) rfl rfl rfl (Nat.le_of_ble_eq_true rfl) dX3_group_149 ⟨Nat.zero_le _, Nat.zero_le _⟩) hS (fun I_28 R_29 J_30 AI_31 AJ_32 AR_33 H locs hp_34 hH hS => ?_)
              dsimp only at hp_34
              obtain ⟨rfl, rfl, rfl, rfl, rfl, s1, hv, q_35⟩ := hp_34
              have fA := kA_t fA (kA_o q_35)
              refine lv_aload_n F.1 F.2.1 dX3_group_152 rfl (lv_at hl 4 rfl) ?_
              refine lv_iload F.1 F.2.1 dX3_group_153 (lv_at hl 0 rfl) ?_
              refine z_iconst F dX3_group_155 ?_
              refine z_iconst F dX3_group_156 ?_
              refine g_callv (g_runV (As := [.int (iI i2), .int (iI 4), .int (iI 1)]) (rest := []) (ci := 4) F hl.1 hH hS hz (c_X4_setCell l g gh I_14 R J AI_31 AJ AR out i2 4 1 zi2 ⟨by decide, by decide⟩ ⟨by decide, by decide⟩ hv hout (by omega) (by omega) (by omega) (by omega) (by omega) (by first | exact hfz | omega)) (cwV 3 F.2.2.2.2.1 gX3_group_X4_setCell rfl rfl rfl hdX4_setCell ⟨Nat.le_of_ble_eq_true rfl, Nat.le_of_ble_eq_true rfl⟩) hout (by decide) rfl rfl rfl (Nat.le_of_ble_eq_true rfl) dX3_group_157 ⟨Nat.zero_le _, Nat.zero_le _⟩) hS (fun I_36 R_37 J_38 AI_39 AJ_40 AR_41 H locs hp_42 hH hS => ?_)
              dsimp only at hp_42
              obtain ⟨rfl, rfl, rfl, rfl, rfl, s2, hv, q_43⟩ := hp_42
              have fA := kA_t fA (kA_o q_43)
              refine lv_aload_n F.1 F.2.1 dX3_group_160 rfl (lv_at hl 4 rfl) ?_
              refine lv_iload F.1 F.2.1 dX3_group_161 (lv_at hl 0 rfl) ?_
              refine z_iconst F dX3_group_163 ?_
              refine z_iconst F dX3_group_164 ?_
              refine g_callv (g_runV (As := [.int (iI i2), .int (iI 5), .int (iI 0)]) (rest := []) (ci := 4) F hl.1 hH hS hz (c_X4_setCell l g gh I_14 R J AI_39 AJ AR out i2 5 0 zi2 ⟨by decide, by decide⟩ ⟨by decide, by decide⟩ hv hout (by omega) (by omega) (by omega) (by omega) (by omega) (by first | exact hfz | omega)) (cwV 3 F.2.2.2.2.1 gX3_group_X4_setCell rfl rfl rfl hdX4_setCell ⟨Nat.le_of_ble_eq_true rfl, Nat.le_of_ble_eq_true rfl⟩) hout (by decide) rfl rfl rfl (Nat.le_of_ble_eq_true rfl) dX3_group_165 ⟨Nat.zero_le _, Nat.zero_le _⟩) hS (fun I_44 R_45 J_46 AI_47 AJ_48 AR_49 H locs hp_50 hH hS => ?_)
              dsimp only at hp_50
              obtain ⟨rfl, rfl, rfl, rfl, rfl, s3, hv, q_51⟩ := hp_50
              have fA := kA_t fA (kA_o q_51)
              have hgf9 := grF_s (f1 := AI_31 (gh 0 out)) (f2 := AI_39 (gh 0 out)) (f3 := AI_47 (gh 0 out)) hgf (by omega) (by omega) (fun j hj => by rw [s1, gup2_k _ _ (by omega)]) (by rw [s1, gup2_e _ _ (by omega), qa146, iI_self]; congr 1; omega) (fun j hj => by rw [s2, gup2_k _ _ (by omega)]) (by rw [s2, gup2_e _ _ (by omega)]; rfl) (fun j hj => by rw [s3, gup2_k _ _ (by omega)]) (by rw [s3, gup2_e _ _ (by omega)]; rfl)
              rw [show i2.toNat + 1 = (i2 + 1).toNat by omega] at hgf9
              refine z_iinc (lv' := [(4, .int (iI (i2 + 1))), (0, .ref a), (1, .ref ln), (2, .ref inr), (3, .ref out)]) F dX3_group_168 hl (k := 0) rfl (by decide) rfl (fun ls hl => ?_)
              refine z_goto (tgt := 127) F dX3_group_171 (by decide) ?_
              exact ih127 (i2 + 1) I_14 AI_47 H locs ls ⟨by omega, by omega⟩ hv rf (by omega) (by omega) fI fA hgf9 (by omega) (by omega) hH hS (lv_sub hl [0, 1, 2, 3, 4] rfl)
        exact cut_127_15 (((240 - 0) + 1 : Int).toNat) 0 I_9 AI_10 H locs ls ⟨by decide, by decide⟩ hv rf (by omega) (by omega) fI fA (by rw [show i.toNat = n by omega] at hgr; exact grF_0 hgr) (by omega) (by omega) hH hS (lv_sub hl [0, 1, 2, 3, 4] rfl)
      · refine z_iconst F dX3_group_16 ?_
        refine lv_istore (lv' := [(5, .int (iI 0)), (4, .int (iI i)), (0, .ref a), (1, .ref ln), (2, .ref inr), (3, .ref out)]) F.1 F.2.1 dX3_group_17 hl (by decide) rfl (fun ls hl => ?_)
        have cut_19_52 : ∀ (NN : Nat) (k : Int) (AI_52 : gI) (H : Heap) (locs : List Loc) (ls : Array Slot), zr k → (gInv g gh R AR I_9 AI_52) → (0 ≤ k ∧ k ≤ 3) → (kA gh out AI AI_52) → (∀ j : Nat, lc.1 4 ≤ (j : Int) → j < 5 → AI_52 (gh 30 0) j = 0) → (∀ j : Nat, (j : Int) < k → AI_52 (gh 30 0) j = tg (gk lc (tup (AI (gh 0 inr)) i.toNat)) j) → (AI_52 (gh 0 out) = AI_10 (gh 0 out)) → (0 ≤ k ∧ k ≤ lc.1 4) → (3 - k) < ((NN : Nat) : Int) → gH g I_9 R J AI_52 AJ AR H → va_S (gA g) s.heap H locs → lv_has ls 6 [(5, .int (iI k)), (4, .int (iI i)), (0, .ref a), (1, .ref ln), (2, .ref inr), (3, .ref out)] → W p l e rmX3_groupf s m ([.ref a, .ref ln, .ref inr, .ref out] : List Value).toArray below meth c H locs 0 0 (MQ below (gQi g (fun (z : Int) (w : gS) => R = w.2.1 ∧ J = w.2.2.1 ∧ AJ = w.2.2.2.2.1 ∧ AR = w.2.2.2.2.2 ∧ (gInv g gh R AR (w.1) (w.2.2.2.1)) ∧ (rF g I (w.1)) ∧ (-4 ≤ z ∧ z ≤ 0) ∧ (kI out I (w.1)) ∧ (kA gh out AI (w.2.2.2.1)) ∧ (z = 0 ∧ isB ((w.2.2.2.1) (gh 0 out)) ((w.1) out 3).toInt.toNat (sG lc (AI (gh 0 inr)) n) zM ∧ ((w.1) out 3).toInt ≤ (n : Int)))) ([.ref a, .ref ln, .ref inr, .ref out] : List Value).toArray s 0 0 (gA g)) (F0 m 19 ls []) := by
          intro NN19
          induction NN19 with
          | zero =>
            intro k AI_52 H locs ls zk hv hk fA hkz hg1 hcu hk4 hm19 hH hS hl
            exact absurd hm19 (by omega)
          | succ NN19 ih19 =>
            intro k AI_52 H locs ls zk hv hk fA hkz hg1 hcu hk4 hm19 hH hS hl
            have hX : AI_52 (gh 0 inr) = AI (gh 0 inr) := kA_x fA hv ha hout hin hne
            have hXi : I_9 inr = I inr := fI inr hne
            have hXn : (I_9 inr 3).toInt = (n : Int) := by rw [hXi]; exact hnx
            have hlcN : lnC (I_9 ln) (AI_52 (gh 3 ln)) lc := lnC_m hlc (fI ln (gO_ne hln hout (by decide))) (kA_l fA hv ha hout hln)
            rw [← hcu] at hgr
            refine lv_iload F.1 F.2.1 dX3_group_19 (lv_at hl 0 rfl) ?_
            refine lv_aload_n F.1 F.2.1 dX3_group_21 rfl (lv_at hl 3 rfl) ?_
            refine g_getI (ci := 0) (k := 8) F hH rfl (by decide) iX0 hln (by decide) rfl k110 dX3_group_22 ?_
            have b_54 := gI_line hv hln
            unfold vLineI at b_54
            refine z_icmp_ge (tgt := 54) F dX3_group_25 (by decide) zk (zr_t _) (fun c_55 => ?_) (fun c_55 => ?_)
            · have hkg : ∀ j, j < 4 → AI_52 (gh 30 0) j = tg (gk lc (tup (AI (gh 0 inr)) i.toNat)) j := fun j hj => by
                by_cases e9 : (j : Int) < lc.1 4
                · exact hg1 j (by omega)
                · rw [hkz j (by omega) (by omega), gk_z (by omega) hj]
              refine lv_aload_n F.1 F.2.1 dX3_group_54 rfl (lv_at hl 5 rfl) ?_
              refine lv_aload_n F.1 F.2.1 dX3_group_55 rfl (lv_at hl 2 rfl) ?_
              obtain ⟨r_56a, r_56b⟩ := gR_rk0 hv ha
              refine g_getR (ci := 3) (k := 0) F hH rfl (by decide) iX3 ha (by decide) rfl (b := gh 30 0) r_56a k11 dX3_group_56 ?_
              obtain ⟨b_57a, b_57b, b_57c, b_57d, b_57e, b_57f, b_57g, b_57h⟩ := gI_rows hv hout
              refine g_calli (g_runV (As := [.ref (gh 30 0)]) (rest := []) (ci := 4) F hl.1 hH hS hz (c_X4_findf l g gh I_9 R J AI_52 AJ AR out (gh 30 0) hv hout r_56b) (cwV 1 F.2.2.2.2.1 gX3_group_X4_find rfl rfl rfl hdX4_find ⟨Nat.le_of_ble_eq_true rfl, Nat.le_of_ble_eq_true rfl⟩) hout (by decide) rfl rfl rfl (Nat.le_of_ble_eq_true rfl) dX3_group_59 ⟨Nat.zero_le _, Nat.zero_le _⟩) hS (fun v_64 I_58 R_59 J_60 AI_61 AJ_62 AR_63 H locs zv_64 hp_65 hH hS => ?_)
              dsimp only at hp_65
              obtain ⟨rfl, rfl, rfl, rfl, rfl, rfl, q_66, qf⟩ := hp_65
              rw [h4, hlen9] at qf
              refine lv_istore (lv' := [(5, .int (iI v_64)), (4, .int (iI i)), (0, .ref a), (1, .ref ln), (2, .ref inr), (3, .ref out)]) F.1 F.2.1 dX3_group_62 hl (by decide) rfl (fun ls hl => ?_)
              refine lv_iload F.1 F.2.1 dX3_group_64 (lv_at hl 0 rfl) ?_
              refine z_if_ge (tgt := 92) F dX3_group_66 (by decide) zv_64 (fun c_67 => ?_) (fun c_67 => ?_)
              · obtain ⟨rw9, erw⟩ : ∃ q9 : Nat, q9 = (v_64).toNat := ⟨_, rfl⟩
                have hfy := fd_y (key_tu hkg) qf (by omega)
                rw [← erw] at hfy
                have hgj := grJ_y hgr hfy.1 hfy.2
                have het := hfy.2
                have hrl := hfy.1
                have hX : AI_52 (gh 0 inr) = AI (gh 0 inr) := kA_x fA hv ha hout hin hne
                have hXi : I_9 inr = I inr := fI inr hne
                have hXn : (I_9 inr 3).toInt = (n : Int) := by rw [hXi]; exact hnx
                have hlcN : lnC (I_9 ln) (AI_52 (gh 3 ln)) lc := lnC_m hlc (fI ln (gO_ne hln hout (by decide))) (kA_l fA hv ha hout hln)
                refine lv_aload_n F.1 F.2.1 dX3_group_92 rfl (lv_at hl 3 rfl) ?_
                refine g_getI (ci := 0) (k := 11) F hH rfl (by decide) iX0 hln (by decide) rfl k124 dX3_group_93 ?_
                refine lv_aload_n F.1 F.2.1 dX3_group_96 rfl (lv_at hl 5 rfl) ?_
                refine lv_iload F.1 F.2.1 dX3_group_97 (lv_at hl 0 rfl) ?_
                refine lv_aload_n F.1 F.2.1 dX3_group_99 rfl (lv_at hl 4 rfl) ?_
                refine lv_iload F.1 F.2.1 dX3_group_100 (lv_at hl 1 rfl) ?_
                refine lv_aload_n F.1 F.2.1 dX3_group_102 rfl (lv_at hl 3 rfl) ?_
                refine g_getI (ci := 0) (k := 12) F hH rfl (by decide) iX0 hln (by decide) rfl k127 dX3_group_103 ?_
                refine g_calli (g_runV (As := [.int (iI i), .int (iI ((I_9 ln 12).toInt))]) (rest := [.int (iI v_64), .ref out, .int (iI ((I_9 ln 11).toInt))]) (ci := 4) F hl.1 hH hS hz (c_X4_cell l g gh I_9 R J AI_52 AJ AR inr i ((I_9 ln 12).toInt) zi (zr_t _) hv hin (by omega) (by omega) (by omega) (by omega)) (cwV 2 F.2.2.2.2.1 gX3_group_X4_cell rfl rfl rfl hdX4_cell ⟨Nat.le_of_ble_eq_true rfl, Nat.le_of_ble_eq_true rfl⟩) hin (by decide) rfl rfl rfl (Nat.le_of_ble_eq_true rfl) dX3_group_106 ⟨Nat.zero_le _, Nat.zero_le _⟩) hS (fun v_74 I_68 R_69 J_70 AI_71 AJ_72 AR_73 H locs zv_74 hp_75 hH hS => ?_)
                dsimp only at hp_75
                obtain ⟨rfl, rfl, rfl, rfl, rfl, rfl, qc106⟩ := hp_75
                have hfc := (hlcN.2.2.2.2.2.1 hk7).2.2
                have hv106 : iI v_74 = tg (tup (AI (gh 0 inr)) i.toNat) (lc.1 10).toNat := by rw [qc106, iI_self, hX, tg_up _ (by omega)]; congr 1; omega
                refine lv_aload_n F.1 F.2.1 dX3_group_109 rfl (lv_at hl 4 rfl) ?_
                refine lv_iload F.1 F.2.1 dX3_group_110 (lv_at hl 1 rfl) ?_
                refine g_calli (g_runV (As := [.int (iI i)]) (rest := [.int (iI v_74), .int (iI v_64), .ref out, .int (iI ((I_9 ln 11).toInt))]) (ci := 4) F hl.1 hH hS hz (c_X4_amount l g gh I_9 R J AI_52 AJ AR inr i zi hv hin (by omega) (by omega)) (cwV 1 F.2.2.2.2.1 gX3_group_X4_amount rfl rfl rfl hdX4_amount ⟨Nat.le_of_ble_eq_true rfl, Nat.le_of_ble_eq_true rfl⟩) hin (by decide) rfl rfl rfl (Nat.le_of_ble_eq_true rfl) dX3_group_112 ⟨Nat.zero_le _, Nat.zero_le _⟩) hS (fun v_82 I_76 R_77 J_78 AI_79 AJ_80 AR_81 H locs zv_82 hp_83 hH hS => ?_)
                dsimp only at hp_83
                obtain ⟨rfl, rfl, rfl, rfl, rfl, rfl, qc112⟩ := hp_83
                have hv112 : iI v_82 = (AI (gh 0 inr)) (6 * i.toNat + 4) := by rw [qc112, iI_self, hX]; congr 1; omega
                refine g_callv (g_runS (As := [.int (iI ((I_9 ln 11).toInt)), .ref out, .int (iI v_64), .int (iI v_74), .int (iI v_82)]) (rest := []) F hl.1 hH hS hz (c_X3_foldf l g gh lc I_9 R J AI_52 AJ AR ((I_9 ln 11).toInt) out v_64 v_74 v_82 (zr_t _) zv_64 zv_74 zv_82 hv hout (by omega) (by omega) (by omega) (by have := (hlcN.2.2.2.2.2.1 hk7).2.1; omega) (by omega)) (va_cwS 5 F.2.2.2.2.1 gX3_group_X3_fold rfl rfl rfl hdX3_fold.2 ⟨Nat.le_of_ble_eq_true rfl, Nat.le_of_ble_eq_true rfl⟩) rfl rfl (Nat.le_of_ble_eq_true rfl) dX3_group_115 ⟨Nat.zero_le _, Nat.zero_le _⟩) hS (fun I_84 R_85 J_86 AI_87 AJ_88 AR_89 H locs hp_90 hH hS => ?_)
                dsimp only at hp_90
                obtain ⟨rfl, rfl, rfl, rfl, rfl, hv, qfl, q_91⟩ := hp_90
                have fA := kA_t fA (kA_o q_91)
                rw [← erw] at qfl
                have hgr9 := grI_s hgj hrl het (by rw [← hv106, ← hv112]; exact qfl)
                rw [show i.toNat + 1 = (i + 1).toNat by omega] at hgr9
                have hkz : ∀ j : Nat, lc.1 4 ≤ (j : Int) → j < 5 → AI_87 (gh 30 0) j = 0 := fun j h1 h2 => by rw [q_91 _ (cells_k hv ha hout).1.symm]; exact hkz j h1 h2
                refine z_iinc (lv' := [(4, .int (iI (i + 1))), (5, .int (iI v_64)), (0, .ref a), (1, .ref ln), (2, .ref inr), (3, .ref out)]) F dX3_group_118 hl (k := 1) rfl (by decide) rfl (fun ls hl => ?_)
                refine z_goto (tgt := 7) F dX3_group_121 (by decide) ?_
                exact ih7 (i + 1) I_9 AI_87 H locs ls ⟨by omega, by omega⟩ hv rf (by omega) (by omega) fI fA hkz hgr9 (by omega) (by omega) hH hS (lv_sub hl [0, 2, 3, 4, 5] rfl)
              · refine z_iconst F dX3_group_69 ?_
                refine lv_iload F.1 F.2.1 dX3_group_70 (lv_at hl 0 rfl) ?_
                refine z_isub F dX3_group_72 ?_
                refine lv_istore (lv' := [(5, .int (iI ((-1) - v_64))), (4, .int (iI i)), (0, .ref a), (1, .ref ln), (2, .ref inr), (3, .ref out)]) F.1 F.2.1 dX3_group_73 hl (by decide) rfl (fun ls hl => ?_)
                refine lv_aload_n F.1 F.2.1 dX3_group_75 rfl (lv_at hl 5 rfl) ?_
                refine lv_iload F.1 F.2.1 dX3_group_76 (lv_at hl 0 rfl) ?_
                refine lv_aload_n F.1 F.2.1 dX3_group_78 rfl (lv_at hl 2 rfl) ?_
                refine g_getR (ci := 3) (k := 0) F hH rfl (by decide) iX3 ha (by decide) rfl (b := gh 30 0) r_56a k11 dX3_group_79 ?_
                refine z_iconst F dX3_group_82 ?_
                refine g_calli (g_runV (As := [.int (iI ((-1) - v_64)), .ref (gh 30 0), .int (iI 0)]) (rest := []) (ci := 4) F hl.1 hH hS hz (c_X4_insertf l g gh I_9 R J AI_52 AJ AR out ((-1) - v_64) (gh 30 0) 0 ⟨by omega, by omega⟩ ⟨by decide, by decide⟩ hv hout r_56b (ro30 hv ha) (fun h => absurd h (by omega)) (by first | exact hfz | omega)) (cwV 3 F.2.2.2.2.1 gX3_group_X4_insert rfl rfl rfl hdX4_insert ⟨Nat.le_of_ble_eq_true rfl, Nat.le_of_ble_eq_true rfl⟩) hout (by decide) rfl rfl rfl (Nat.le_of_ble_eq_true rfl) dX3_group_83 ⟨Nat.zero_le _, Nat.zero_le _⟩) hS (fun v_98 I_92 R_93 J_94 AI_95 AJ_96 AR_97 H locs zv_98 hp_99 hH hS => ?_)
                dsimp only at hp_99
                obtain ⟨rfl, rfl, rfl, rfl, hv, q_100, q_101, q_102, q_103, qin⟩ := hp_99
                have rf := rF_t rf (rF_o hout q_100)
                have u_104 : (I_92 ln 0).toInt = (I ln 0).toInt := by rw [rf ln 0 hln (by decide)]
                have fI := kI_t fI q_100
                have fA := kA_t fA (kA_o q_101)
                obtain ⟨qz, qi⟩ := qin.resolve_left (fun h => absurd h.2.2 (by omega))
                rw [h4] at qi
                refine z_if_ne (tgt := 92) F dX3_group_86 (by decide) zv_98 (fun c_105 => ?_) (fun c_105 => ?_)
                · obtain ⟨rw9, erw⟩ : ∃ q9 : Nat, q9 = ((-1) - v_64).toNat := ⟨_, rfl⟩
                  have hat := fd_n hgr.1.1 (key_tu hkg) qf (by omega)
                  have hiw := insP_W (key_tu hkg) (by omega) (by omega) qi
                  rw [← erw] at hat hiw
                  have hgj := grJ_n hgr hat hiw
                  rw [show (I_9 out 3).toInt.toNat + 1 = (I_92 out 3).toInt.toNat by omega] at hgj
                  have het : tup (AI_95 (gh 0 out)) rw9 = gk lc (tup (AI (gh 0 inr)) i.toNat) := hiw.2.1.1
                  have hrl : rw9 < (I_92 out 3).toInt.toNat := by have := hat.1; omega
                  have hkz : ∀ j : Nat, lc.1 4 ≤ (j : Int) → j < 5 → AI_95 (gh 30 0) j = 0 := fun j h1 h2 => by rw [q_101 _ (cells_k hv ha hout).1.symm]; exact hkz j h1 h2
                  have hX : AI_95 (gh 0 inr) = AI (gh 0 inr) := kA_x fA hv ha hout hin hne
                  have hXi : I_92 inr = I inr := fI inr hne
                  have hXn : (I_92 inr 3).toInt = (n : Int) := by rw [hXi]; exact hnx
                  have hlcN : lnC (I_92 ln) (AI_95 (gh 3 ln)) lc := lnC_m hlc (fI ln (gO_ne hln hout (by decide))) (kA_l fA hv ha hout hln)
                  refine lv_aload_n F.1 F.2.1 dX3_group_92 rfl (lv_at hl 3 rfl) ?_
                  refine g_getI (ci := 0) (k := 11) F hH rfl (by decide) iX0 hln (by decide) rfl k124 dX3_group_93 ?_
                  refine lv_aload_n F.1 F.2.1 dX3_group_96 rfl (lv_at hl 5 rfl) ?_
                  refine lv_iload F.1 F.2.1 dX3_group_97 (lv_at hl 0 rfl) ?_
                  refine lv_aload_n F.1 F.2.1 dX3_group_99 rfl (lv_at hl 4 rfl) ?_
                  refine lv_iload F.1 F.2.1 dX3_group_100 (lv_at hl 1 rfl) ?_
                  refine lv_aload_n F.1 F.2.1 dX3_group_102 rfl (lv_at hl 3 rfl) ?_
                  refine g_getI (ci := 0) (k := 12) F hH rfl (by decide) iX0 hln (by decide) rfl k127 dX3_group_103 ?_
                  have b_106 := gI_line hv hln
                  unfold vLineI at b_106
                  obtain ⟨b_107a, b_107b, b_107c, b_107d, b_107e, b_107f, b_107g, b_107h⟩ := gI_rows hv hin
                  refine g_calli (g_runV (As := [.int (iI i), .int (iI ((I_92 ln 12).toInt))]) (rest := [.int (iI ((-1) - v_64)), .ref out, .int (iI ((I_92 ln 11).toInt))]) (ci := 4) F hl.1 hH hS hz (c_X4_cell l g gh I_92 R J AI_95 AJ AR inr i ((I_92 ln 12).toInt) zi (zr_t _) hv hin (by omega) (by omega) (by omega) (by omega)) (cwV 2 F.2.2.2.2.1 gX3_group_X4_cell rfl rfl rfl hdX4_cell ⟨Nat.le_of_ble_eq_true rfl, Nat.le_of_ble_eq_true rfl⟩) hin (by decide) rfl rfl rfl (Nat.le_of_ble_eq_true rfl) dX3_group_106 ⟨Nat.zero_le _, Nat.zero_le _⟩) hS (fun v_114 I_108 R_109 J_110 AI_111 AJ_112 AR_113 H locs zv_114 hp_115 hH hS => ?_)
                  dsimp only at hp_115
                  obtain ⟨rfl, rfl, rfl, rfl, rfl, rfl, qc106⟩ := hp_115
                  have hfc := (hlcN.2.2.2.2.2.1 hk7).2.2
                  have hv106 : iI v_114 = tg (tup (AI (gh 0 inr)) i.toNat) (lc.1 10).toNat := by rw [qc106, iI_self, hX, tg_up _ (by omega)]; congr 1; omega
                  refine lv_aload_n F.1 F.2.1 dX3_group_109 rfl (lv_at hl 4 rfl) ?_
                  refine lv_iload F.1 F.2.1 dX3_group_110 (lv_at hl 1 rfl) ?_
                  refine g_calli (g_runV (As := [.int (iI i)]) (rest := [.int (iI v_114), .int (iI ((-1) - v_64)), .ref out, .int (iI ((I_92 ln 11).toInt))]) (ci := 4) F hl.1 hH hS hz (c_X4_amount l g gh I_92 R J AI_95 AJ AR inr i zi hv hin (by omega) (by omega)) (cwV 1 F.2.2.2.2.1 gX3_group_X4_amount rfl rfl rfl hdX4_amount ⟨Nat.le_of_ble_eq_true rfl, Nat.le_of_ble_eq_true rfl⟩) hin (by decide) rfl rfl rfl (Nat.le_of_ble_eq_true rfl) dX3_group_112 ⟨Nat.zero_le _, Nat.zero_le _⟩) hS (fun v_122 I_116 R_117 J_118 AI_119 AJ_120 AR_121 H locs zv_122 hp_123 hH hS => ?_)
                  dsimp only at hp_123
                  obtain ⟨rfl, rfl, rfl, rfl, rfl, rfl, qc112⟩ := hp_123
                  have hv112 : iI v_122 = (AI (gh 0 inr)) (6 * i.toNat + 4) := by rw [qc112, iI_self, hX]; congr 1; omega
                  obtain ⟨b_124a, b_124b, b_124c, b_124d, b_124e, b_124f, b_124g, b_124h⟩ := gI_rows hv hout
                  refine g_callv (g_runS (As := [.int (iI ((I_92 ln 11).toInt)), .ref out, .int (iI ((-1) - v_64)), .int (iI v_114), .int (iI v_122)]) (rest := []) F hl.1 hH hS hz (c_X3_foldf l g gh lc I_92 R J AI_95 AJ AR ((I_92 ln 11).toInt) out ((-1) - v_64) v_114 v_122 (zr_t _) ⟨by omega, by omega⟩ zv_114 zv_122 hv hout (by omega) (by omega) (by omega) (by have := (hlcN.2.2.2.2.2.1 hk7).2.1; omega) (by omega)) (va_cwS 5 F.2.2.2.2.1 gX3_group_X3_fold rfl rfl rfl hdX3_fold.2 ⟨Nat.le_of_ble_eq_true rfl, Nat.le_of_ble_eq_true rfl⟩) rfl rfl (Nat.le_of_ble_eq_true rfl) dX3_group_115 ⟨Nat.zero_le _, Nat.zero_le _⟩) hS (fun I_125 R_126 J_127 AI_128 AJ_129 AR_130 H locs hp_131 hH hS => ?_)
                  dsimp only at hp_131
                  obtain ⟨rfl, rfl, rfl, rfl, rfl, hv, qfl, q_132⟩ := hp_131
                  have fA := kA_t fA (kA_o q_132)
                  rw [← erw] at qfl
                  have hgr9 := grI_s hgj hrl het (by rw [← hv106, ← hv112]; exact qfl)
                  rw [show i.toNat + 1 = (i + 1).toNat by omega] at hgr9
                  have hkz : ∀ j : Nat, lc.1 4 ≤ (j : Int) → j < 5 → AI_128 (gh 30 0) j = 0 := fun j h1 h2 => by rw [q_132 _ (cells_k hv ha hout).1.symm]; exact hkz j h1 h2
                  refine z_iinc (lv' := [(4, .int (iI (i + 1))), (5, .int (iI ((-1) - v_64))), (0, .ref a), (1, .ref ln), (2, .ref inr), (3, .ref out)]) F dX3_group_118 hl (k := 1) rfl (by decide) rfl (fun ls hl => ?_)
                  refine z_goto (tgt := 7) F dX3_group_121 (by decide) ?_
                  exact ih7 (i + 1) I_92 AI_128 H locs ls ⟨by omega, by omega⟩ hv rf (by omega) (by omega) fI fA hkz hgr9 (by omega) (by omega) hH hS (lv_sub hl [0, 2, 3, 4, 5] rfl)
                · refine z_bipush F dX3_group_89 (by decide) ?_
                  exact g_iret F hr hlk hH hS hz ⟨by decide, by decide⟩ ⟨rfl, rfl, rfl, rfl, hv, rf, by first | omega | rfl | (dsimp only; omega), fI, fA, by omega⟩ dX3_group_91
            · refine lv_aload_n F.1 F.2.1 dX3_group_28 rfl (lv_at hl 2 rfl) ?_
              obtain ⟨r_133a, r_133b⟩ := gR_rk0 hv ha
              refine g_getR (ci := 3) (k := 0) F hH rfl (by decide) iX3 ha (by decide) rfl (b := gh 30 0) r_133a k11 dX3_group_29 ?_
              refine lv_iload F.1 F.2.1 dX3_group_32 (lv_at hl 0 rfl) ?_
              refine lv_aload_n F.1 F.2.1 dX3_group_34 rfl (lv_at hl 4 rfl) ?_
              refine lv_iload F.1 F.2.1 dX3_group_35 (lv_at hl 1 rfl) ?_
              refine lv_aload_n F.1 F.2.1 dX3_group_37 rfl (lv_at hl 3 rfl) ?_
              obtain ⟨r_134a, r_134b⟩ := gR_parts hv hln
              refine g_getR (ci := 0) (k := 7) F hH rfl (by decide) iX0 hln (by decide) rfl (b := gh 3 ln) r_134a k113 dX3_group_38 ?_
              refine lv_iload F.1 F.2.1 dX3_group_41 (lv_at hl 0 rfl) ?_
              have hx43 : 0 ≤ k ∧ k < ((32 : Nat) : Int) ∧ k ≤ 2147483647 := ⟨by omega, by omega, by omega⟩
              refine g_iald F hH r_134b hx43.1 hx43.2.1 hx43.2.2 dX3_group_43 ?_
              refine z_name (fun v_135 ev_135 => ?_)
              have zv_135 : zr v_135 := by rw [ev_135]; exact zr_t _
              have qp := (gP_line hv hln).2.2.2 hkd
              have qa := qp.2 k.toNat (by omega)
              rw [← ev_135] at qa
              have hpk := (hlcN.2.2.2.2.2.1 hk7).1 k.toNat (by omega)
              have hc43 : v_135 = lc.2 k.toNat 0 := by rw [ev_135, ← hpk]
              refine g_calli (g_runV (As := [.int (iI i), .int (iI v_135)]) (rest := [.int (iI k), .ref (gh 30 0)]) (ci := 4) F hl.1 hH hS hz (c_X4_cell l g gh I_9 R J AI_52 AJ AR inr i v_135 zi zv_135 hv hin (by omega) (by omega) (by omega) (by omega)) (cwV 2 F.2.2.2.2.1 gX3_group_X4_cell rfl rfl rfl hdX4_cell ⟨Nat.le_of_ble_eq_true rfl, Nat.le_of_ble_eq_true rfl⟩) hin (by decide) rfl rfl rfl (Nat.le_of_ble_eq_true rfl) dX3_group_44 ⟨Nat.zero_le _, Nat.zero_le _⟩) hS (fun v_142 I_136 R_137 J_138 AI_139 AJ_140 AR_141 H locs zv_142 hp_143 hH hS => ?_)
              dsimp only at hp_143
              obtain ⟨rfl, rfl, rfl, rfl, rfl, rfl, qc0⟩ := hp_143
              have hx47 : 0 ≤ k ∧ k < ((5 : Nat) : Int) ∧ k ≤ 2147483647 := ⟨by omega, by omega, by omega⟩
              refine g_iast F hH hS r_133b hx47.1 hx47.2.1 hx47.2.2 dX3_group_47 (fun H locs hH hS => ?_)
              obtain ⟨AI_144, eAI_144⟩ : ∃ qQ, qQ = gup2 AI_52 (gh 30 0) (k).toNat (iI (v_142)) := ⟨_, rfl⟩
              rw [← eAI_144] at hH
              have kAI_144 : ∀ b, b ≠ (gh 30 0) → AI_144 b = AI_52 b := fun b hb => by rw [eAI_144]; exact funext fun j => gup2_a _ _ hb
              have hv : gInv g gh R AR I_9 AI_144 := gInv_plain hv (ro30 hv ha) kAI_144
              have fA := kA_t fA (kA_0 kAI_144)
              have hg1 : ∀ j : Nat, (j : Int) < k + 1 → AI_144 (gh 30 0) j = tg (gk lc (tup (AI (gh 0 inr)) i.toNat)) j := fun j hj => by
                unfold gk; rw [tg_mk j (by omega), if_pos (by omega)]
                by_cases e9 : (j : Int) = k
                · rw [eAI_144, gup2_e _ _ (by omega), qc0, iI_self, hX, show j = k.toNat by omega, ← hc43, tg_up _ (by omega)]; congr 1; omega
                · rw [eAI_144, gup2_k _ _ (by omega)]; have := hg1 j (by omega); unfold gk at this; rwa [tg_mk j (by omega), if_pos (by omega)] at this
              have hkz : ∀ j : Nat, lc.1 4 ≤ (j : Int) → j < 5 → AI_144 (gh 30 0) j = 0 := fun j h1 h2 => by rw [eAI_144, gup2_k _ _ (by omega)]; exact hkz j h1 h2
              refine z_iinc (lv' := [(5, .int (iI (k + 1))), (4, .int (iI i)), (0, .ref a), (1, .ref ln), (2, .ref inr), (3, .ref out)]) F dX3_group_48 hl (k := 0) rfl (by decide) rfl (fun ls hl => ?_)
              refine z_goto (tgt := 19) F dX3_group_51 (by decide) ?_
              exact ih19 (k + 1) AI_144 H locs ls ⟨by omega, by omega⟩ hv (by omega) fA hkz hg1 (by rw [eAI_144]; exact (funext fun j => gup2_a _ _ (cells_k hv ha hout).1).trans hcu) (by omega) (by omega) hH hS (lv_sub hl [0, 1, 2, 3, 4, 5] rfl)
        exact cut_19_52 (((3 - 0) + 1 : Int).toNat) 0 AI_10 H locs ls ⟨by decide, by decide⟩ hv (by omega) fA hkz (fun j hj => absurd hj (by omega)) rfl (by omega) (by omega) hH hS (lv_sub hl [0, 1, 2, 3, 4, 5] rfl)
  exact cut_7_10 (((240 - 0) + 1 : Int).toNat) 0 I AI_4 H locs ls ⟨by decide, by decide⟩ hv rf (by omega) (by omega) fI fA (fun j _ h2 => hkz0 j h2) (by rw [show (I out 3).toInt = 0 by omega]; exact grI_0) (by omega) (by omega) hH hS (lv_sub hl [0, 1, 2, 3, 4] rfl)
