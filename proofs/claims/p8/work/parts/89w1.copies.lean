def rmX7_copiesf : Room := { frames := 0, cells := 0, slots := 0, locals := 0 }
set_option maxHeartbeats 4000000 in
set_option maxRecDepth 100000 in
/-- a side is copied -/
theorem c_X7_copiesf (l : Launch) (g : gG) (gh : gGh) (T : Nat → Int32) (I : gI) (R : gR) (J : gJ) (AI : gI) (AJ : gJ) (AR : gR) (mo : Nat) (fm : Int) (to : Int) (zfm : zr fm) (zto : zr to) (hv : mInv g gh R I AI) (hm : gO g mo 7) (hT : AI (gh 50 0) = T) (h0 : 0 ≤ fm ∧ fm ≤ 10 ∧ 0 ≤ to ∧ to ≤ 10) : gMet l g yX7_copies tsX7_copies rmX7_copiesf [.ref mo, .int (iI fm), .int (iI to)] (I, R, J, AI, AJ, AR) (gQv g (fun w : gS => I = w.1 ∧ R = w.2.1 ∧ J = w.2.2.1 ∧ AJ = w.2.2.2.2.1 ∧ AR = w.2.2.2.2.2 ∧ (mInv g gh R I (w.2.2.2.1)) ∧ ((w.2.2.2.1) (gh 50 0) = T) ∧ (cpP gh fm to AI (w.2.2.2.1)))) := by
  refine gStart (cc := cX7_copies) (maxL := 4) (ret := none) (by decide) rfl (Nat.le_of_ble_eq_true rfl) ?_
  intro p e s m below meth c ls F hr hlk hH hz hS hl
  have hl : lv_has ls 4 [(0, .ref mo), (1, .int (iI fm)), (2, .int (iI to))] := hl
  have hS : va_S (gA g) s.heap s.heap [] := hS
  obtain ⟨H, hHe⟩ : ∃ H : Heap, H = s.heap := ⟨_, rfl⟩
  obtain ⟨locs, hlo⟩ : ∃ k : List Loc, k = [] := ⟨_, rfl⟩
  have hH : gH g I R J AI AJ AR H := by rw [hHe]; exact hH
  have hS : va_S (gA g) s.heap H locs := by rw [hHe, hlo]; exact hS
  suffices hw : W p l e rmX7_copiesf s m ([.ref mo, .int (iI fm), .int (iI to)] : List Value).toArray below meth c H locs 0 0 (MQ below (gQv g (fun w : gS => I = w.1 ∧ R = w.2.1 ∧ J = w.2.2.1 ∧ AJ = w.2.2.2.2.1 ∧ AR = w.2.2.2.2.2 ∧ (mInv g gh R I (w.2.2.2.1)) ∧ ((w.2.2.2.1) (gh 50 0) = T) ∧ (cpP gh fm to AI (w.2.2.2.1)))) ([.ref mo, .int (iI fm), .int (iI to)] : List Value).toArray s 0 0 (gA g)) (F0 m 0 ls []) by
    rw [hHe, hlo] at hw; exact hw
  clear hHe hlo
  have iX7 : ∀ w ∈ u_ws RX7 TX7 32, w ∈ tsX7_copies := fun w h => List.mem_cons_of_mem _ (inTB7 w h)
  have k24 : Cond.fieldLink RX7 24 (TX7 6).1 (TX7 6).2.1 (TX7 6).2.2.1 ∈ tsX7_copies := List.mem_cons_of_mem _ fl_24
  have k27 : Cond.fieldLink RX7 27 (TX7 7).1 (TX7 7).2.1 (TX7 7).2.2.1 ∈ tsX7_copies := List.mem_cons_of_mem _ fl_27
  have k51 : Cond.fieldLink RX7 51 (TX7 29).1 (TX7 29).2.1 (TX7 29).2.2.1 ∈ tsX7_copies := List.mem_cons_of_mem _ fl_51
  refine z_iconst F dX7_copies_0 ?_
  refine lv_istore_n (lv' := [(3, .int (iI 0)), (0, .ref mo), (1, .int (iI fm)), (2, .int (iI to))]) F.1 F.2.1 dX7_copies_1 rfl hl (by decide) rfl (fun ls hl => ?_)
  have cut_2_1 : ∀ (NN : Nat) (k : Int) (AI_1 : gI) (H : Heap) (locs : List Loc) (ls : Array Slot), zr k → (mInv g gh R I AI_1) → (AI_1 (gh 50 0) = T) → (0 ≤ k ∧ k ≤ 11520) → (∀ b, b ≠ gh 56 0 → b ≠ gh 57 0 → b ≠ gh 79 0 → AI_1 b = AI b) → (cpL (AI (gh 56 0)) (AI_1 (gh 56 0)) 11520 fm to k) → (cpL (AI (gh 57 0)) (AI_1 (gh 57 0)) 16 fm to 0) → (cpL (AI (gh 79 0)) (AI_1 (gh 79 0)) 16 fm to 0) → (11520 - k) < ((NN : Nat) : Int) → gH g I R J AI_1 AJ AR H → va_S (gA g) s.heap H locs → lv_has ls 4 [(3, .int (iI k)), (0, .ref mo), (1, .int (iI fm)), (2, .int (iI to))] → W p l e rmX7_copiesf s m ([.ref mo, .int (iI fm), .int (iI to)] : List Value).toArray below meth c H locs 0 0 (MQ below (gQv g (fun w : gS => I = w.1 ∧ R = w.2.1 ∧ J = w.2.2.1 ∧ AJ = w.2.2.2.2.1 ∧ AR = w.2.2.2.2.2 ∧ (mInv g gh R I (w.2.2.2.1)) ∧ ((w.2.2.2.1) (gh 50 0) = T) ∧ (cpP gh fm to AI (w.2.2.2.1)))) ([.ref mo, .int (iI fm), .int (iI to)] : List Value).toArray s 0 0 (gA g)) (F0 m 2 ls []) := by
    intro NN2
    induction NN2 with
    | zero =>
      intro k AI_1 H locs ls zk hv hT hk1 fW c56 c57 c79 hm2 hH hS hl
      exact absurd hm2 (by omega)
    | succ NN2 ih2 =>
      intro k AI_1 H locs ls zk hv hT hk1 fW c56 c57 c79 hm2 hH hS hl
      refine lv_iload_n F.1 F.2.1 dX7_copies_2 rfl (lv_at hl 0 rfl) ?_
      refine z_sipush F dX7_copies_3 (by decide) ?_
      refine z_icmp_ge (tgt := 39) F dX7_copies_6 (by decide) zk ⟨by decide, by decide⟩ (fun c_3 => ?_) (fun c_3 => ?_)
      · refine z_iconst F dX7_copies_39 ?_
        refine lv_istore_n (lv' := [(3, .int (iI 0)), (0, .ref mo), (1, .int (iI fm)), (2, .int (iI to))]) F.1 F.2.1 dX7_copies_40 rfl hl (by decide) rfl (fun ls hl => ?_)
        have cut_41_4 : ∀ (NN : Nat) (k : Int) (AI_4 : gI) (H : Heap) (locs : List Loc) (ls : Array Slot), zr k → (mInv g gh R I AI_4) → (AI_4 (gh 50 0) = T) → (0 ≤ k ∧ k ≤ 16) → (∀ b, b ≠ gh 56 0 → b ≠ gh 57 0 → b ≠ gh 79 0 → AI_4 b = AI b) → (cpL (AI (gh 56 0)) (AI_4 (gh 56 0)) 11520 fm to 11520) → (cpL (AI (gh 57 0)) (AI_4 (gh 57 0)) 16 fm to k) → (cpL (AI (gh 79 0)) (AI_4 (gh 79 0)) 16 fm to k) → (16 - k) < ((NN : Nat) : Int) → gH g I R J AI_4 AJ AR H → va_S (gA g) s.heap H locs → lv_has ls 4 [(3, .int (iI k)), (0, .ref mo), (1, .int (iI fm)), (2, .int (iI to))] → W p l e rmX7_copiesf s m ([.ref mo, .int (iI fm), .int (iI to)] : List Value).toArray below meth c H locs 0 0 (MQ below (gQv g (fun w : gS => I = w.1 ∧ R = w.2.1 ∧ J = w.2.2.1 ∧ AJ = w.2.2.2.2.1 ∧ AR = w.2.2.2.2.2 ∧ (mInv g gh R I (w.2.2.2.1)) ∧ ((w.2.2.2.1) (gh 50 0) = T) ∧ (cpP gh fm to AI (w.2.2.2.1)))) ([.ref mo, .int (iI fm), .int (iI to)] : List Value).toArray s 0 0 (gA g)) (F0 m 41 ls []) := by
          intro NN41
          induction NN41 with
          | zero =>
            intro k AI_4 H locs ls zk hv hT hk2 fW c56 c57 c79 hm41 hH hS hl
            exact absurd hm41 (by omega)
          | succ NN41 ih41 =>
            intro k AI_4 H locs ls zk hv hT hk2 fW c56 c57 c79 hm41 hH hS hl
            refine lv_iload_n F.1 F.2.1 dX7_copies_41 rfl (lv_at hl 0 rfl) ?_
            refine z_bipush F dX7_copies_42 (by decide) ?_
            refine z_icmp_ge (tgt := 97) F dX7_copies_44 (by decide) zk ⟨by decide, by decide⟩ (fun c_6 => ?_) (fun c_6 => ?_)
            · exact g_vret F hr hlk hH hS hz ⟨rfl, rfl, rfl, rfl, rfl, hv, hT, ⟨fW, c56, (by rw [show k = 16 by omega] at c57; exact c57), (by rw [show k = 16 by omega] at c79; exact c79)⟩⟩ dX7_copies_97
            · refine lv_aload_n F.1 F.2.1 dX7_copies_47 rfl (lv_at hl 1 rfl) ?_
              obtain ⟨r_7a, r_7b⟩ : R mo 7 = some (gh 57 0) ∧ gAr g (gh 57 0) 9 176 := mR hv hm (q := (7, 176)) (by decide)
              refine g_getR (ci := 7) (k := 7) F hH rfl (by decide) iX7 hm (by decide) rfl (b := gh 57 0) r_7a k27 dX7_copies_48 ?_
              refine z_bipush F dX7_copies_51 (by decide) ?_
              refine lv_iload_n F.1 F.2.1 dX7_copies_53 rfl (lv_at hl 3 rfl) ?_
              refine z_imul F dX7_copies_54 ?_
              refine lv_iload_n F.1 F.2.1 dX7_copies_55 rfl (lv_at hl 0 rfl) ?_
              refine z_iadd F dX7_copies_56 ?_
              refine lv_aload_n F.1 F.2.1 dX7_copies_57 rfl (lv_at hl 1 rfl) ?_
              refine g_getR (ci := 7) (k := 7) F hH rfl (by decide) iX7 hm (by decide) rfl (b := gh 57 0) r_7a k27 dX7_copies_58 ?_
              refine z_bipush F dX7_copies_61 (by decide) ?_
              refine lv_iload_n F.1 F.2.1 dX7_copies_63 rfl (lv_at hl 2 rfl) ?_
              refine z_imul F dX7_copies_64 ?_
              refine lv_iload_n F.1 F.2.1 dX7_copies_65 rfl (lv_at hl 0 rfl) ?_
              refine z_iadd F dX7_copies_66 ?_
              have hx67 : 0 ≤ ((16 * fm) + k) ∧ ((16 * fm) + k) < ((176 : Nat) : Int) ∧ ((16 * fm) + k) ≤ 2147483647 := ⟨by omega, by omega, by omega⟩
              refine g_iald F hH r_7b hx67.1 hx67.2.1 hx67.2.2 dX7_copies_67 ?_
              have q67 := mSz hv hm (z := 16 * fm + k) (by omega) (by omega)
              have hx68 : 0 ≤ ((16 * to) + k) ∧ ((16 * to) + k) < ((176 : Nat) : Int) ∧ ((16 * to) + k) ≤ 2147483647 := ⟨by omega, by omega, by omega⟩
              refine g_iast F hH hS r_7b hx68.1 hx68.2.1 hx68.2.2 dX7_copies_68 (fun H locs hH hS => ?_)
              obtain ⟨AI_8, eAI_8⟩ : ∃ qQ, qQ = gup2 AI_4 (gh 57 0) (((16 * to) + k)).toNat (iI ((AI_4 (gh 57 0) (((16 * fm) + k)).toNat).toInt)) := ⟨_, rfl⟩
              rw [← eAI_8] at hH
              have kAI_8 : ∀ b, b ≠ (gh 57 0) → AI_8 b = AI_4 b := fun b hb => by rw [eAI_8]; exact funext fun j => gup2_a _ _ hb
              have hvO := hv
              have t_9 : AI_8 (gh 50 0) = AI_4 (gh 50 0) := mK hv hm (p := (0, 640)) (q := (7, 176)) (by decide) (by decide) (by decide) kAI_8
              have hv : mInv g gh R I AI_8 := mInv_sizes1 hv hm eAI_8 (by omega) (by omega)
              have hT : AI_8 (gh 50 0) = T := t_9.trans hT
              have c57 : cpL (AI (gh 57 0)) (AI_8 (gh 57 0)) 16 fm to (k + 1) := cpL_s c57 (by omega) (by omega) (by omega) (by omega) (fun j hj => by rw [eAI_8, gup2_k _ _ (by omega)]) (by rw [eAI_8, gup2_e _ _ (by omega), iI_self])
              have c56 : cpL (AI (gh 56 0)) (AI_8 (gh 56 0)) 11520 fm to 11520 := by rw [kAI_8 _ (show gh 56 0 ≠ gh 57 0 from mNe hv hm (p := (6, 126720)) (q := (7, 176)) (by decide) (by decide) (by decide))]; exact c56
              have c79 : cpL (AI (gh 79 0)) (AI_8 (gh 79 0)) 16 fm to k := by rw [kAI_8 _ (show gh 79 0 ≠ gh 57 0 from mNe hv hm (p := (29, 176)) (q := (7, 176)) (by decide) (by decide) (by decide))]; exact c79
              have fW : ∀ b, b ≠ gh 56 0 → b ≠ gh 57 0 → b ≠ gh 79 0 → AI_8 b = AI b := fun b h1 h2 h3 => (kAI_8 b h2).trans (fW b h1 h2 h3)
              refine lv_aload_n F.1 F.2.1 dX7_copies_69 rfl (lv_at hl 1 rfl) ?_
              obtain ⟨r_10a, r_10b⟩ : R mo 29 = some (gh 79 0) ∧ gAr g (gh 79 0) 9 176 := mR hv hm (q := (29, 176)) (by decide)
              refine g_getR (ci := 7) (k := 29) F hH rfl (by decide) iX7 hm (by decide) rfl (b := gh 79 0) r_10a k51 dX7_copies_70 ?_
              refine z_bipush F dX7_copies_73 (by decide) ?_
              refine lv_iload_n F.1 F.2.1 dX7_copies_75 rfl (lv_at hl 3 rfl) ?_
              refine z_imul F dX7_copies_76 ?_
              refine lv_iload_n F.1 F.2.1 dX7_copies_77 rfl (lv_at hl 0 rfl) ?_
              refine z_iadd F dX7_copies_78 ?_
              refine lv_aload_n F.1 F.2.1 dX7_copies_79 rfl (lv_at hl 1 rfl) ?_
              refine g_getR (ci := 7) (k := 29) F hH rfl (by decide) iX7 hm (by decide) rfl (b := gh 79 0) r_10a k51 dX7_copies_80 ?_
              refine z_bipush F dX7_copies_83 (by decide) ?_
              refine lv_iload_n F.1 F.2.1 dX7_copies_85 rfl (lv_at hl 2 rfl) ?_
              refine z_imul F dX7_copies_86 ?_
              refine lv_iload_n F.1 F.2.1 dX7_copies_87 rfl (lv_at hl 0 rfl) ?_
              refine z_iadd F dX7_copies_88 ?_
              have hx89 : 0 ≤ ((16 * fm) + k) ∧ ((16 * fm) + k) < ((176 : Nat) : Int) ∧ ((16 * fm) + k) ≤ 2147483647 := ⟨by omega, by omega, by omega⟩
              refine g_iald F hH r_10b hx89.1 hx89.2.1 hx89.2.2 dX7_copies_89 ?_
              refine z_name (fun v_11 ev_11 => ?_)
              have zv_11 : zr v_11 := by rw [ev_11]; exact zr_t _
              have hx90 : 0 ≤ ((16 * to) + k) ∧ ((16 * to) + k) < ((176 : Nat) : Int) ∧ ((16 * to) + k) ≤ 2147483647 := ⟨by omega, by omega, by omega⟩
              refine g_iast F hH hS r_10b hx90.1 hx90.2.1 hx90.2.2 dX7_copies_90 (fun H locs hH hS => ?_)
              obtain ⟨AI_12, eAI_12⟩ : ∃ qQ, qQ = gup2 AI_8 (gh 79 0) (((16 * to) + k)).toNat (iI (v_11)) := ⟨_, rfl⟩
              rw [← eAI_12] at hH
              have kAI_12 : ∀ b, b ≠ (gh 79 0) → AI_12 b = AI_8 b := fun b hb => by rw [eAI_12]; exact funext fun j => gup2_a _ _ hb
              have hvO := hv
              have t_13 : AI_12 (gh 50 0) = AI_8 (gh 50 0) := mK hv hm (p := (0, 640)) (q := (29, 176)) (by decide) (by decide) (by decide) kAI_12
              have hv : mInv g gh R I AI_12 := mInv_a hv hm (q := (29, 176)) (by decide) (by decide) kAI_12
              have hT : AI_12 (gh 50 0) = T := t_13.trans hT
              have c79 : cpL (AI (gh 79 0)) (AI_12 (gh 79 0)) 16 fm to (k + 1) := cpL_s c79 (by omega) (by omega) (by omega) (by omega) (fun j hj => by rw [eAI_12, gup2_k _ _ (by omega)]) (by rw [eAI_12, gup2_e _ _ (by omega), ev_11, iI_self])
              have c56 : cpL (AI (gh 56 0)) (AI_12 (gh 56 0)) 11520 fm to 11520 := by rw [kAI_12 _ (show gh 56 0 ≠ gh 79 0 from mNe hv hm (p := (6, 126720)) (q := (29, 176)) (by decide) (by decide) (by decide))]; exact c56
              have c57 : cpL (AI (gh 57 0)) (AI_12 (gh 57 0)) 16 fm to (k + 1) := by rw [kAI_12 _ (show gh 57 0 ≠ gh 79 0 from mNe hv hm (p := (7, 176)) (q := (29, 176)) (by decide) (by decide) (by decide))]; exact c57
              have fW : ∀ b, b ≠ gh 56 0 → b ≠ gh 57 0 → b ≠ gh 79 0 → AI_12 b = AI b := fun b h1 h2 h3 => (kAI_12 b h3).trans (fW b h1 h2 h3)
              refine z_iinc (lv' := [(3, .int (iI (k + 1))), (0, .ref mo), (1, .int (iI fm)), (2, .int (iI to))]) F dX7_copies_91 hl (k := 0) rfl (by decide) rfl (fun ls hl => ?_)
              refine z_goto (tgt := 41) F dX7_copies_94 (by decide) ?_
              exact ih41 (k + 1) AI_12 H locs ls ⟨by omega, by omega⟩ hv hT (by omega) fW c56 c57 c79 (by omega) hH hS (lv_sub hl [0, 1, 2, 3] rfl)
        exact cut_41_4 (((16 - 0) + 1 : Int).toNat) 0 AI_1 H locs ls ⟨by decide, by decide⟩ hv hT (by omega) fW (by rw [show k = 11520 by omega] at c56; exact c56) c57 c79 (by omega) hH hS (lv_sub hl [0, 1, 2, 3] rfl)
      · refine lv_aload_n F.1 F.2.1 dX7_copies_9 rfl (lv_at hl 1 rfl) ?_
        obtain ⟨r_14a, r_14b⟩ : R mo 6 = some (gh 56 0) ∧ gAr g (gh 56 0) 9 126720 := mR hv hm (q := (6, 126720)) (by decide)
        refine g_getR (ci := 7) (k := 6) F hH rfl (by decide) iX7 hm (by decide) rfl (b := gh 56 0) r_14a k24 dX7_copies_10 ?_
        refine z_sipush F dX7_copies_13 (by decide) ?_
        refine lv_iload_n F.1 F.2.1 dX7_copies_16 rfl (lv_at hl 3 rfl) ?_
        refine z_imul F dX7_copies_17 ?_
        refine lv_iload_n F.1 F.2.1 dX7_copies_18 rfl (lv_at hl 0 rfl) ?_
        refine z_iadd F dX7_copies_19 ?_
        refine lv_aload_n F.1 F.2.1 dX7_copies_20 rfl (lv_at hl 1 rfl) ?_
        refine g_getR (ci := 7) (k := 6) F hH rfl (by decide) iX7 hm (by decide) rfl (b := gh 56 0) r_14a k24 dX7_copies_21 ?_
        refine z_sipush F dX7_copies_24 (by decide) ?_
        refine lv_iload_n F.1 F.2.1 dX7_copies_27 rfl (lv_at hl 2 rfl) ?_
        refine z_imul F dX7_copies_28 ?_
        refine lv_iload_n F.1 F.2.1 dX7_copies_29 rfl (lv_at hl 0 rfl) ?_
        refine z_iadd F dX7_copies_30 ?_
        have hx31 : 0 ≤ ((11520 * fm) + k) ∧ ((11520 * fm) + k) < ((126720 : Nat) : Int) ∧ ((11520 * fm) + k) ≤ 2147483647 := ⟨by omega, by omega, by omega⟩
        refine g_iald F hH r_14b hx31.1 hx31.2.1 hx31.2.2 dX7_copies_31 ?_
        refine z_name (fun v_15 ev_15 => ?_)
        have zv_15 : zr v_15 := by rw [ev_15]; exact zr_t _
        have hx32 : 0 ≤ ((11520 * to) + k) ∧ ((11520 * to) + k) < ((126720 : Nat) : Int) ∧ ((11520 * to) + k) ≤ 2147483647 := ⟨by omega, by omega, by omega⟩
        refine g_iast F hH hS r_14b hx32.1 hx32.2.1 hx32.2.2 dX7_copies_32 (fun H locs hH hS => ?_)
        obtain ⟨AI_16, eAI_16⟩ : ∃ qQ, qQ = gup2 AI_1 (gh 56 0) (((11520 * to) + k)).toNat (iI (v_15)) := ⟨_, rfl⟩
        rw [← eAI_16] at hH
        have kAI_16 : ∀ b, b ≠ (gh 56 0) → AI_16 b = AI_1 b := fun b hb => by rw [eAI_16]; exact funext fun j => gup2_a _ _ hb
        have hvO := hv
        have t_17 : AI_16 (gh 50 0) = AI_1 (gh 50 0) := mK hv hm (p := (0, 640)) (q := (6, 126720)) (by decide) (by decide) (by decide) kAI_16
        have hv : mInv g gh R I AI_16 := mInv_a hv hm (q := (6, 126720)) (by decide) (by decide) kAI_16
        have hT : AI_16 (gh 50 0) = T := t_17.trans hT
        have c56 : cpL (AI (gh 56 0)) (AI_16 (gh 56 0)) 11520 fm to (k + 1) := cpL_s c56 (by omega) (by omega) (by omega) (by omega) (fun j hj => by rw [eAI_16, gup2_k _ _ (by omega)]) (by rw [eAI_16, gup2_e _ _ (by omega), ev_15, iI_self])
        have c57 : cpL (AI (gh 57 0)) (AI_16 (gh 57 0)) 16 fm to 0 := by rw [kAI_16 _ (show gh 57 0 ≠ gh 56 0 from mNe hv hm (p := (7, 176)) (q := (6, 126720)) (by decide) (by decide) (by decide))]; exact c57
        have c79 : cpL (AI (gh 79 0)) (AI_16 (gh 79 0)) 16 fm to 0 := by rw [kAI_16 _ (show gh 79 0 ≠ gh 56 0 from mNe hv hm (p := (29, 176)) (q := (6, 126720)) (by decide) (by decide) (by decide))]; exact c79
        have fW : ∀ b, b ≠ gh 56 0 → b ≠ gh 57 0 → b ≠ gh 79 0 → AI_16 b = AI b := fun b h1 h2 h3 => (kAI_16 b h1).trans (fW b h1 h2 h3)
        refine z_iinc (lv' := [(3, .int (iI (k + 1))), (0, .ref mo), (1, .int (iI fm)), (2, .int (iI to))]) F dX7_copies_33 hl (k := 0) rfl (by decide) rfl (fun ls hl => ?_)
        refine z_goto (tgt := 2) F dX7_copies_36 (by decide) ?_
        exact ih2 (k + 1) AI_16 H locs ls ⟨by omega, by omega⟩ hv hT (by omega) fW c56 c57 c79 (by omega) hH hS (lv_sub hl [0, 1, 2, 3] rfl)
  exact cut_2_1 (((11520 - 0) + 1 : Int).toNat) 0 AI H locs ls ⟨by decide, by decide⟩ hv hT (by omega) (fun _ _ _ _ => rfl) cpL_0 cpL_0 cpL_0 (by omega) hH hS (lv_sub hl [0, 1, 2, 3] rfl)

def rmX7_tablesf : Room := { frames := 1, cells := 0, slots := 0, locals := 21 }
set_option maxHeartbeats 4000000 in
set_option maxRecDepth 100000 in
/-- how many tables -/
theorem c_X7_tablesf (l : Launch) (g : gG) (gh : gGh) (T : Nat → Int32) (I : gI) (R : gR) (J : gJ) (AI : gI) (AJ : gJ) (AR : gR) (mo : Nat) (hv : mInv g gh R I AI) (hm : gO g mo 7) (hT : AI (gh 50 0) = T) : gMet l g yX7_tables tsX7_tables rmX7_tablesf [.ref mo] (I, R, J, AI, AJ, AR) (gQi g (fun (z : Int) (w : gS) => I = w.1 ∧ R = w.2.1 ∧ J = w.2.2.1 ∧ AI = w.2.2.2.1 ∧ AJ = w.2.2.2.2.1 ∧ AR = w.2.2.2.2.2 ∧ (0 ≤ z ∧ z ≤ (I mo 2).toInt) ∧ (∀ r : Int, z ≤ r → r < (I mo 2).toInt → tI T (40 * r) ≠ 0) ∧ (∀ r : Int, 0 ≤ r → r < z → tI T (40 * r) = 0))) := by
  refine gStart (cc := cX7_tables) (maxL := 2) (ret := (some (.int))) (by decide) rfl (Nat.le_of_ble_eq_true rfl) ?_
  intro p e s m below meth c ls F hr hlk hH hz hS hl
  have hl : lv_has ls 2 [(0, .ref mo)] := hl
  have hS : va_S (gA g) s.heap s.heap [] := hS
  obtain ⟨H, hHe⟩ : ∃ H : Heap, H = s.heap := ⟨_, rfl⟩
  obtain ⟨locs, hlo⟩ : ∃ k : List Loc, k = [] := ⟨_, rfl⟩
  have hH : gH g I R J AI AJ AR H := by rw [hHe]; exact hH
  have hS : va_S (gA g) s.heap H locs := by rw [hHe, hlo]; exact hS
  suffices hw : W p l e rmX7_tablesf s m ([.ref mo] : List Value).toArray below meth c H locs 0 0 (MQ below (gQi g (fun (z : Int) (w : gS) => I = w.1 ∧ R = w.2.1 ∧ J = w.2.2.1 ∧ AI = w.2.2.2.1 ∧ AJ = w.2.2.2.2.1 ∧ AR = w.2.2.2.2.2 ∧ (0 ≤ z ∧ z ≤ (I mo 2).toInt) ∧ (∀ r : Int, z ≤ r → r < (I mo 2).toInt → tI T (40 * r) ≠ 0) ∧ (∀ r : Int, 0 ≤ r → r < z → tI T (40 * r) = 0))) ([.ref mo] : List Value).toArray s 0 0 (gA g)) (F0 m 0 ls []) by
    rw [hHe, hlo] at hw; exact hw
  clear hHe hlo
  have hb0 := mJ hv hm
  unfold mNum1 at hb0
  have iX7 : ∀ w ∈ u_ws RX7 TX7 32, w ∈ tsX7_tables := fun w h => List.mem_cons_of_mem _ (inTB7 w h)
  have k64 : Cond.fieldLink RX7 64 (TX7 2).1 (TX7 2).2.1 (TX7 2).2.2.1 ∈ tsX7_tables := List.mem_cons_of_mem _ fl_64
  refine z_iconst F dX7_tables_0 ?_
  refine lv_istore_n (lv' := [(1, .int (iI 0)), (0, .ref mo)]) F.1 F.2.1 dX7_tables_1 rfl hl (by decide) rfl (fun ls hl => ?_)
  have cut_2_0 : ∀ (NN : Nat) (n : Int) (H : Heap) (locs : List Loc) (ls : Array Slot), zr n → (0 ≤ n ∧ n ≤ (I mo 2).toInt) → (∀ r : Int, 0 ≤ r → r < n → tI T (40 * r) = 0) → (16 - n) < ((NN : Nat) : Int) → gH g I R J AI AJ AR H → va_S (gA g) s.heap H locs → lv_has ls 2 [(1, .int (iI n)), (0, .ref mo)] → W p l e rmX7_tablesf s m ([.ref mo] : List Value).toArray below meth c H locs 0 0 (MQ below (gQi g (fun (z : Int) (w : gS) => I = w.1 ∧ R = w.2.1 ∧ J = w.2.2.1 ∧ AI = w.2.2.2.1 ∧ AJ = w.2.2.2.2.1 ∧ AR = w.2.2.2.2.2 ∧ (0 ≤ z ∧ z ≤ (I mo 2).toInt) ∧ (∀ r : Int, z ≤ r → r < (I mo 2).toInt → tI T (40 * r) ≠ 0) ∧ (∀ r : Int, 0 ≤ r → r < z → tI T (40 * r) = 0))) ([.ref mo] : List Value).toArray s 0 0 (gA g)) (F0 m 2 ls []) := by
    intro NN2
    induction NN2 with
    | zero =>
      intro n H locs ls zn hn htt hm2 hH hS hl
      exact absurd hm2 (by omega)
    | succ NN2 ih2 =>
      intro n H locs ls zn hn htt hm2 hH hS hl
      refine lv_iload_n F.1 F.2.1 dX7_tables_2 rfl (lv_at hl 0 rfl) ?_
      refine lv_aload_n F.1 F.2.1 dX7_tables_3 rfl (lv_at hl 1 rfl) ?_
      refine g_getI (ci := 7) (k := 2) F hH rfl (by decide) iX7 hm (by decide) rfl k64 dX7_tables_4 ?_
      have b_2 := mJ hv hm
      unfold mNum1 at b_2
      refine z_icmp_ge (tgt := 24) F dX7_tables_7 (by decide) zn (zr_t _) (fun c_3 => ?_) (fun c_3 => ?_)
      · refine lv_iload_n F.1 F.2.1 dX7_tables_24 rfl (lv_at hl 0 rfl) ?_
        exact g_iret F hr hlk hH hS hz zn ⟨rfl, rfl, rfl, rfl, rfl, rfl, by first | omega | rfl | (dsimp only; omega), mViews hv hm hT (by omega) (fun _ => by omega), htt⟩ dX7_tables_25
      · refine lv_aload_n F.1 F.2.1 dX7_tables_10 rfl (lv_at hl 1 rfl) ?_
        refine lv_iload_n F.1 F.2.1 dX7_tables_11 rfl (lv_at hl 0 rfl) ?_
        refine g_calli (g_runV (As := [.int (iI n)]) (rest := []) (ci := 7) F hl.1 hH hS hz (c_X7_kindOf l g gh T I R J AI AJ AR mo n zn hv hm hT (by omega)) (cwV 1 F.2.2.2.2.1 (good_up gT_X7_kindOf) rfl rfl rfl hdX7_kindOf ⟨Nat.le_of_ble_eq_true rfl, Nat.le_of_ble_eq_true rfl⟩) hm (by decide) rfl rfl rfl (Nat.le_of_ble_eq_true rfl) dX7_tables_12 ⟨Nat.zero_le _, Nat.zero_le _⟩) hS (fun v_10 I_4 R_5 J_6 AI_7 AJ_8 AR_9 H locs zv_10 hp_11 hH hS => ?_)
        dsimp only at hp_11
        obtain ⟨rfl, rfl, rfl, rfl, rfl, rfl, qkd⟩ := hp_11
        refine z_if_ne (tgt := 24) F dX7_tables_15 (by decide) zv_10 (fun c_12 => ?_) (fun c_12 => ?_)
        · refine lv_iload_n F.1 F.2.1 dX7_tables_24 rfl (lv_at hl 0 rfl) ?_
          exact g_iret F hr hlk hH hS hz zn ⟨rfl, rfl, rfl, rfl, rfl, rfl, by first | omega | rfl | (dsimp only; omega), mViews hv hm hT (by omega) (fun _ => by omega), htt⟩ dX7_tables_25
        · refine z_iinc (lv' := [(1, .int (iI (n + 1))), (0, .ref mo)]) F dX7_tables_18 hl (k := 0) rfl (by decide) rfl (fun ls hl => ?_)
          refine z_goto (tgt := 2) F dX7_tables_21 (by decide) ?_
          exact ih2 (n + 1) H locs ls ⟨by omega, by omega⟩ (by omega) (fun r h1 h2 => by by_cases e9 : r = n; (· rw [e9, ← qkd]; omega); (· exact htt r h1 (by omega))) (by omega) hH hS (lv_sub hl [0, 1] rfl)
  exact cut_2_0 (((16 - 0) + 1 : Int).toNat) 0 H locs ls ⟨by decide, by decide⟩ (by omega) (fun r h1 h2 => absurd h2 (by omega)) (by omega) hH hS (lv_sub hl [0, 1] rfl)
