def rmX7_packed : Room := { frames := 4, cells := 0, slots := 0, locals := 85 }
theorem hdX7_packed : yX7_packed.cls = RX7 ∧ yX7_packed.cls ≠ "java/lang/invoke/MethodHandle" ∧ yX7_packed.cls ≠ "java/lang/invoke/VarHandle" ∧ (parseMethodDescriptor yX7_packed.desc).map (fun d => d.parameters.length) = some 1 := by decide +kernel
set_option maxHeartbeats 4000000 in
set_option maxRecDepth 100000 in
/-- letters packed -/
theorem c_X7_packed (l : Launch) (g : gG) (i : Nat) (q : String × Nat × String × List Int32) (I : gI) (R : gR) (J : gJ) (AI : gI) (AJ : gJ) (AR : gR)  (hq : sTab[i]? = some q) : gMet l g yX7_packed tsX7_packed rmX7_packed [.ref (gSK g i)] (I, R, J, AI, AJ, AR) (gQl g (fun (z : Int64) (w : gS) => I = w.1 ∧ R = w.2.1 ∧ J = w.2.2.1 ∧ AI = w.2.2.2.1 ∧ AJ = w.2.2.2.2.1 ∧ AR = w.2.2.2.2.2)) := by
  refine gStart (cc := cX7_packed) (maxL := 4) (ret := (some (.long))) (by decide) rfl (Nat.le_of_ble_eq_true rfl) ?_
  intro p e s m below meth c ls F hr hlk hH hz hS hl
  have hl : lv_has ls 4 [(0, .ref (gSK g i))] := hl
  have hS : va_S (gA g) s.heap s.heap [] := hS
  obtain ⟨H, hHe⟩ : ∃ H : Heap, H = s.heap := ⟨_, rfl⟩
  obtain ⟨locs, hlo⟩ : ∃ k : List Loc, k = [] := ⟨_, rfl⟩
  have hH : gH g I R J AI AJ AR H := by rw [hHe]; exact hH
  have hS : va_S (gA g) s.heap H locs := by rw [hHe, hlo]; exact hS
  suffices hw : W p l e rmX7_packed s m ([.ref (gSK g i)] : List Value).toArray below meth c H locs 0 0 (MQ below (gQl g (fun (z : Int64) (w : gS) => I = w.1 ∧ R = w.2.1 ∧ J = w.2.2.1 ∧ AI = w.2.2.2.1 ∧ AJ = w.2.2.2.2.1 ∧ AR = w.2.2.2.2.2)) ([.ref (gSK g i)] : List Value).toArray s 0 0 (gA g)) (F0 m 0 ls []) by
    rw [hHe, hlo] at hw; exact hw
  clear hHe hlo
  have hlen := sTab_len hq
  refine lv_lconst (v := 0) F.1 F.2.1 dX7_packed_0 (by decide) ?_
  refine lv_lstore_n (lv' := [(1, .long 0), (0, .ref (gSK g i))]) F.1 F.2.1 dX7_packed_1 rfl hl (by decide) rfl (fun ls hl => ?_)
  refine z_iconst F dX7_packed_2 ?_
  refine lv_istore_n (lv' := [(3, .int (iI 0)), (1, .long 0), (0, .ref (gSK g i))]) F.1 F.2.1 dX7_packed_3 rfl hl (by decide) rfl (fun ls hl => ?_)
  have cut_4_1 : ∀ (NN : Nat) (k : Int) (lv9 : Int64) (H : Heap) (locs : List Loc) (ls : Array Slot), zr k → (0 ≤ k ∧ k ≤ ((q.2.2.2.length : Nat) : Int)) → (((q.2.2.2.length : Nat) : Int) - k) < ((NN : Nat) : Int) → gH g I R J AI AJ AR H → va_S (gA g) s.heap H locs → lv_has ls 4 [(3, .int (iI k)), (1, .long lv9), (0, .ref (gSK g i))] → W p l e rmX7_packed s m ([.ref (gSK g i)] : List Value).toArray below meth c H locs 0 0 (MQ below (gQl g (fun (z : Int64) (w : gS) => I = w.1 ∧ R = w.2.1 ∧ J = w.2.2.1 ∧ AI = w.2.2.2.1 ∧ AJ = w.2.2.2.2.1 ∧ AR = w.2.2.2.2.2)) ([.ref (gSK g i)] : List Value).toArray s 0 0 (gA g)) (F0 m 4 ls []) := by
    intro NN4
    induction NN4 with
    | zero =>
      intro k lv9 H locs ls zk hk hm4 hH hS hl
      exact absurd hm4 (by omega)
    | succ NN4 ih4 =>
      intro k lv9 H locs ls zk hk hm4 hH hS hl
      refine lv_iload_n F.1 F.2.1 dX7_packed_4 rfl (lv_at hl 0 rfl) ?_
      refine lv_aload_n F.1 F.2.1 dX7_packed_5 rfl (lv_at hl 2 rfl) ?_
      refine g_calli (g_runVS (As := []) (rest := [.int (iI k)]) F hl.1 hH hS hz hq (c_J0_length_8abf5 l g i q I R J AI AJ AR  hq) (cwV 0 F.2.2.2.2.1 (good_up gT_X7_packed_J0_length_8abf5) rfl rfl rfl hdJ0_length_8abf5 ⟨Nat.le_of_ble_eq_true rfl, Nat.le_of_ble_eq_true rfl⟩) rfl rfl (Nat.le_of_ble_eq_true rfl) dX7_packed_6 ⟨Nat.zero_le _, Nat.zero_le _⟩) hS (fun v_9 I_3 R_4 J_5 AI_6 AJ_7 AR_8 H locs zv_9 hp_10 hH hS => ?_)
      dsimp only at hp_10
      obtain ⟨rfl, rfl, rfl, rfl, rfl, rfl, q_11⟩ := hp_10
      refine z_icmp_ge (tgt := 31) F dX7_packed_9 (by decide) zk zv_9 (fun c_12 => ?_) (fun c_12 => ?_)
      · refine lv_lload_n F.1 F.2.1 dX7_packed_31 rfl (lv_at hl 1 rfl) ?_
        exact g_lret F hr hlk hH hS hz ⟨rfl, rfl, rfl, rfl, rfl, rfl⟩ dX7_packed_32
      · refine lv_ldc2 (v := 256) F.1 F.2.1 F.2.2.2.1 (F.2.2.2.2.1 _ (List.mem_cons_of_mem _ cl_115)) dX7_packed_12 ?_
        refine lv_lload_n F.1 F.2.1 dX7_packed_15 rfl (lv_at hl 1 rfl) ?_
        refine lv_lmul F.1 F.2.1 dX7_packed_16 ?_
        refine lv_topl (fun j_13 ej_13 => ?_)
        refine lv_aload_n F.1 F.2.1 dX7_packed_17 rfl (lv_at hl 2 rfl) ?_
        refine lv_iload_n F.1 F.2.1 dX7_packed_18 rfl (lv_at hl 0 rfl) ?_
        refine g_calli (g_runVS (As := [.int (iI k)]) (rest := [.long j_13]) F hl.1 hH hS hz hq (c_J0_charAt_5068e l g i q I R J AI AJ AR k zk hq (by omega) (by omega)) (cwV 1 F.2.2.2.2.1 (good_up gT_X7_packed_J0_charAt_5068e) rfl rfl rfl hdJ0_charAt_5068e ⟨Nat.le_of_ble_eq_true rfl, Nat.le_of_ble_eq_true rfl⟩) rfl rfl (Nat.le_of_ble_eq_true rfl) dX7_packed_19 ⟨Nat.zero_le _, Nat.zero_le _⟩) hS (fun v_20 I_14 R_15 J_16 AI_17 AJ_18 AR_19 H locs zv_20 hp_21 hH hS => ?_)
        dsimp only at hp_21
        obtain ⟨rfl, rfl, rfl, rfl, rfl, rfl, q_22⟩ := hp_21
        refine lv_i2l F.1 F.2.1 dX7_packed_22 rfl ?_
        refine lv_topl (fun j_23 ej_23 => ?_)
        refine lv_ladd F.1 F.2.1 dX7_packed_23 ?_
        refine lv_topl (fun j_24 ej_24 => ?_)
        refine lv_lstore_n (lv' := [(1, .long j_24), (3, .int (iI k)), (0, .ref (gSK g i))]) F.1 F.2.1 dX7_packed_24 rfl hl (by decide) rfl (fun ls hl => ?_)
        refine z_iinc (lv' := [(3, .int (iI (k + 1))), (1, .long j_24), (0, .ref (gSK g i))]) F dX7_packed_25 hl (k := 1) rfl (by decide) rfl (fun ls hl => ?_)
        refine z_goto (tgt := 4) F dX7_packed_28 (by decide) ?_
        exact ih4 (k + 1) j_24 H locs ls ⟨by omega, by omega⟩ (by omega) (by omega) hH hS (lv_sub hl [0, 1, 2] rfl)
  exact cut_4_1 (((((q.2.2.2.length : Nat) : Int) - 0) + 1 : Int).toNat) 0 0 H locs ls ⟨by decide, by decide⟩ (by omega) (by omega) hH hS (lv_sub hl [0, 1, 2] rfl)

def rmX7_isWord : Room := { frames := 5, cells := 0, slots := 0, locals := 108 }
theorem hdX7_isWord : yX7_isWord.cls = RX7 ∧ yX7_isWord.cls ≠ "java/lang/invoke/MethodHandle" ∧ yX7_isWord.cls ≠ "java/lang/invoke/VarHandle" ∧ (parseMethodDescriptor yX7_isWord.desc).map (fun d => d.parameters.length) = some 1 := by decide +kernel
set_option maxHeartbeats 4000000 in
set_option maxRecDepth 100000 in
/-- is it the word -/
theorem c_X7_isWord (l : Launch) (g : gG) (gh : gGh) (T : Nat → Int32) (i : Nat) (q : String × Nat × String × List Int32) (I : gI) (R : gR) (J : gJ) (AI : gI) (AJ : gJ) (AR : gR) (mo : Nat) (hv : mInv g gh R I AI) (hm : gO g mo 7) (hT : AI (gh 50 0) = T) (hq : sTab[i]? = some q) : gMet l g yX7_isWord tsX7_isWord rmX7_isWord [.ref mo, .ref (gSK g i)] (I, R, J, AI, AJ, AR) (gQi g (fun (z : Int) (w : gS) => I = w.1 ∧ R = w.2.1 ∧ J = w.2.2.1 ∧ AI = w.2.2.2.1 ∧ AJ = w.2.2.2.2.1 ∧ AR = w.2.2.2.2.2 ∧ (z = 0 ∨ z = 1))) := by
  refine gStart (cc := cX7_isWord) (maxL := 2) (ret := (some (.boolean))) (by decide) rfl (Nat.le_of_ble_eq_true rfl) ?_
  intro p e s m below meth c ls F hr hlk hH hz hS hl
  have hl : lv_has ls 2 [(0, .ref mo), (1, .ref (gSK g i))] := hl
  have hS : va_S (gA g) s.heap s.heap [] := hS
  obtain ⟨H, hHe⟩ : ∃ H : Heap, H = s.heap := ⟨_, rfl⟩
  obtain ⟨locs, hlo⟩ : ∃ k : List Loc, k = [] := ⟨_, rfl⟩
  have hH : gH g I R J AI AJ AR H := by rw [hHe]; exact hH
  have hS : va_S (gA g) s.heap H locs := by rw [hHe, hlo]; exact hS
  suffices hw : W p l e rmX7_isWord s m ([.ref mo, .ref (gSK g i)] : List Value).toArray below meth c H locs 0 0 (MQ below (gQi g (fun (z : Int) (w : gS) => I = w.1 ∧ R = w.2.1 ∧ J = w.2.2.1 ∧ AI = w.2.2.2.1 ∧ AJ = w.2.2.2.2.1 ∧ AR = w.2.2.2.2.2 ∧ (z = 0 ∨ z = 1))) ([.ref mo, .ref (gSK g i)] : List Value).toArray s 0 0 (gA g)) (F0 m 0 ls []) by
    rw [hHe, hlo] at hw; exact hw
  clear hHe hlo
  have hlen := sTab_len hq
  have iX7 : ∀ w ∈ u_ws RX7 TX7 32, w ∈ tsX7_isWord := fun w h => List.mem_cons_of_mem _ (inTB7 w h)
  have k81 : Cond.fieldLink RX7 81 (TX7 24).1 (TX7 24).2.1 (TX7 24).2.2.1 ∈ tsX7_isWord := List.mem_cons_of_mem _ fl_81
  have k94 : Cond.fieldLink RX7 94 (TX7 21).1 (TX7 21).2.1 (TX7 21).2.2.1 ∈ tsX7_isWord := List.mem_cons_of_mem _ fl_94
  have k111 : Cond.fieldLink RX7 111 (TX7 22).1 (TX7 22).2.1 (TX7 22).2.2.1 ∈ tsX7_isWord := List.mem_cons_of_mem _ fl_111
  refine lv_aload_n F.1 F.2.1 dX7_isWord_0 rfl (lv_at hl 0 rfl) ?_
  refine g_getI (ci := 7) (k := 24) F hH rfl (by decide) iX7 hm (by decide) rfl k81 dX7_isWord_1 ?_
  have b_1 := mJ hv hm
  unfold mNum1 at b_1
  refine z_if_ne (tgt := 31) F dX7_isWord_4 (by decide) (zr_t _) (fun c_2 => ?_) (fun c_2 => ?_)
  · refine z_iconst F dX7_isWord_31 ?_
    exact g_zret F hr hlk hH hS hz (by omega) ⟨rfl, rfl, rfl, rfl, rfl, rfl, by first | omega | rfl | (dsimp only; omega)⟩ dX7_isWord_32
  · refine lv_aload_n F.1 F.2.1 dX7_isWord_7 rfl (lv_at hl 0 rfl) ?_
    refine g_getI (ci := 7) (k := 21) F hH rfl (by decide) iX7 hm (by decide) rfl k94 dX7_isWord_8 ?_
    refine z_iconst F dX7_isWord_11 ?_
    refine z_icmp_ne (tgt := 31) F dX7_isWord_12 (by decide) (zr_t _) ⟨by decide, by decide⟩ (fun c_3 => ?_) (fun c_3 => ?_)
    · refine z_iconst F dX7_isWord_31 ?_
      exact g_zret F hr hlk hH hS hz (by omega) ⟨rfl, rfl, rfl, rfl, rfl, rfl, by first | omega | rfl | (dsimp only; omega)⟩ dX7_isWord_32
    · refine lv_aload_n F.1 F.2.1 dX7_isWord_15 rfl (lv_at hl 0 rfl) ?_
      refine g_getJ (ci := 7) (k := 22) F hH rfl (by decide) iX7 hm (by decide) rfl k111 dX7_isWord_16 ?_
      refine lv_topl (fun j_4 ej_4 => ?_)
      refine lv_aload_n F.1 F.2.1 dX7_isWord_19 rfl (lv_at hl 1 rfl) ?_
      refine g_calll (g_runS (As := [.ref (gSK g i)]) (rest := [.long j_4]) F hl.1 hH hS hz (c_X7_packed l g i q I R J AI AJ AR  hq) (va_cwS 1 F.2.2.2.2.1 (good_up gT_X7_packed) rfl rfl rfl hdX7_packed.2 ⟨Nat.le_of_ble_eq_true rfl, Nat.le_of_ble_eq_true rfl⟩) rfl rfl (Nat.le_of_ble_eq_true rfl) dX7_isWord_20 ⟨Nat.zero_le _, Nat.zero_le _⟩) hS (fun v_11 I_5 R_6 J_7 AI_8 AJ_9 AR_10 H locs hp_12 hH hS => ?_)
      dsimp only at hp_12
      obtain ⟨rfl, rfl, rfl, rfl, rfl, rfl⟩ := hp_12
      refine W.lcmp F.1 F.2.1 dX7_isWord_23 ?_
      refine z_top (fun v_13 zv_13 ev_13 => ?_)
      have lv_13 : v_13 = 0 ↔ j_4 = v_11 := by rw [ev_13]; exact z_lcmp
      refine z_if_ne (tgt := 31) F dX7_isWord_24 (by decide) zv_13 (fun c_14 => ?_) (fun c_14 => ?_)
      · refine z_iconst F dX7_isWord_31 ?_
        exact g_zret F hr hlk hH hS hz (by omega) ⟨rfl, rfl, rfl, rfl, rfl, rfl, by first | omega | rfl | (dsimp only; omega)⟩ dX7_isWord_32
      · refine z_iconst F dX7_isWord_27 ?_
        refine z_goto (tgt := 32) F dX7_isWord_28 (by decide) ?_
        exact g_zret F hr hlk hH hS hz (by omega) ⟨rfl, rfl, rfl, rfl, rfl, rfl, by first | omega | rfl | (dsimp only; omega)⟩ dX7_isWord_32

def rmX7_isSign : Room := { frames := 0, cells := 0, slots := 0, locals := 0 }
theorem hdX7_isSign : yX7_isSign.cls = RX7 ∧ yX7_isSign.cls ≠ "java/lang/invoke/MethodHandle" ∧ yX7_isSign.cls ≠ "java/lang/invoke/VarHandle" ∧ (parseMethodDescriptor yX7_isSign.desc).map (fun d => d.parameters.length) = some 1 := by decide +kernel
set_option maxHeartbeats 4000000 in
set_option maxRecDepth 100000 in
/-- is it the sign -/
theorem c_X7_isSign (l : Launch) (g : gG) (gh : gGh) (T : Nat → Int32) (I : gI) (R : gR) (J : gJ) (AI : gI) (AJ : gJ) (AR : gR) (mo : Nat) (ch : Int) (zch : zr ch) (hv : mInv g gh R I AI) (hm : gO g mo 7) (hT : AI (gh 50 0) = T) : gMet l g yX7_isSign tsX7_isSign rmX7_isSign [.ref mo, .int (iI ch)] (I, R, J, AI, AJ, AR) (gQi g (fun (z : Int) (w : gS) => I = w.1 ∧ R = w.2.1 ∧ J = w.2.2.1 ∧ AI = w.2.2.2.1 ∧ AJ = w.2.2.2.2.1 ∧ AR = w.2.2.2.2.2 ∧ ((z = 0 ∨ z = 1) ∧ (z = 1 → (I mo 24).toInt = 0 ∧ (I mo 21).toInt = 4 ∧ (I mo 23).toInt = ch) ∧ (z = 0 → (I mo 24).toInt = 0 → (I mo 21).toInt = 4 → (I mo 23).toInt ≠ ch)))) := by
  refine gStart (cc := cX7_isSign) (maxL := 2) (ret := (some (.boolean))) (by decide) rfl (Nat.le_of_ble_eq_true rfl) ?_
  intro p e s m below meth c ls F hr hlk hH hz hS hl
  have hl : lv_has ls 2 [(0, .ref mo), (1, .int (iI ch))] := hl
  have hS : va_S (gA g) s.heap s.heap [] := hS
  obtain ⟨H, hHe⟩ : ∃ H : Heap, H = s.heap := ⟨_, rfl⟩
  obtain ⟨locs, hlo⟩ : ∃ k : List Loc, k = [] := ⟨_, rfl⟩
  have hH : gH g I R J AI AJ AR H := by rw [hHe]; exact hH
  have hS : va_S (gA g) s.heap H locs := by rw [hHe, hlo]; exact hS
  suffices hw : W p l e rmX7_isSign s m ([.ref mo, .int (iI ch)] : List Value).toArray below meth c H locs 0 0 (MQ below (gQi g (fun (z : Int) (w : gS) => I = w.1 ∧ R = w.2.1 ∧ J = w.2.2.1 ∧ AI = w.2.2.2.1 ∧ AJ = w.2.2.2.2.1 ∧ AR = w.2.2.2.2.2 ∧ ((z = 0 ∨ z = 1) ∧ (z = 1 → (I mo 24).toInt = 0 ∧ (I mo 21).toInt = 4 ∧ (I mo 23).toInt = ch) ∧ (z = 0 → (I mo 24).toInt = 0 → (I mo 21).toInt = 4 → (I mo 23).toInt ≠ ch)))) ([.ref mo, .int (iI ch)] : List Value).toArray s 0 0 (gA g)) (F0 m 0 ls []) by
    rw [hHe, hlo] at hw; exact hw
  clear hHe hlo
  have iX7 : ∀ w ∈ u_ws RX7 TX7 32, w ∈ tsX7_isSign := fun w h => List.mem_cons_of_mem _ (inTB7 w h)
  have k81 : Cond.fieldLink RX7 81 (TX7 24).1 (TX7 24).2.1 (TX7 24).2.2.1 ∈ tsX7_isSign := List.mem_cons_of_mem _ fl_81
  have k94 : Cond.fieldLink RX7 94 (TX7 21).1 (TX7 21).2.1 (TX7 21).2.2.1 ∈ tsX7_isSign := List.mem_cons_of_mem _ fl_94
  have k97 : Cond.fieldLink RX7 97 (TX7 23).1 (TX7 23).2.1 (TX7 23).2.2.1 ∈ tsX7_isSign := List.mem_cons_of_mem _ fl_97
  refine lv_aload_n F.1 F.2.1 dX7_isSign_0 rfl (lv_at hl 0 rfl) ?_
  refine g_getI (ci := 7) (k := 24) F hH rfl (by decide) iX7 hm (by decide) rfl k81 dX7_isSign_1 ?_
  have b_1 := mJ hv hm
  unfold mNum1 at b_1
  refine z_if_ne (tgt := 27) F dX7_isSign_4 (by decide) (zr_t _) (fun c_2 => ?_) (fun c_2 => ?_)
  · refine z_iconst F dX7_isSign_27 ?_
    exact g_zret F hr hlk hH hS hz (by omega) ⟨rfl, rfl, rfl, rfl, rfl, rfl, ⟨by omega, fun _ => by omega, fun _ _ _ => by omega⟩⟩ dX7_isSign_28
  · refine lv_aload_n F.1 F.2.1 dX7_isSign_7 rfl (lv_at hl 0 rfl) ?_
    refine g_getI (ci := 7) (k := 21) F hH rfl (by decide) iX7 hm (by decide) rfl k94 dX7_isSign_8 ?_
    refine z_iconst F dX7_isSign_11 ?_
    refine z_icmp_ne (tgt := 27) F dX7_isSign_12 (by decide) (zr_t _) ⟨by decide, by decide⟩ (fun c_3 => ?_) (fun c_3 => ?_)
    · refine z_iconst F dX7_isSign_27 ?_
      exact g_zret F hr hlk hH hS hz (by omega) ⟨rfl, rfl, rfl, rfl, rfl, rfl, ⟨by omega, fun _ => by omega, fun _ _ _ => by omega⟩⟩ dX7_isSign_28
    · refine lv_aload_n F.1 F.2.1 dX7_isSign_15 rfl (lv_at hl 0 rfl) ?_
      refine g_getI (ci := 7) (k := 23) F hH rfl (by decide) iX7 hm (by decide) rfl k97 dX7_isSign_16 ?_
      refine lv_iload_n F.1 F.2.1 dX7_isSign_19 rfl (lv_at hl 1 rfl) ?_
      refine z_icmp_ne (tgt := 27) F dX7_isSign_20 (by decide) (zr_t _) zch (fun c_4 => ?_) (fun c_4 => ?_)
      · refine z_iconst F dX7_isSign_27 ?_
        exact g_zret F hr hlk hH hS hz (by omega) ⟨rfl, rfl, rfl, rfl, rfl, rfl, ⟨by omega, fun _ => by omega, fun _ _ _ => by omega⟩⟩ dX7_isSign_28
      · refine z_iconst F dX7_isSign_23 ?_
        refine z_goto (tgt := 28) F dX7_isSign_24 (by decide) ?_
        exact g_zret F hr hlk hH hS hz (by omega) ⟨rfl, rfl, rfl, rfl, rfl, rfl, ⟨by omega, fun _ => by omega, fun _ _ _ => by omega⟩⟩ dX7_isSign_28

def rmX7_mustSign : Room := { frames := 3, cells := 0, slots := 0, locals := 67 }
theorem hdX7_mustSign : yX7_mustSign.cls = RX7 ∧ yX7_mustSign.cls ≠ "java/lang/invoke/MethodHandle" ∧ yX7_mustSign.cls ≠ "java/lang/invoke/VarHandle" ∧ (parseMethodDescriptor yX7_mustSign.desc).map (fun d => d.parameters.length) = some 1 := by decide +kernel
set_option maxHeartbeats 4000000 in
set_option maxRecDepth 100000 in
/-- must be the sign -/
theorem c_X7_mustSign (l : Launch) (g : gG) (gh : gGh) (T : Nat → Int32) (I : gI) (R : gR) (J : gJ) (AI : gI) (AJ : gJ) (AR : gR) (mo : Nat) (ch : Int) (zch : zr ch) (hv : mInv g gh R I AI) (hm : gO g mo 7) (hT : AI (gh 50 0) = T) (hE : (I mo 20).toInt ≤ 936) : gMet l g yX7_mustSign tsX7_mustSign rmX7_mustSign [.ref mo, .int (iI ch)] (I, R, J, AI, AJ, AR) (gQv g (fun w : gS => R = w.2.1 ∧ AI = w.2.2.2.1 ∧ AJ = w.2.2.2.2.1 ∧ AR = w.2.2.2.2.2 ∧ (mInv g gh R (w.1) AI) ∧ (qF mo I (w.1)) ∧ (((w.1) mo 20).toInt ≤ 936 ∧ (I mo 24).toInt ≤ ((w.1) mo 24).toInt) ∧ (((w.1) mo 24).toInt = 0 → (I mo 21).toInt = 4 ∧ (I mo 23).toInt = ch))) := by
  refine gStart (cc := cX7_mustSign) (maxL := 2) (ret := none) (by decide) rfl (Nat.le_of_ble_eq_true rfl) ?_
  intro p e s m below meth c ls F hr hlk hH hz hS hl
  have hl : lv_has ls 2 [(0, .ref mo), (1, .int (iI ch))] := hl
  have hS : va_S (gA g) s.heap s.heap [] := hS
  obtain ⟨H, hHe⟩ : ∃ H : Heap, H = s.heap := ⟨_, rfl⟩
  obtain ⟨locs, hlo⟩ : ∃ k : List Loc, k = [] := ⟨_, rfl⟩
  have hH : gH g I R J AI AJ AR H := by rw [hHe]; exact hH
  have hS : va_S (gA g) s.heap H locs := by rw [hHe, hlo]; exact hS
  suffices hw : W p l e rmX7_mustSign s m ([.ref mo, .int (iI ch)] : List Value).toArray below meth c H locs 0 0 (MQ below (gQv g (fun w : gS => R = w.2.1 ∧ AI = w.2.2.2.1 ∧ AJ = w.2.2.2.2.1 ∧ AR = w.2.2.2.2.2 ∧ (mInv g gh R (w.1) AI) ∧ (qF mo I (w.1)) ∧ (((w.1) mo 20).toInt ≤ 936 ∧ (I mo 24).toInt ≤ ((w.1) mo 24).toInt) ∧ (((w.1) mo 24).toInt = 0 → (I mo 21).toInt = 4 ∧ (I mo 23).toInt = ch))) ([.ref mo, .int (iI ch)] : List Value).toArray s 0 0 (gA g)) (F0 m 0 ls []) by
    rw [hHe, hlo] at hw; exact hw
  clear hHe hlo
  have pf : qF mo I I := qF_r
  have hb0 := mJ hv hm
  unfold mNum1 at hb0
  have iX7 : ∀ w ∈ u_ws RX7 TX7 32, w ∈ tsX7_mustSign := fun w h => List.mem_cons_of_mem _ (inTB7 w h)
  have k81 : Cond.fieldLink RX7 81 (TX7 24).1 (TX7 24).2.1 (TX7 24).2.2.1 ∈ tsX7_mustSign := List.mem_cons_of_mem _ fl_81
  refine lv_aload_n F.1 F.2.1 dX7_mustSign_0 rfl (lv_at hl 0 rfl) ?_
  refine g_getI (ci := 7) (k := 24) F hH rfl (by decide) iX7 hm (by decide) rfl k81 dX7_mustSign_1 ?_
  have b_1 := mJ hv hm
  unfold mNum1 at b_1
  refine z_if_ne (tgt := 20) F dX7_mustSign_4 (by decide) (zr_t _) (fun c_2 => ?_) (fun c_2 => ?_)
  · refine lv_aload_n F.1 F.2.1 dX7_mustSign_20 rfl (lv_at hl 0 rfl) ?_
    refine g_callv (g_runV (As := []) (rest := []) (ci := 7) F hl.1 hH hS hz (c_X7_next l g gh T I R J AI AJ AR mo hv hm hT (by omega)) (cwV 0 F.2.2.2.2.1 (good_up gT_X7_next) rfl rfl rfl hdX7_next ⟨Nat.le_of_ble_eq_true rfl, Nat.le_of_ble_eq_true rfl⟩) hm (by decide) rfl rfl rfl (Nat.le_of_ble_eq_true rfl) dX7_mustSign_21 ⟨Nat.zero_le _, Nat.zero_le _⟩) hS (fun I_3 R_4 J_5 AI_6 AJ_7 AR_8 H locs hp_9 hH hS => ?_)
    dsimp only at hp_9
    obtain ⟨rfl, rfl, rfl, rfl, hv, pfq, q_10, q_11⟩ := hp_9
    have pf := qF_t pf pfq
    have u_12_2 : (I_3 mo 2).toInt = (I mo 2).toInt := by rw [pf 2 (by decide) (by decide) (by decide) (by decide) (by decide)]
    have u_12_5 : (I_3 mo 5).toInt = (I mo 5).toInt := by rw [pf 5 (by decide) (by decide) (by decide) (by decide) (by decide)]
    have u_12_14 : (I_3 mo 14).toInt = (I mo 14).toInt := by rw [pf 14 (by decide) (by decide) (by decide) (by decide) (by decide)]
    have u_12_16 : (I_3 mo 16).toInt = (I mo 16).toInt := by rw [pf 16 (by decide) (by decide) (by decide) (by decide) (by decide)]
    have u_12_18 : (I_3 mo 18).toInt = (I mo 18).toInt := by rw [pf 18 (by decide) (by decide) (by decide) (by decide) (by decide)]
    exact g_vret F hr hlk hH hS hz ⟨rfl, rfl, rfl, rfl, hv, pf, by first | omega | rfl | (dsimp only; omega), by first | omega | rfl | (dsimp only; omega)⟩ dX7_mustSign_24
  · refine lv_aload_n F.1 F.2.1 dX7_mustSign_7 rfl (lv_at hl 0 rfl) ?_
    refine lv_iload_n F.1 F.2.1 dX7_mustSign_8 rfl (lv_at hl 1 rfl) ?_
    refine g_calli (g_runV (As := [.int (iI ch)]) (rest := []) (ci := 7) F hl.1 hH hS hz (c_X7_isSign l g gh T I R J AI AJ AR mo ch zch hv hm hT) (cwV 1 F.2.2.2.2.1 (good_up gT_X7_isSign) rfl rfl rfl hdX7_isSign ⟨Nat.le_of_ble_eq_true rfl, Nat.le_of_ble_eq_true rfl⟩) hm (by decide) rfl rfl rfl (Nat.le_of_ble_eq_true rfl) dX7_mustSign_9 ⟨Nat.zero_le _, Nat.zero_le _⟩) hS (fun v_19 I_13 R_14 J_15 AI_16 AJ_17 AR_18 H locs zv_19 hp_20 hH hS => ?_)
    dsimp only at hp_20
    obtain ⟨rfl, rfl, rfl, rfl, rfl, rfl, q_21⟩ := hp_20
    refine z_if_ne (tgt := 20) F dX7_mustSign_12 (by decide) zv_19 (fun c_22 => ?_) (fun c_22 => ?_)
    · refine lv_aload_n F.1 F.2.1 dX7_mustSign_20 rfl (lv_at hl 0 rfl) ?_
      refine g_callv (g_runV (As := []) (rest := []) (ci := 7) F hl.1 hH hS hz (c_X7_next l g gh T I R J AI AJ AR mo hv hm hT (by omega)) (cwV 0 F.2.2.2.2.1 (good_up gT_X7_next) rfl rfl rfl hdX7_next ⟨Nat.le_of_ble_eq_true rfl, Nat.le_of_ble_eq_true rfl⟩) hm (by decide) rfl rfl rfl (Nat.le_of_ble_eq_true rfl) dX7_mustSign_21 ⟨Nat.zero_le _, Nat.zero_le _⟩) hS (fun I_23 R_24 J_25 AI_26 AJ_27 AR_28 H locs hp_29 hH hS => ?_)
      dsimp only at hp_29
      obtain ⟨rfl, rfl, rfl, rfl, hv, pfq, q_30, q_31⟩ := hp_29
      have pf := qF_t pf pfq
      have u_32_2 : (I_23 mo 2).toInt = (I mo 2).toInt := by rw [pf 2 (by decide) (by decide) (by decide) (by decide) (by decide)]
      have u_32_5 : (I_23 mo 5).toInt = (I mo 5).toInt := by rw [pf 5 (by decide) (by decide) (by decide) (by decide) (by decide)]
      have u_32_14 : (I_23 mo 14).toInt = (I mo 14).toInt := by rw [pf 14 (by decide) (by decide) (by decide) (by decide) (by decide)]
      have u_32_16 : (I_23 mo 16).toInt = (I mo 16).toInt := by rw [pf 16 (by decide) (by decide) (by decide) (by decide) (by decide)]
      have u_32_18 : (I_23 mo 18).toInt = (I mo 18).toInt := by rw [pf 18 (by decide) (by decide) (by decide) (by decide) (by decide)]
      exact g_vret F hr hlk hH hS hz ⟨rfl, rfl, rfl, rfl, hv, pf, by first | omega | rfl | (dsimp only; omega), by first | omega | rfl | (dsimp only; omega)⟩ dX7_mustSign_24
    · refine lv_aload_n F.1 F.2.1 dX7_mustSign_15 rfl (lv_at hl 0 rfl) ?_
      refine z_iconst F dX7_mustSign_16 ?_
      refine g_callv (g_runV (As := [.int (iI 1)]) (rest := []) (ci := 7) F hl.1 hH hS hz (c_X7_wrong l g gh T I R J AI AJ AR mo 1 ⟨by decide, by decide⟩ hv hm hT (by omega)) (cwV 1 F.2.2.2.2.1 (good_up gT_X7_wrong) rfl rfl rfl hdX7_wrong ⟨Nat.le_of_ble_eq_true rfl, Nat.le_of_ble_eq_true rfl⟩) hm (by decide) rfl rfl rfl (Nat.le_of_ble_eq_true rfl) dX7_mustSign_17 ⟨Nat.zero_le _, Nat.zero_le _⟩) hS (fun I_33 R_34 J_35 AI_36 AJ_37 AR_38 H locs hp_39 hH hS => ?_)
      dsimp only at hp_39
      obtain ⟨rfl, rfl, rfl, rfl, rfl, hv, pfq, q_40⟩ := hp_39
      have pf := qF_t pf pfq
      have u_41_2 : (I_33 mo 2).toInt = (I mo 2).toInt := by rw [pf 2 (by decide) (by decide) (by decide) (by decide) (by decide)]
      have u_41_5 : (I_33 mo 5).toInt = (I mo 5).toInt := by rw [pf 5 (by decide) (by decide) (by decide) (by decide) (by decide)]
      have u_41_14 : (I_33 mo 14).toInt = (I mo 14).toInt := by rw [pf 14 (by decide) (by decide) (by decide) (by decide) (by decide)]
      have u_41_16 : (I_33 mo 16).toInt = (I mo 16).toInt := by rw [pf 16 (by decide) (by decide) (by decide) (by decide) (by decide)]
      have u_41_18 : (I_33 mo 18).toInt = (I mo 18).toInt := by rw [pf 18 (by decide) (by decide) (by decide) (by decide) (by decide)]
      refine lv_aload_n F.1 F.2.1 dX7_mustSign_20 rfl (lv_at hl 0 rfl) ?_
      have b_42 := mJ hv hm
      unfold mNum1 at b_42
      refine g_callv (g_runV (As := []) (rest := []) (ci := 7) F hl.1 hH hS hz (c_X7_next l g gh T I_33 R J AI AJ AR mo hv hm hT (by omega)) (cwV 0 F.2.2.2.2.1 (good_up gT_X7_next) rfl rfl rfl hdX7_next ⟨Nat.le_of_ble_eq_true rfl, Nat.le_of_ble_eq_true rfl⟩) hm (by decide) rfl rfl rfl (Nat.le_of_ble_eq_true rfl) dX7_mustSign_21 ⟨Nat.zero_le _, Nat.zero_le _⟩) hS (fun I_43 R_44 J_45 AI_46 AJ_47 AR_48 H locs hp_49 hH hS => ?_)
      dsimp only at hp_49
      obtain ⟨rfl, rfl, rfl, rfl, hv, pfq, q_50, q_51⟩ := hp_49
      have pf := qF_t pf pfq
      have u_52_2 : (I_43 mo 2).toInt = (I mo 2).toInt := by rw [pf 2 (by decide) (by decide) (by decide) (by decide) (by decide)]
      have u_52_5 : (I_43 mo 5).toInt = (I mo 5).toInt := by rw [pf 5 (by decide) (by decide) (by decide) (by decide) (by decide)]
      have u_52_14 : (I_43 mo 14).toInt = (I mo 14).toInt := by rw [pf 14 (by decide) (by decide) (by decide) (by decide) (by decide)]
      have u_52_16 : (I_43 mo 16).toInt = (I mo 16).toInt := by rw [pf 16 (by decide) (by decide) (by decide) (by decide) (by decide)]
      have u_52_18 : (I_43 mo 18).toInt = (I mo 18).toInt := by rw [pf 18 (by decide) (by decide) (by decide) (by decide) (by decide)]
      exact g_vret F hr hlk hH hS hz ⟨rfl, rfl, rfl, rfl, hv, pf, by first | omega | rfl | (dsimp only; omega), by first | omega | rfl | (dsimp only; omega)⟩ dX7_mustSign_24

def rmX7_mustWord : Room := { frames := 6, cells := 0, slots := 0, locals := 129 }
theorem hdX7_mustWord : yX7_mustWord.cls = RX7 ∧ yX7_mustWord.cls ≠ "java/lang/invoke/MethodHandle" ∧ yX7_mustWord.cls ≠ "java/lang/invoke/VarHandle" ∧ (parseMethodDescriptor yX7_mustWord.desc).map (fun d => d.parameters.length) = some 1 := by decide +kernel
set_option maxHeartbeats 4000000 in
set_option maxRecDepth 100000 in
/-- must be the word -/
theorem c_X7_mustWord (l : Launch) (g : gG) (gh : gGh) (T : Nat → Int32) (i : Nat) (q : String × Nat × String × List Int32) (I : gI) (R : gR) (J : gJ) (AI : gI) (AJ : gJ) (AR : gR) (mo : Nat) (hv : mInv g gh R I AI) (hm : gO g mo 7) (hT : AI (gh 50 0) = T) (hE : (I mo 20).toInt ≤ 936) (hq : sTab[i]? = some q) : gMet l g yX7_mustWord tsX7_mustWord rmX7_mustWord [.ref mo, .ref (gSK g i)] (I, R, J, AI, AJ, AR) (gQv g (fun w : gS => R = w.2.1 ∧ AI = w.2.2.2.1 ∧ AJ = w.2.2.2.2.1 ∧ AR = w.2.2.2.2.2 ∧ (mInv g gh R (w.1) AI) ∧ (qF mo I (w.1)) ∧ (((w.1) mo 20).toInt ≤ 936 ∧ (I mo 24).toInt ≤ ((w.1) mo 24).toInt))) := by
  refine gStart (cc := cX7_mustWord) (maxL := 2) (ret := none) (by decide) rfl (Nat.le_of_ble_eq_true rfl) ?_
  intro p e s m below meth c ls F hr hlk hH hz hS hl
  have hl : lv_has ls 2 [(0, .ref mo), (1, .ref (gSK g i))] := hl
  have hS : va_S (gA g) s.heap s.heap [] := hS
  obtain ⟨H, hHe⟩ : ∃ H : Heap, H = s.heap := ⟨_, rfl⟩
  obtain ⟨locs, hlo⟩ : ∃ k : List Loc, k = [] := ⟨_, rfl⟩
  have hH : gH g I R J AI AJ AR H := by rw [hHe]; exact hH
  have hS : va_S (gA g) s.heap H locs := by rw [hHe, hlo]; exact hS
  suffices hw : W p l e rmX7_mustWord s m ([.ref mo, .ref (gSK g i)] : List Value).toArray below meth c H locs 0 0 (MQ below (gQv g (fun w : gS => R = w.2.1 ∧ AI = w.2.2.2.1 ∧ AJ = w.2.2.2.2.1 ∧ AR = w.2.2.2.2.2 ∧ (mInv g gh R (w.1) AI) ∧ (qF mo I (w.1)) ∧ (((w.1) mo 20).toInt ≤ 936 ∧ (I mo 24).toInt ≤ ((w.1) mo 24).toInt))) ([.ref mo, .ref (gSK g i)] : List Value).toArray s 0 0 (gA g)) (F0 m 0 ls []) by
    rw [hHe, hlo] at hw; exact hw
  clear hHe hlo
  have pf : qF mo I I := qF_r
  have hb0 := mJ hv hm
  unfold mNum1 at hb0
  have hlen := sTab_len hq
  have iX7 : ∀ w ∈ u_ws RX7 TX7 32, w ∈ tsX7_mustWord := fun w h => List.mem_cons_of_mem _ (inTB7 w h)
  have k81 : Cond.fieldLink RX7 81 (TX7 24).1 (TX7 24).2.1 (TX7 24).2.2.1 ∈ tsX7_mustWord := List.mem_cons_of_mem _ fl_81
  refine lv_aload_n F.1 F.2.1 dX7_mustWord_0 rfl (lv_at hl 0 rfl) ?_
  refine g_getI (ci := 7) (k := 24) F hH rfl (by decide) iX7 hm (by decide) rfl k81 dX7_mustWord_1 ?_
  have b_1 := mJ hv hm
  unfold mNum1 at b_1
  refine z_if_ne (tgt := 20) F dX7_mustWord_4 (by decide) (zr_t _) (fun c_2 => ?_) (fun c_2 => ?_)
  · refine lv_aload_n F.1 F.2.1 dX7_mustWord_20 rfl (lv_at hl 0 rfl) ?_
    refine g_callv (g_runV (As := []) (rest := []) (ci := 7) F hl.1 hH hS hz (c_X7_next l g gh T I R J AI AJ AR mo hv hm hT (by omega)) (cwV 0 F.2.2.2.2.1 (good_up gT_X7_next) rfl rfl rfl hdX7_next ⟨Nat.le_of_ble_eq_true rfl, Nat.le_of_ble_eq_true rfl⟩) hm (by decide) rfl rfl rfl (Nat.le_of_ble_eq_true rfl) dX7_mustWord_21 ⟨Nat.zero_le _, Nat.zero_le _⟩) hS (fun I_3 R_4 J_5 AI_6 AJ_7 AR_8 H locs hp_9 hH hS => ?_)
    dsimp only at hp_9
    obtain ⟨rfl, rfl, rfl, rfl, hv, pfq, q_10, q_11⟩ := hp_9
    have pf := qF_t pf pfq
    have u_12_2 : (I_3 mo 2).toInt = (I mo 2).toInt := by rw [pf 2 (by decide) (by decide) (by decide) (by decide) (by decide)]
    have u_12_5 : (I_3 mo 5).toInt = (I mo 5).toInt := by rw [pf 5 (by decide) (by decide) (by decide) (by decide) (by decide)]
    have u_12_14 : (I_3 mo 14).toInt = (I mo 14).toInt := by rw [pf 14 (by decide) (by decide) (by decide) (by decide) (by decide)]
    have u_12_16 : (I_3 mo 16).toInt = (I mo 16).toInt := by rw [pf 16 (by decide) (by decide) (by decide) (by decide) (by decide)]
    have u_12_18 : (I_3 mo 18).toInt = (I mo 18).toInt := by rw [pf 18 (by decide) (by decide) (by decide) (by decide) (by decide)]
    exact g_vret F hr hlk hH hS hz ⟨rfl, rfl, rfl, rfl, hv, pf, by first | omega | rfl | (dsimp only; omega)⟩ dX7_mustWord_24
  · refine lv_aload_n F.1 F.2.1 dX7_mustWord_7 rfl (lv_at hl 0 rfl) ?_
    refine lv_aload_n F.1 F.2.1 dX7_mustWord_8 rfl (lv_at hl 1 rfl) ?_
    refine g_calli (g_runV (As := [.ref (gSK g i)]) (rest := []) (ci := 7) F hl.1 hH hS hz (c_X7_isWord l g gh T i q I R J AI AJ AR mo hv hm hT hq) (cwV 1 F.2.2.2.2.1 (good_up gT_X7_isWord) rfl rfl rfl hdX7_isWord ⟨Nat.le_of_ble_eq_true rfl, Nat.le_of_ble_eq_true rfl⟩) hm (by decide) rfl rfl rfl (Nat.le_of_ble_eq_true rfl) dX7_mustWord_9 ⟨Nat.zero_le _, Nat.zero_le _⟩) hS (fun v_19 I_13 R_14 J_15 AI_16 AJ_17 AR_18 H locs zv_19 hp_20 hH hS => ?_)
    dsimp only at hp_20
    obtain ⟨rfl, rfl, rfl, rfl, rfl, rfl, q_21⟩ := hp_20
    refine z_if_ne (tgt := 20) F dX7_mustWord_12 (by decide) zv_19 (fun c_22 => ?_) (fun c_22 => ?_)
    · refine lv_aload_n F.1 F.2.1 dX7_mustWord_20 rfl (lv_at hl 0 rfl) ?_
      refine g_callv (g_runV (As := []) (rest := []) (ci := 7) F hl.1 hH hS hz (c_X7_next l g gh T I R J AI AJ AR mo hv hm hT (by omega)) (cwV 0 F.2.2.2.2.1 (good_up gT_X7_next) rfl rfl rfl hdX7_next ⟨Nat.le_of_ble_eq_true rfl, Nat.le_of_ble_eq_true rfl⟩) hm (by decide) rfl rfl rfl (Nat.le_of_ble_eq_true rfl) dX7_mustWord_21 ⟨Nat.zero_le _, Nat.zero_le _⟩) hS (fun I_23 R_24 J_25 AI_26 AJ_27 AR_28 H locs hp_29 hH hS => ?_)
      dsimp only at hp_29
      obtain ⟨rfl, rfl, rfl, rfl, hv, pfq, q_30, q_31⟩ := hp_29
      have pf := qF_t pf pfq
      have u_32_2 : (I_23 mo 2).toInt = (I mo 2).toInt := by rw [pf 2 (by decide) (by decide) (by decide) (by decide) (by decide)]
      have u_32_5 : (I_23 mo 5).toInt = (I mo 5).toInt := by rw [pf 5 (by decide) (by decide) (by decide) (by decide) (by decide)]
      have u_32_14 : (I_23 mo 14).toInt = (I mo 14).toInt := by rw [pf 14 (by decide) (by decide) (by decide) (by decide) (by decide)]
      have u_32_16 : (I_23 mo 16).toInt = (I mo 16).toInt := by rw [pf 16 (by decide) (by decide) (by decide) (by decide) (by decide)]
      have u_32_18 : (I_23 mo 18).toInt = (I mo 18).toInt := by rw [pf 18 (by decide) (by decide) (by decide) (by decide) (by decide)]
      exact g_vret F hr hlk hH hS hz ⟨rfl, rfl, rfl, rfl, hv, pf, by first | omega | rfl | (dsimp only; omega)⟩ dX7_mustWord_24
    · refine lv_aload_n F.1 F.2.1 dX7_mustWord_15 rfl (lv_at hl 0 rfl) ?_
      refine z_iconst F dX7_mustWord_16 ?_
      refine g_callv (g_runV (As := [.int (iI 1)]) (rest := []) (ci := 7) F hl.1 hH hS hz (c_X7_wrong l g gh T I R J AI AJ AR mo 1 ⟨by decide, by decide⟩ hv hm hT (by omega)) (cwV 1 F.2.2.2.2.1 (good_up gT_X7_wrong) rfl rfl rfl hdX7_wrong ⟨Nat.le_of_ble_eq_true rfl, Nat.le_of_ble_eq_true rfl⟩) hm (by decide) rfl rfl rfl (Nat.le_of_ble_eq_true rfl) dX7_mustWord_17 ⟨Nat.zero_le _, Nat.zero_le _⟩) hS (fun I_33 R_34 J_35 AI_36 AJ_37 AR_38 H locs hp_39 hH hS => ?_)
      dsimp only at hp_39
      obtain ⟨rfl, rfl, rfl, rfl, rfl, hv, pfq, q_40⟩ := hp_39
      have pf := qF_t pf pfq
      have u_41_2 : (I_33 mo 2).toInt = (I mo 2).toInt := by rw [pf 2 (by decide) (by decide) (by decide) (by decide) (by decide)]
      have u_41_5 : (I_33 mo 5).toInt = (I mo 5).toInt := by rw [pf 5 (by decide) (by decide) (by decide) (by decide) (by decide)]
      have u_41_14 : (I_33 mo 14).toInt = (I mo 14).toInt := by rw [pf 14 (by decide) (by decide) (by decide) (by decide) (by decide)]
      have u_41_16 : (I_33 mo 16).toInt = (I mo 16).toInt := by rw [pf 16 (by decide) (by decide) (by decide) (by decide) (by decide)]
      have u_41_18 : (I_33 mo 18).toInt = (I mo 18).toInt := by rw [pf 18 (by decide) (by decide) (by decide) (by decide) (by decide)]
      refine lv_aload_n F.1 F.2.1 dX7_mustWord_20 rfl (lv_at hl 0 rfl) ?_
      have b_42 := mJ hv hm
      unfold mNum1 at b_42
      refine g_callv (g_runV (As := []) (rest := []) (ci := 7) F hl.1 hH hS hz (c_X7_next l g gh T I_33 R J AI AJ AR mo hv hm hT (by omega)) (cwV 0 F.2.2.2.2.1 (good_up gT_X7_next) rfl rfl rfl hdX7_next ⟨Nat.le_of_ble_eq_true rfl, Nat.le_of_ble_eq_true rfl⟩) hm (by decide) rfl rfl rfl (Nat.le_of_ble_eq_true rfl) dX7_mustWord_21 ⟨Nat.zero_le _, Nat.zero_le _⟩) hS (fun I_43 R_44 J_45 AI_46 AJ_47 AR_48 H locs hp_49 hH hS => ?_)
      dsimp only at hp_49
      obtain ⟨rfl, rfl, rfl, rfl, hv, pfq, q_50, q_51⟩ := hp_49
      have pf := qF_t pf pfq
      have u_52_2 : (I_43 mo 2).toInt = (I mo 2).toInt := by rw [pf 2 (by decide) (by decide) (by decide) (by decide) (by decide)]
      have u_52_5 : (I_43 mo 5).toInt = (I mo 5).toInt := by rw [pf 5 (by decide) (by decide) (by decide) (by decide) (by decide)]
      have u_52_14 : (I_43 mo 14).toInt = (I mo 14).toInt := by rw [pf 14 (by decide) (by decide) (by decide) (by decide) (by decide)]
      have u_52_16 : (I_43 mo 16).toInt = (I mo 16).toInt := by rw [pf 16 (by decide) (by decide) (by decide) (by decide) (by decide)]
      have u_52_18 : (I_43 mo 18).toInt = (I mo 18).toInt := by rw [pf 18 (by decide) (by decide) (by decide) (by decide) (by decide)]
      exact g_vret F hr hlk hH hS hz ⟨rfl, rfl, rfl, rfl, hv, pf, by first | omega | rfl | (dsimp only; omega)⟩ dX7_mustWord_24

def rmX7_isReserved : Room := { frames := 6, cells := 0, slots := 0, locals := 129 }
theorem hdX7_isReserved : yX7_isReserved.cls = RX7 ∧ yX7_isReserved.cls ≠ "java/lang/invoke/MethodHandle" ∧ yX7_isReserved.cls ≠ "java/lang/invoke/VarHandle" ∧ (parseMethodDescriptor yX7_isReserved.desc).map (fun d => d.parameters.length) = some 0 := by decide +kernel
set_option maxHeartbeats 4000000 in
set_option maxRecDepth 100000 in
/-- reserved -/
theorem c_X7_isReserved (l : Launch) (g : gG) (gh : gGh) (T : Nat → Int32) (I : gI) (R : gR) (J : gJ) (AI : gI) (AJ : gJ) (AR : gR) (mo : Nat) (hv : mInv g gh R I AI) (hm : gO g mo 7) (hT : AI (gh 50 0) = T) : gMet l g yX7_isReserved tsX7_isReserved rmX7_isReserved [.ref mo] (I, R, J, AI, AJ, AR) (gQi g (fun (z : Int) (w : gS) => I = w.1 ∧ R = w.2.1 ∧ J = w.2.2.1 ∧ AI = w.2.2.2.1 ∧ AJ = w.2.2.2.2.1 ∧ AR = w.2.2.2.2.2 ∧ (z = 0 ∨ z = 1))) := by
  refine gStart (cc := cX7_isReserved) (maxL := 1) (ret := (some (.boolean))) (by decide) rfl (Nat.le_of_ble_eq_true rfl) ?_
  intro p e s m below meth c ls F hr hlk hH hz hS hl
  have hl : lv_has ls 1 [(0, .ref mo)] := hl
  have hS : va_S (gA g) s.heap s.heap [] := hS
  obtain ⟨H, hHe⟩ : ∃ H : Heap, H = s.heap := ⟨_, rfl⟩
  obtain ⟨locs, hlo⟩ : ∃ k : List Loc, k = [] := ⟨_, rfl⟩
  have hH : gH g I R J AI AJ AR H := by rw [hHe]; exact hH
  have hS : va_S (gA g) s.heap H locs := by rw [hHe, hlo]; exact hS
  suffices hw : W p l e rmX7_isReserved s m ([.ref mo] : List Value).toArray below meth c H locs 0 0 (MQ below (gQi g (fun (z : Int) (w : gS) => I = w.1 ∧ R = w.2.1 ∧ J = w.2.2.1 ∧ AI = w.2.2.2.1 ∧ AJ = w.2.2.2.2.1 ∧ AR = w.2.2.2.2.2 ∧ (z = 0 ∨ z = 1))) ([.ref mo] : List Value).toArray s 0 0 (gA g)) (F0 m 0 ls []) by
    rw [hHe, hlo] at hw; exact hw
  clear hHe hlo
  refine lv_aload_n F.1 F.2.1 dX7_isReserved_0 rfl (lv_at hl 0 rfl) ?_
  refine va_ldcS F.1 F.2.1 F.2.2.2.1 (F.2.2.2.2.2.2.1 7 _ rfl).1 dX7_isReserved_1 ?_
  have b_1 := mJ hv hm
  unfold mNum1 at b_1
  refine g_calli (g_runV (As := [.ref (gSK g 7)]) (rest := []) (ci := 7) F hl.1 hH hS hz (c_X7_isWord l g gh T 7 _ I R J AI AJ AR mo hv hm hT (rfl : sTab[7]? = some _)) (cwV 1 F.2.2.2.2.1 (good_up gT_X7_isWord) rfl rfl rfl hdX7_isWord ⟨Nat.le_of_ble_eq_true rfl, Nat.le_of_ble_eq_true rfl⟩) hm (by decide) rfl rfl rfl (Nat.le_of_ble_eq_true rfl) dX7_isReserved_3 ⟨Nat.zero_le _, Nat.zero_le _⟩) hS (fun v_8 I_2 R_3 J_4 AI_5 AJ_6 AR_7 H locs zv_8 hp_9 hH hS => ?_)
  dsimp only at hp_9
  obtain ⟨rfl, rfl, rfl, rfl, rfl, rfl, q_10⟩ := hp_9
  refine z_if_ne (tgt := 54) F dX7_isReserved_6 (by decide) zv_8 (fun c_11 => ?_) (fun c_11 => ?_)
  · refine z_iconst F dX7_isReserved_54 ?_
    exact g_zret F hr hlk hH hS hz (by omega) ⟨rfl, rfl, rfl, rfl, rfl, rfl, by first | omega | rfl | (dsimp only; omega)⟩ dX7_isReserved_55
  · refine lv_aload_n F.1 F.2.1 dX7_isReserved_9 rfl (lv_at hl 0 rfl) ?_
    refine va_ldcS F.1 F.2.1 F.2.2.2.1 (F.2.2.2.2.2.2.1 8 _ rfl).1 dX7_isReserved_10 ?_
    refine g_calli (g_runV (As := [.ref (gSK g 8)]) (rest := []) (ci := 7) F hl.1 hH hS hz (c_X7_isWord l g gh T 8 _ I R J AI AJ AR mo hv hm hT (rfl : sTab[8]? = some _)) (cwV 1 F.2.2.2.2.1 (good_up gT_X7_isWord) rfl rfl rfl hdX7_isWord ⟨Nat.le_of_ble_eq_true rfl, Nat.le_of_ble_eq_true rfl⟩) hm (by decide) rfl rfl rfl (Nat.le_of_ble_eq_true rfl) dX7_isReserved_12 ⟨Nat.zero_le _, Nat.zero_le _⟩) hS (fun v_18 I_12 R_13 J_14 AI_15 AJ_16 AR_17 H locs zv_18 hp_19 hH hS => ?_)
    dsimp only at hp_19
    obtain ⟨rfl, rfl, rfl, rfl, rfl, rfl, q_20⟩ := hp_19
    refine z_if_ne (tgt := 54) F dX7_isReserved_15 (by decide) zv_18 (fun c_21 => ?_) (fun c_21 => ?_)
    · refine z_iconst F dX7_isReserved_54 ?_
      exact g_zret F hr hlk hH hS hz (by omega) ⟨rfl, rfl, rfl, rfl, rfl, rfl, by first | omega | rfl | (dsimp only; omega)⟩ dX7_isReserved_55
    · refine lv_aload_n F.1 F.2.1 dX7_isReserved_18 rfl (lv_at hl 0 rfl) ?_
      refine va_ldcS F.1 F.2.1 F.2.2.2.1 (F.2.2.2.2.2.2.1 9 _ rfl).1 dX7_isReserved_19 ?_
      refine g_calli (g_runV (As := [.ref (gSK g 9)]) (rest := []) (ci := 7) F hl.1 hH hS hz (c_X7_isWord l g gh T 9 _ I R J AI AJ AR mo hv hm hT (rfl : sTab[9]? = some _)) (cwV 1 F.2.2.2.2.1 (good_up gT_X7_isWord) rfl rfl rfl hdX7_isWord ⟨Nat.le_of_ble_eq_true rfl, Nat.le_of_ble_eq_true rfl⟩) hm (by decide) rfl rfl rfl (Nat.le_of_ble_eq_true rfl) dX7_isReserved_21 ⟨Nat.zero_le _, Nat.zero_le _⟩) hS (fun v_28 I_22 R_23 J_24 AI_25 AJ_26 AR_27 H locs zv_28 hp_29 hH hS => ?_)
      dsimp only at hp_29
      obtain ⟨rfl, rfl, rfl, rfl, rfl, rfl, q_30⟩ := hp_29
      refine z_if_ne (tgt := 54) F dX7_isReserved_24 (by decide) zv_28 (fun c_31 => ?_) (fun c_31 => ?_)
      · refine z_iconst F dX7_isReserved_54 ?_
        exact g_zret F hr hlk hH hS hz (by omega) ⟨rfl, rfl, rfl, rfl, rfl, rfl, by first | omega | rfl | (dsimp only; omega)⟩ dX7_isReserved_55
      · refine lv_aload_n F.1 F.2.1 dX7_isReserved_27 rfl (lv_at hl 0 rfl) ?_
        refine va_ldcS F.1 F.2.1 F.2.2.2.1 (F.2.2.2.2.2.2.1 10 _ rfl).1 dX7_isReserved_28 ?_
        refine g_calli (g_runV (As := [.ref (gSK g 10)]) (rest := []) (ci := 7) F hl.1 hH hS hz (c_X7_isWord l g gh T 10 _ I R J AI AJ AR mo hv hm hT (rfl : sTab[10]? = some _)) (cwV 1 F.2.2.2.2.1 (good_up gT_X7_isWord) rfl rfl rfl hdX7_isWord ⟨Nat.le_of_ble_eq_true rfl, Nat.le_of_ble_eq_true rfl⟩) hm (by decide) rfl rfl rfl (Nat.le_of_ble_eq_true rfl) dX7_isReserved_30 ⟨Nat.zero_le _, Nat.zero_le _⟩) hS (fun v_38 I_32 R_33 J_34 AI_35 AJ_36 AR_37 H locs zv_38 hp_39 hH hS => ?_)
        dsimp only at hp_39
        obtain ⟨rfl, rfl, rfl, rfl, rfl, rfl, q_40⟩ := hp_39
        refine z_if_ne (tgt := 54) F dX7_isReserved_33 (by decide) zv_38 (fun c_41 => ?_) (fun c_41 => ?_)
        · refine z_iconst F dX7_isReserved_54 ?_
          exact g_zret F hr hlk hH hS hz (by omega) ⟨rfl, rfl, rfl, rfl, rfl, rfl, by first | omega | rfl | (dsimp only; omega)⟩ dX7_isReserved_55
        · refine lv_aload_n F.1 F.2.1 dX7_isReserved_36 rfl (lv_at hl 0 rfl) ?_
          refine va_ldcS F.1 F.2.1 F.2.2.2.1 (F.2.2.2.2.2.2.1 11 _ rfl).1 dX7_isReserved_37 ?_
          refine g_calli (g_runV (As := [.ref (gSK g 11)]) (rest := []) (ci := 7) F hl.1 hH hS hz (c_X7_isWord l g gh T 11 _ I R J AI AJ AR mo hv hm hT (rfl : sTab[11]? = some _)) (cwV 1 F.2.2.2.2.1 (good_up gT_X7_isWord) rfl rfl rfl hdX7_isWord ⟨Nat.le_of_ble_eq_true rfl, Nat.le_of_ble_eq_true rfl⟩) hm (by decide) rfl rfl rfl (Nat.le_of_ble_eq_true rfl) dX7_isReserved_39 ⟨Nat.zero_le _, Nat.zero_le _⟩) hS (fun v_48 I_42 R_43 J_44 AI_45 AJ_46 AR_47 H locs zv_48 hp_49 hH hS => ?_)
          dsimp only at hp_49
          obtain ⟨rfl, rfl, rfl, rfl, rfl, rfl, q_50⟩ := hp_49
          refine z_if_ne (tgt := 54) F dX7_isReserved_42 (by decide) zv_48 (fun c_51 => ?_) (fun c_51 => ?_)
          · refine z_iconst F dX7_isReserved_54 ?_
            exact g_zret F hr hlk hH hS hz (by omega) ⟨rfl, rfl, rfl, rfl, rfl, rfl, by first | omega | rfl | (dsimp only; omega)⟩ dX7_isReserved_55
          · refine lv_aload_n F.1 F.2.1 dX7_isReserved_45 rfl (lv_at hl 0 rfl) ?_
            refine va_ldcS F.1 F.2.1 F.2.2.2.1 (F.2.2.2.2.2.2.1 12 _ rfl).1 dX7_isReserved_46 ?_
            refine g_calli (g_runV (As := [.ref (gSK g 12)]) (rest := []) (ci := 7) F hl.1 hH hS hz (c_X7_isWord l g gh T 12 _ I R J AI AJ AR mo hv hm hT (rfl : sTab[12]? = some _)) (cwV 1 F.2.2.2.2.1 (good_up gT_X7_isWord) rfl rfl rfl hdX7_isWord ⟨Nat.le_of_ble_eq_true rfl, Nat.le_of_ble_eq_true rfl⟩) hm (by decide) rfl rfl rfl (Nat.le_of_ble_eq_true rfl) dX7_isReserved_48 ⟨Nat.zero_le _, Nat.zero_le _⟩) hS (fun v_58 I_52 R_53 J_54 AI_55 AJ_56 AR_57 H locs zv_58 hp_59 hH hS => ?_)
            dsimp only at hp_59
            obtain ⟨rfl, rfl, rfl, rfl, rfl, rfl, q_60⟩ := hp_59
            refine z_if_eq (tgt := 56) F dX7_isReserved_51 (by decide) zv_58 (fun c_61 => ?_) (fun c_61 => ?_)
            · refine lv_aload_n F.1 F.2.1 dX7_isReserved_56 rfl (lv_at hl 0 rfl) ?_
              refine va_ldcS F.1 F.2.1 F.2.2.2.1 (F.2.2.2.2.2.2.1 13 _ rfl).1 dX7_isReserved_57 ?_
              refine g_calli (g_runV (As := [.ref (gSK g 13)]) (rest := []) (ci := 7) F hl.1 hH hS hz (c_X7_isWord l g gh T 13 _ I R J AI AJ AR mo hv hm hT (rfl : sTab[13]? = some _)) (cwV 1 F.2.2.2.2.1 (good_up gT_X7_isWord) rfl rfl rfl hdX7_isWord ⟨Nat.le_of_ble_eq_true rfl, Nat.le_of_ble_eq_true rfl⟩) hm (by decide) rfl rfl rfl (Nat.le_of_ble_eq_true rfl) dX7_isReserved_59 ⟨Nat.zero_le _, Nat.zero_le _⟩) hS (fun v_68 I_62 R_63 J_64 AI_65 AJ_66 AR_67 H locs zv_68 hp_69 hH hS => ?_)
              dsimp only at hp_69
              obtain ⟨rfl, rfl, rfl, rfl, rfl, rfl, q_70⟩ := hp_69
              refine z_if_ne (tgt := 110) F dX7_isReserved_62 (by decide) zv_68 (fun c_71 => ?_) (fun c_71 => ?_)
              · refine z_iconst F dX7_isReserved_110 ?_
                exact g_zret F hr hlk hH hS hz (by omega) ⟨rfl, rfl, rfl, rfl, rfl, rfl, by first | omega | rfl | (dsimp only; omega)⟩ dX7_isReserved_111
              · refine lv_aload_n F.1 F.2.1 dX7_isReserved_65 rfl (lv_at hl 0 rfl) ?_
                refine va_ldcS F.1 F.2.1 F.2.2.2.1 (F.2.2.2.2.2.2.1 14 _ rfl).1 dX7_isReserved_66 ?_
                refine g_calli (g_runV (As := [.ref (gSK g 14)]) (rest := []) (ci := 7) F hl.1 hH hS hz (c_X7_isWord l g gh T 14 _ I R J AI AJ AR mo hv hm hT (rfl : sTab[14]? = some _)) (cwV 1 F.2.2.2.2.1 (good_up gT_X7_isWord) rfl rfl rfl hdX7_isWord ⟨Nat.le_of_ble_eq_true rfl, Nat.le_of_ble_eq_true rfl⟩) hm (by decide) rfl rfl rfl (Nat.le_of_ble_eq_true rfl) dX7_isReserved_68 ⟨Nat.zero_le _, Nat.zero_le _⟩) hS (fun v_78 I_72 R_73 J_74 AI_75 AJ_76 AR_77 H locs zv_78 hp_79 hH hS => ?_)
                dsimp only at hp_79
                obtain ⟨rfl, rfl, rfl, rfl, rfl, rfl, q_80⟩ := hp_79
                refine z_if_ne (tgt := 110) F dX7_isReserved_71 (by decide) zv_78 (fun c_81 => ?_) (fun c_81 => ?_)
                · refine z_iconst F dX7_isReserved_110 ?_
                  exact g_zret F hr hlk hH hS hz (by omega) ⟨rfl, rfl, rfl, rfl, rfl, rfl, by first | omega | rfl | (dsimp only; omega)⟩ dX7_isReserved_111
                · refine lv_aload_n F.1 F.2.1 dX7_isReserved_74 rfl (lv_at hl 0 rfl) ?_
                  refine va_ldcS F.1 F.2.1 F.2.2.2.1 (F.2.2.2.2.2.2.1 15 _ rfl).1 dX7_isReserved_75 ?_
                  refine g_calli (g_runV (As := [.ref (gSK g 15)]) (rest := []) (ci := 7) F hl.1 hH hS hz (c_X7_isWord l g gh T 15 _ I R J AI AJ AR mo hv hm hT (rfl : sTab[15]? = some _)) (cwV 1 F.2.2.2.2.1 (good_up gT_X7_isWord) rfl rfl rfl hdX7_isWord ⟨Nat.le_of_ble_eq_true rfl, Nat.le_of_ble_eq_true rfl⟩) hm (by decide) rfl rfl rfl (Nat.le_of_ble_eq_true rfl) dX7_isReserved_77 ⟨Nat.zero_le _, Nat.zero_le _⟩) hS (fun v_88 I_82 R_83 J_84 AI_85 AJ_86 AR_87 H locs zv_88 hp_89 hH hS => ?_)
                  dsimp only at hp_89
                  obtain ⟨rfl, rfl, rfl, rfl, rfl, rfl, q_90⟩ := hp_89
                  refine z_if_ne (tgt := 110) F dX7_isReserved_80 (by decide) zv_88 (fun c_91 => ?_) (fun c_91 => ?_)
                  · refine z_iconst F dX7_isReserved_110 ?_
                    exact g_zret F hr hlk hH hS hz (by omega) ⟨rfl, rfl, rfl, rfl, rfl, rfl, by first | omega | rfl | (dsimp only; omega)⟩ dX7_isReserved_111
                  · refine lv_aload_n F.1 F.2.1 dX7_isReserved_83 rfl (lv_at hl 0 rfl) ?_
                    refine va_ldcS F.1 F.2.1 F.2.2.2.1 (F.2.2.2.2.2.2.1 16 _ rfl).1 dX7_isReserved_84 ?_
                    refine g_calli (g_runV (As := [.ref (gSK g 16)]) (rest := []) (ci := 7) F hl.1 hH hS hz (c_X7_isWord l g gh T 16 _ I R J AI AJ AR mo hv hm hT (rfl : sTab[16]? = some _)) (cwV 1 F.2.2.2.2.1 (good_up gT_X7_isWord) rfl rfl rfl hdX7_isWord ⟨Nat.le_of_ble_eq_true rfl, Nat.le_of_ble_eq_true rfl⟩) hm (by decide) rfl rfl rfl (Nat.le_of_ble_eq_true rfl) dX7_isReserved_86 ⟨Nat.zero_le _, Nat.zero_le _⟩) hS (fun v_98 I_92 R_93 J_94 AI_95 AJ_96 AR_97 H locs zv_98 hp_99 hH hS => ?_)
                    dsimp only at hp_99
                    obtain ⟨rfl, rfl, rfl, rfl, rfl, rfl, q_100⟩ := hp_99
                    refine z_if_ne (tgt := 110) F dX7_isReserved_89 (by decide) zv_98 (fun c_101 => ?_) (fun c_101 => ?_)
                    · refine z_iconst F dX7_isReserved_110 ?_
                      exact g_zret F hr hlk hH hS hz (by omega) ⟨rfl, rfl, rfl, rfl, rfl, rfl, by first | omega | rfl | (dsimp only; omega)⟩ dX7_isReserved_111
                    · refine lv_aload_n F.1 F.2.1 dX7_isReserved_92 rfl (lv_at hl 0 rfl) ?_
                      refine va_ldcS F.1 F.2.1 F.2.2.2.1 (F.2.2.2.2.2.2.1 17 _ rfl).1 dX7_isReserved_93 ?_
                      refine g_calli (g_runV (As := [.ref (gSK g 17)]) (rest := []) (ci := 7) F hl.1 hH hS hz (c_X7_isWord l g gh T 17 _ I R J AI AJ AR mo hv hm hT (rfl : sTab[17]? = some _)) (cwV 1 F.2.2.2.2.1 (good_up gT_X7_isWord) rfl rfl rfl hdX7_isWord ⟨Nat.le_of_ble_eq_true rfl, Nat.le_of_ble_eq_true rfl⟩) hm (by decide) rfl rfl rfl (Nat.le_of_ble_eq_true rfl) dX7_isReserved_95 ⟨Nat.zero_le _, Nat.zero_le _⟩) hS (fun v_108 I_102 R_103 J_104 AI_105 AJ_106 AR_107 H locs zv_108 hp_109 hH hS => ?_)
                      dsimp only at hp_109
                      obtain ⟨rfl, rfl, rfl, rfl, rfl, rfl, q_110⟩ := hp_109
                      refine z_if_ne (tgt := 110) F dX7_isReserved_98 (by decide) zv_108 (fun c_111 => ?_) (fun c_111 => ?_)
                      · refine z_iconst F dX7_isReserved_110 ?_
                        exact g_zret F hr hlk hH hS hz (by omega) ⟨rfl, rfl, rfl, rfl, rfl, rfl, by first | omega | rfl | (dsimp only; omega)⟩ dX7_isReserved_111
                      · refine lv_aload_n F.1 F.2.1 dX7_isReserved_101 rfl (lv_at hl 0 rfl) ?_
                        refine va_ldcS F.1 F.2.1 F.2.2.2.1 (F.2.2.2.2.2.2.1 18 _ rfl).1 dX7_isReserved_102 ?_
                        refine g_calli (g_runV (As := [.ref (gSK g 18)]) (rest := []) (ci := 7) F hl.1 hH hS hz (c_X7_isWord l g gh T 18 _ I R J AI AJ AR mo hv hm hT (rfl : sTab[18]? = some _)) (cwV 1 F.2.2.2.2.1 (good_up gT_X7_isWord) rfl rfl rfl hdX7_isWord ⟨Nat.le_of_ble_eq_true rfl, Nat.le_of_ble_eq_true rfl⟩) hm (by decide) rfl rfl rfl (Nat.le_of_ble_eq_true rfl) dX7_isReserved_104 ⟨Nat.zero_le _, Nat.zero_le _⟩) hS (fun v_118 I_112 R_113 J_114 AI_115 AJ_116 AR_117 H locs zv_118 hp_119 hH hS => ?_)
                        dsimp only at hp_119
                        obtain ⟨rfl, rfl, rfl, rfl, rfl, rfl, q_120⟩ := hp_119
                        refine z_if_eq (tgt := 112) F dX7_isReserved_107 (by decide) zv_118 (fun c_121 => ?_) (fun c_121 => ?_)
                        · refine lv_aload_n F.1 F.2.1 dX7_isReserved_112 rfl (lv_at hl 0 rfl) ?_
                          refine va_ldcS F.1 F.2.1 F.2.2.2.1 (F.2.2.2.2.2.2.1 19 _ rfl).1 dX7_isReserved_113 ?_
                          refine g_calli (g_runV (As := [.ref (gSK g 19)]) (rest := []) (ci := 7) F hl.1 hH hS hz (c_X7_isWord l g gh T 19 _ I R J AI AJ AR mo hv hm hT (rfl : sTab[19]? = some _)) (cwV 1 F.2.2.2.2.1 (good_up gT_X7_isWord) rfl rfl rfl hdX7_isWord ⟨Nat.le_of_ble_eq_true rfl, Nat.le_of_ble_eq_true rfl⟩) hm (by decide) rfl rfl rfl (Nat.le_of_ble_eq_true rfl) dX7_isReserved_115 ⟨Nat.zero_le _, Nat.zero_le _⟩) hS (fun v_128 I_122 R_123 J_124 AI_125 AJ_126 AR_127 H locs zv_128 hp_129 hH hS => ?_)
                          dsimp only at hp_129
                          obtain ⟨rfl, rfl, rfl, rfl, rfl, rfl, q_130⟩ := hp_129
                          refine z_if_ne (tgt := 157) F dX7_isReserved_118 (by decide) zv_128 (fun c_131 => ?_) (fun c_131 => ?_)
                          · refine z_iconst F dX7_isReserved_157 ?_
                            exact g_zret F hr hlk hH hS hz (by omega) ⟨rfl, rfl, rfl, rfl, rfl, rfl, by first | omega | rfl | (dsimp only; omega)⟩ dX7_isReserved_158
                          · refine lv_aload_n F.1 F.2.1 dX7_isReserved_121 rfl (lv_at hl 0 rfl) ?_
                            refine va_ldcS F.1 F.2.1 F.2.2.2.1 (F.2.2.2.2.2.2.1 20 _ rfl).1 dX7_isReserved_122 ?_
                            refine g_calli (g_runV (As := [.ref (gSK g 20)]) (rest := []) (ci := 7) F hl.1 hH hS hz (c_X7_isWord l g gh T 20 _ I R J AI AJ AR mo hv hm hT (rfl : sTab[20]? = some _)) (cwV 1 F.2.2.2.2.1 (good_up gT_X7_isWord) rfl rfl rfl hdX7_isWord ⟨Nat.le_of_ble_eq_true rfl, Nat.le_of_ble_eq_true rfl⟩) hm (by decide) rfl rfl rfl (Nat.le_of_ble_eq_true rfl) dX7_isReserved_124 ⟨Nat.zero_le _, Nat.zero_le _⟩) hS (fun v_138 I_132 R_133 J_134 AI_135 AJ_136 AR_137 H locs zv_138 hp_139 hH hS => ?_)
                            dsimp only at hp_139
                            obtain ⟨rfl, rfl, rfl, rfl, rfl, rfl, q_140⟩ := hp_139
                            refine z_if_ne (tgt := 157) F dX7_isReserved_127 (by decide) zv_138 (fun c_141 => ?_) (fun c_141 => ?_)
                            · refine z_iconst F dX7_isReserved_157 ?_
                              exact g_zret F hr hlk hH hS hz (by omega) ⟨rfl, rfl, rfl, rfl, rfl, rfl, by first | omega | rfl | (dsimp only; omega)⟩ dX7_isReserved_158
                            · refine lv_aload_n F.1 F.2.1 dX7_isReserved_130 rfl (lv_at hl 0 rfl) ?_
                              refine va_ldcS F.1 F.2.1 F.2.2.2.1 (F.2.2.2.2.2.2.1 21 _ rfl).1 dX7_isReserved_131 ?_
                              refine g_calli (g_runV (As := [.ref (gSK g 21)]) (rest := []) (ci := 7) F hl.1 hH hS hz (c_X7_isWord l g gh T 21 _ I R J AI AJ AR mo hv hm hT (rfl : sTab[21]? = some _)) (cwV 1 F.2.2.2.2.1 (good_up gT_X7_isWord) rfl rfl rfl hdX7_isWord ⟨Nat.le_of_ble_eq_true rfl, Nat.le_of_ble_eq_true rfl⟩) hm (by decide) rfl rfl rfl (Nat.le_of_ble_eq_true rfl) dX7_isReserved_133 ⟨Nat.zero_le _, Nat.zero_le _⟩) hS (fun v_148 I_142 R_143 J_144 AI_145 AJ_146 AR_147 H locs zv_148 hp_149 hH hS => ?_)
                              dsimp only at hp_149
                              obtain ⟨rfl, rfl, rfl, rfl, rfl, rfl, q_150⟩ := hp_149
                              refine z_if_ne (tgt := 157) F dX7_isReserved_136 (by decide) zv_148 (fun c_151 => ?_) (fun c_151 => ?_)
                              · refine z_iconst F dX7_isReserved_157 ?_
                                exact g_zret F hr hlk hH hS hz (by omega) ⟨rfl, rfl, rfl, rfl, rfl, rfl, by first | omega | rfl | (dsimp only; omega)⟩ dX7_isReserved_158
                              · refine lv_aload_n F.1 F.2.1 dX7_isReserved_139 rfl (lv_at hl 0 rfl) ?_
                                refine va_ldcS F.1 F.2.1 F.2.2.2.1 (F.2.2.2.2.2.2.1 22 _ rfl).1 dX7_isReserved_140 ?_
                                refine g_calli (g_runV (As := [.ref (gSK g 22)]) (rest := []) (ci := 7) F hl.1 hH hS hz (c_X7_isWord l g gh T 22 _ I R J AI AJ AR mo hv hm hT (rfl : sTab[22]? = some _)) (cwV 1 F.2.2.2.2.1 (good_up gT_X7_isWord) rfl rfl rfl hdX7_isWord ⟨Nat.le_of_ble_eq_true rfl, Nat.le_of_ble_eq_true rfl⟩) hm (by decide) rfl rfl rfl (Nat.le_of_ble_eq_true rfl) dX7_isReserved_142 ⟨Nat.zero_le _, Nat.zero_le _⟩) hS (fun v_158 I_152 R_153 J_154 AI_155 AJ_156 AR_157 H locs zv_158 hp_159 hH hS => ?_)
                                dsimp only at hp_159
                                obtain ⟨rfl, rfl, rfl, rfl, rfl, rfl, q_160⟩ := hp_159
                                refine z_if_ne (tgt := 157) F dX7_isReserved_145 (by decide) zv_158 (fun c_161 => ?_) (fun c_161 => ?_)
                                · refine z_iconst F dX7_isReserved_157 ?_
                                  exact g_zret F hr hlk hH hS hz (by omega) ⟨rfl, rfl, rfl, rfl, rfl, rfl, by first | omega | rfl | (dsimp only; omega)⟩ dX7_isReserved_158
                                · refine lv_aload_n F.1 F.2.1 dX7_isReserved_148 rfl (lv_at hl 0 rfl) ?_
                                  refine va_ldcS F.1 F.2.1 F.2.2.2.1 (F.2.2.2.2.2.2.1 23 _ rfl).1 dX7_isReserved_149 ?_
                                  refine g_calli (g_runV (As := [.ref (gSK g 23)]) (rest := []) (ci := 7) F hl.1 hH hS hz (c_X7_isWord l g gh T 23 _ I R J AI AJ AR mo hv hm hT (rfl : sTab[23]? = some _)) (cwV 1 F.2.2.2.2.1 (good_up gT_X7_isWord) rfl rfl rfl hdX7_isWord ⟨Nat.le_of_ble_eq_true rfl, Nat.le_of_ble_eq_true rfl⟩) hm (by decide) rfl rfl rfl (Nat.le_of_ble_eq_true rfl) dX7_isReserved_151 ⟨Nat.zero_le _, Nat.zero_le _⟩) hS (fun v_168 I_162 R_163 J_164 AI_165 AJ_166 AR_167 H locs zv_168 hp_169 hH hS => ?_)
                                  dsimp only at hp_169
                                  obtain ⟨rfl, rfl, rfl, rfl, rfl, rfl, q_170⟩ := hp_169
                                  refine z_if_eq (tgt := 159) F dX7_isReserved_154 (by decide) zv_168 (fun c_171 => ?_) (fun c_171 => ?_)
                                  · refine lv_aload_n F.1 F.2.1 dX7_isReserved_159 rfl (lv_at hl 0 rfl) ?_
                                    refine va_ldcS F.1 F.2.1 F.2.2.2.1 (F.2.2.2.2.2.2.1 24 _ rfl).1 dX7_isReserved_160 ?_
                                    refine g_calli (g_runV (As := [.ref (gSK g 24)]) (rest := []) (ci := 7) F hl.1 hH hS hz (c_X7_isWord l g gh T 24 _ I R J AI AJ AR mo hv hm hT (rfl : sTab[24]? = some _)) (cwV 1 F.2.2.2.2.1 (good_up gT_X7_isWord) rfl rfl rfl hdX7_isWord ⟨Nat.le_of_ble_eq_true rfl, Nat.le_of_ble_eq_true rfl⟩) hm (by decide) rfl rfl rfl (Nat.le_of_ble_eq_true rfl) dX7_isReserved_162 ⟨Nat.zero_le _, Nat.zero_le _⟩) hS (fun v_178 I_172 R_173 J_174 AI_175 AJ_176 AR_177 H locs zv_178 hp_179 hH hS => ?_)
                                    dsimp only at hp_179
                                    obtain ⟨rfl, rfl, rfl, rfl, rfl, rfl, q_180⟩ := hp_179
                                    refine z_if_ne (tgt := 186) F dX7_isReserved_165 (by decide) zv_178 (fun c_181 => ?_) (fun c_181 => ?_)
                                    · refine z_iconst F dX7_isReserved_186 ?_
                                      refine z_goto (tgt := 191) F dX7_isReserved_187 (by decide) ?_
                                      exact g_zret F hr hlk hH hS hz (by omega) ⟨rfl, rfl, rfl, rfl, rfl, rfl, by first | omega | rfl | (dsimp only; omega)⟩ dX7_isReserved_191
                                    · refine lv_aload_n F.1 F.2.1 dX7_isReserved_168 rfl (lv_at hl 0 rfl) ?_
                                      refine va_ldcS F.1 F.2.1 F.2.2.2.1 (F.2.2.2.2.2.2.1 25 _ rfl).1 dX7_isReserved_169 ?_
                                      refine g_calli (g_runV (As := [.ref (gSK g 25)]) (rest := []) (ci := 7) F hl.1 hH hS hz (c_X7_isWord l g gh T 25 _ I R J AI AJ AR mo hv hm hT (rfl : sTab[25]? = some _)) (cwV 1 F.2.2.2.2.1 (good_up gT_X7_isWord) rfl rfl rfl hdX7_isWord ⟨Nat.le_of_ble_eq_true rfl, Nat.le_of_ble_eq_true rfl⟩) hm (by decide) rfl rfl rfl (Nat.le_of_ble_eq_true rfl) dX7_isReserved_171 ⟨Nat.zero_le _, Nat.zero_le _⟩) hS (fun v_188 I_182 R_183 J_184 AI_185 AJ_186 AR_187 H locs zv_188 hp_189 hH hS => ?_)
                                      dsimp only at hp_189
                                      obtain ⟨rfl, rfl, rfl, rfl, rfl, rfl, q_190⟩ := hp_189
                                      refine z_if_ne (tgt := 186) F dX7_isReserved_174 (by decide) zv_188 (fun c_191 => ?_) (fun c_191 => ?_)
                                      · refine z_iconst F dX7_isReserved_186 ?_
                                        refine z_goto (tgt := 191) F dX7_isReserved_187 (by decide) ?_
                                        exact g_zret F hr hlk hH hS hz (by omega) ⟨rfl, rfl, rfl, rfl, rfl, rfl, by first | omega | rfl | (dsimp only; omega)⟩ dX7_isReserved_191
                                      · refine lv_aload_n F.1 F.2.1 dX7_isReserved_177 rfl (lv_at hl 0 rfl) ?_
                                        refine va_ldcS F.1 F.2.1 F.2.2.2.1 (F.2.2.2.2.2.2.1 26 _ rfl).1 dX7_isReserved_178 ?_
                                        refine g_calli (g_runV (As := [.ref (gSK g 26)]) (rest := []) (ci := 7) F hl.1 hH hS hz (c_X7_isWord l g gh T 26 _ I R J AI AJ AR mo hv hm hT (rfl : sTab[26]? = some _)) (cwV 1 F.2.2.2.2.1 (good_up gT_X7_isWord) rfl rfl rfl hdX7_isWord ⟨Nat.le_of_ble_eq_true rfl, Nat.le_of_ble_eq_true rfl⟩) hm (by decide) rfl rfl rfl (Nat.le_of_ble_eq_true rfl) dX7_isReserved_180 ⟨Nat.zero_le _, Nat.zero_le _⟩) hS (fun v_198 I_192 R_193 J_194 AI_195 AJ_196 AR_197 H locs zv_198 hp_199 hH hS => ?_)
                                        dsimp only at hp_199
                                        obtain ⟨rfl, rfl, rfl, rfl, rfl, rfl, q_200⟩ := hp_199
                                        refine z_if_eq (tgt := 190) F dX7_isReserved_183 (by decide) zv_198 (fun c_201 => ?_) (fun c_201 => ?_)
                                        · refine z_iconst F dX7_isReserved_190 ?_
                                          exact g_zret F hr hlk hH hS hz (by omega) ⟨rfl, rfl, rfl, rfl, rfl, rfl, by first | omega | rfl | (dsimp only; omega)⟩ dX7_isReserved_191
                                        · refine z_iconst F dX7_isReserved_186 ?_
                                          refine z_goto (tgt := 191) F dX7_isReserved_187 (by decide) ?_
                                          exact g_zret F hr hlk hH hS hz (by omega) ⟨rfl, rfl, rfl, rfl, rfl, rfl, by first | omega | rfl | (dsimp only; omega)⟩ dX7_isReserved_191
                                  · refine z_iconst F dX7_isReserved_157 ?_
                                    exact g_zret F hr hlk hH hS hz (by omega) ⟨rfl, rfl, rfl, rfl, rfl, rfl, by first | omega | rfl | (dsimp only; omega)⟩ dX7_isReserved_158
                        · refine z_iconst F dX7_isReserved_110 ?_
                          exact g_zret F hr hlk hH hS hz (by omega) ⟨rfl, rfl, rfl, rfl, rfl, rfl, by first | omega | rfl | (dsimp only; omega)⟩ dX7_isReserved_111
            · refine z_iconst F dX7_isReserved_54 ?_
              exact g_zret F hr hlk hH hS hz (by omega) ⟨rfl, rfl, rfl, rfl, rfl, rfl, by first | omega | rfl | (dsimp only; omega)⟩ dX7_isReserved_55

def rmX7_named : Room := { frames := 0, cells := 0, slots := 0, locals := 0 }
theorem hdX7_named : yX7_named.cls = RX7 ∧ yX7_named.cls ≠ "java/lang/invoke/MethodHandle" ∧ yX7_named.cls ≠ "java/lang/invoke/VarHandle" ∧ (parseMethodDescriptor yX7_named.desc).map (fun d => d.parameters.length) = some 1 := by decide +kernel
set_option maxHeartbeats 4000000 in
set_option maxRecDepth 100000 in
/-- named -/
theorem c_X7_named (l : Launch) (g : gG) (gh : gGh) (T : Nat → Int32) (I : gI) (R : gR) (J : gJ) (AI : gI) (AJ : gJ) (AR : gR) (mo : Nat) (lw : Int64) (hv : mInv g gh R I AI) (hm : gO g mo 7) (hT : AI (gh 50 0) = T) : gMet l g yX7_named tsX7_named rmX7_named [.ref mo, .long lw] (I, R, J, AI, AJ, AR) (gQi g (fun (z : Int) (w : gS) => I = w.1 ∧ R = w.2.1 ∧ J = w.2.2.1 ∧ AI = w.2.2.2.1 ∧ AJ = w.2.2.2.2.1 ∧ AR = w.2.2.2.2.2 ∧ (-1 ≤ z ∧ z < (I mo 5).toInt) ∧ ((0 ≤ z → AJ (gh 54 0) z.toNat = lw) ∧ (z < 0 → ∀ j : Int, 0 ≤ j → j < (I mo 5).toInt → AJ (gh 54 0) j.toNat ≠ lw)))) := by
  refine gStart (cc := cX7_named) (maxL := 4) (ret := (some (.int))) (by decide) rfl (Nat.le_of_ble_eq_true rfl) ?_
  intro p e s m below meth c ls F hr hlk hH hz hS hl
  have hl : lv_has ls 4 [(0, .ref mo), (1, .long lw)] := hl
  have hS : va_S (gA g) s.heap s.heap [] := hS
  obtain ⟨H, hHe⟩ : ∃ H : Heap, H = s.heap := ⟨_, rfl⟩
  obtain ⟨locs, hlo⟩ : ∃ k : List Loc, k = [] := ⟨_, rfl⟩
  have hH : gH g I R J AI AJ AR H := by rw [hHe]; exact hH
  have hS : va_S (gA g) s.heap H locs := by rw [hHe, hlo]; exact hS
  suffices hw : W p l e rmX7_named s m ([.ref mo, .long lw] : List Value).toArray below meth c H locs 0 0 (MQ below (gQi g (fun (z : Int) (w : gS) => I = w.1 ∧ R = w.2.1 ∧ J = w.2.2.1 ∧ AI = w.2.2.2.1 ∧ AJ = w.2.2.2.2.1 ∧ AR = w.2.2.2.2.2 ∧ (-1 ≤ z ∧ z < (I mo 5).toInt) ∧ ((0 ≤ z → AJ (gh 54 0) z.toNat = lw) ∧ (z < 0 → ∀ j : Int, 0 ≤ j → j < (I mo 5).toInt → AJ (gh 54 0) j.toNat ≠ lw)))) ([.ref mo, .long lw] : List Value).toArray s 0 0 (gA g)) (F0 m 0 ls []) by
    rw [hHe, hlo] at hw; exact hw
  clear hHe hlo
  have hb0 := mJ hv hm
  unfold mNum1 at hb0
  have iX7 : ∀ w ∈ u_ws RX7 TX7 32, w ∈ tsX7_named := fun w h => List.mem_cons_of_mem _ (inTB7 w h)
  have k184 : Cond.fieldLink RX7 184 (TX7 5).1 (TX7 5).2.1 (TX7 5).2.2.1 ∈ tsX7_named := List.mem_cons_of_mem _ fl_184
  have k20 : Cond.fieldLink RX7 20 (TX7 4).1 (TX7 4).2.1 (TX7 4).2.2.1 ∈ tsX7_named := List.mem_cons_of_mem _ fl_20
  refine z_iconst F dX7_named_0 ?_
  refine lv_istore_n (lv' := [(3, .int (iI 0)), (0, .ref mo), (1, .long lw)]) F.1 F.2.1 dX7_named_1 rfl hl (by decide) rfl (fun ls hl => ?_)
  have cut_2_0 : ∀ (NN : Nat) (k : Int) (H : Heap) (locs : List Loc) (ls : Array Slot), zr k → (0 ≤ k ∧ k ≤ (I mo 5).toInt) → (∀ j : Int, 0 ≤ j → j < k → AJ (gh 54 0) j.toNat ≠ lw) → ((I mo 5).toInt - k) < ((NN : Nat) : Int) → gH g I R J AI AJ AR H → va_S (gA g) s.heap H locs → lv_has ls 4 [(3, .int (iI k)), (0, .ref mo), (1, .long lw)] → W p l e rmX7_named s m ([.ref mo, .long lw] : List Value).toArray below meth c H locs 0 0 (MQ below (gQi g (fun (z : Int) (w : gS) => I = w.1 ∧ R = w.2.1 ∧ J = w.2.2.1 ∧ AI = w.2.2.2.1 ∧ AJ = w.2.2.2.2.1 ∧ AR = w.2.2.2.2.2 ∧ (-1 ≤ z ∧ z < (I mo 5).toInt) ∧ ((0 ≤ z → AJ (gh 54 0) z.toNat = lw) ∧ (z < 0 → ∀ j : Int, 0 ≤ j → j < (I mo 5).toInt → AJ (gh 54 0) j.toNat ≠ lw)))) ([.ref mo, .long lw] : List Value).toArray s 0 0 (gA g)) (F0 m 2 ls []) := by
    intro NN2
    induction NN2 with
    | zero =>
      intro k H locs ls zk hk hno hm2 hH hS hl
      exact absurd hm2 (by omega)
    | succ NN2 ih2 =>
      intro k H locs ls zk hk hno hm2 hH hS hl
      refine lv_iload_n F.1 F.2.1 dX7_named_2 rfl (lv_at hl 0 rfl) ?_
      refine lv_aload_n F.1 F.2.1 dX7_named_3 rfl (lv_at hl 1 rfl) ?_
      refine g_getI (ci := 7) (k := 5) F hH rfl (by decide) iX7 hm (by decide) rfl k184 dX7_named_4 ?_
      have b_2 := mJ hv hm
      unfold mNum1 at b_2
      refine z_icmp_ge (tgt := 29) F dX7_named_7 (by decide) zk (zr_t _) (fun c_3 => ?_) (fun c_3 => ?_)
      · refine z_iconst F dX7_named_29 ?_
        exact g_iret F hr hlk hH hS hz ⟨by decide, by decide⟩ ⟨rfl, rfl, rfl, rfl, rfl, rfl, by first | omega | rfl | (dsimp only; omega), by first | exact ⟨fun _ => hlc.mp (by omega), fun h => absurd h (by omega)⟩ | exact ⟨fun h => absurd h (by decide), fun _ j h1 h2 => hno j h1 (by omega)⟩⟩ dX7_named_30
      · refine lv_aload_n F.1 F.2.1 dX7_named_10 rfl (lv_at hl 1 rfl) ?_
        refine g_getR (ci := 7) (k := 4) F hH rfl (by decide) iX7 hm (by decide) rfl (b := gh 54 0) (hv.1 mo hm).2.2.2.1 k20 dX7_named_11 ?_
        refine lv_iload_n F.1 F.2.1 dX7_named_14 rfl (lv_at hl 0 rfl) ?_
        have hx15 : 0 ≤ k ∧ k < ((16 : Nat) : Int) ∧ k ≤ 2147483647 := ⟨by omega, by omega, by omega⟩
        refine g_lald F hH (hv.1 mo hm).2.2.2.2 hx15.1 hx15.2.1 hx15.2.2 dX7_named_15 ?_
        refine lv_topl (fun j_4 ej_4 => ?_)
        refine lv_lload_n F.1 F.2.1 dX7_named_16 rfl (lv_at hl 2 rfl) ?_
        refine W.lcmp F.1 F.2.1 dX7_named_17 ?_
        refine z_top (fun v_5 zv_5 ev_5 => ?_)
        have lv_5 : v_5 = 0 ↔ j_4 = lw := by rw [ev_5]; exact z_lcmp
        have hlc : v_5 = 0 ↔ AJ (gh 54 0) k.toNat = lw := by rw [← ej_4]; exact lv_5
        refine z_if_ne (tgt := 23) F dX7_named_18 (by decide) zv_5 (fun c_6 => ?_) (fun c_6 => ?_)
        · refine z_iinc (lv' := [(3, .int (iI (k + 1))), (0, .ref mo), (1, .long lw)]) F dX7_named_23 hl (k := 0) rfl (by decide) rfl (fun ls hl => ?_)
          refine z_goto (tgt := 2) F dX7_named_26 (by decide) ?_
          exact ih2 (k + 1) H locs ls ⟨by omega, by omega⟩ (by omega) (by first | exact (fun j h1 h2 => absurd h2 (by omega)) | exact (named_step hno (fun h => absurd (hlc.mpr h) (by omega)))) (by omega) hH hS (lv_sub hl [0, 1, 2] rfl)
        · refine lv_iload_n F.1 F.2.1 dX7_named_21 rfl (lv_at hl 0 rfl) ?_
          exact g_iret F hr hlk hH hS hz zk ⟨rfl, rfl, rfl, rfl, rfl, rfl, by first | omega | rfl | (dsimp only; omega), by first | exact ⟨fun _ => hlc.mp (by omega), fun h => absurd h (by omega)⟩ | exact ⟨fun h => absurd h (by decide), fun _ j h1 h2 => hno j h1 (by omega)⟩⟩ dX7_named_22
  exact cut_2_0 ((((I mo 5).toInt - 0) + 1 : Int).toNat) 0 H locs ls ⟨by decide, by decide⟩ (by omega) (by first | exact (fun j h1 h2 => absurd h2 (by omega)) | exact (named_step hno (fun h => absurd (hlc.mpr h) (by omega)))) (by omega) hH hS (lv_sub hl [0, 1, 2] rfl)

def rmX7_newName : Room := { frames := 7, cells := 0, slots := 0, locals := 149 }
theorem hdX7_newName : yX7_newName.cls = RX7 ∧ yX7_newName.cls ≠ "java/lang/invoke/MethodHandle" ∧ yX7_newName.cls ≠ "java/lang/invoke/VarHandle" ∧ (parseMethodDescriptor yX7_newName.desc).map (fun d => d.parameters.length) = some 0 := by decide +kernel
set_option maxHeartbeats 4000000 in
set_option maxRecDepth 100000 in
/-- a new name -/
theorem c_X7_newName (l : Launch) (g : gG) (gh : gGh) (T : Nat → Int32) (I : gI) (R : gR) (J : gJ) (AI : gI) (AJ : gJ) (AR : gR) (mo : Nat) (hv : mInv g gh R I AI) (hm : gO g mo 7) (hT : AI (gh 50 0) = T) (hE : (I mo 20).toInt ≤ 936) (hM : (I mo 24).toInt = 0 → (I mo 5).toInt ≤ 15) : gMet l g yX7_newName tsX7_newName rmX7_newName [.ref mo] (I, R, J, AI, AJ, AR) (gQv g (fun w : gS => R = w.2.1 ∧ AI = w.2.2.2.1 ∧ AR = w.2.2.2.2.2 ∧ (mInv g gh R (w.1) AI) ∧ (qF mo I (w.1)) ∧ (((w.1) mo 20).toInt ≤ 936 ∧ (I mo 24).toInt ≤ ((w.1) mo 24).toInt))) := by
  refine gStart (cc := cX7_newName) (maxL := 1) (ret := none) (by decide) rfl (Nat.le_of_ble_eq_true rfl) ?_
  intro p e s m below meth c ls F hr hlk hH hz hS hl
  have hl : lv_has ls 1 [(0, .ref mo)] := hl
  have hS : va_S (gA g) s.heap s.heap [] := hS
  obtain ⟨H, hHe⟩ : ∃ H : Heap, H = s.heap := ⟨_, rfl⟩
  obtain ⟨locs, hlo⟩ : ∃ k : List Loc, k = [] := ⟨_, rfl⟩
  have hH : gH g I R J AI AJ AR H := by rw [hHe]; exact hH
  have hS : va_S (gA g) s.heap H locs := by rw [hHe, hlo]; exact hS
  suffices hw : W p l e rmX7_newName s m ([.ref mo] : List Value).toArray below meth c H locs 0 0 (MQ below (gQv g (fun w : gS => R = w.2.1 ∧ AI = w.2.2.2.1 ∧ AR = w.2.2.2.2.2 ∧ (mInv g gh R (w.1) AI) ∧ (qF mo I (w.1)) ∧ (((w.1) mo 20).toInt ≤ 936 ∧ (I mo 24).toInt ≤ ((w.1) mo 24).toInt))) ([.ref mo] : List Value).toArray s 0 0 (gA g)) (F0 m 0 ls []) by
    rw [hHe, hlo] at hw; exact hw
  clear hHe hlo
  have pf : qF mo I I := qF_r
  have hb0 := mJ hv hm
  unfold mNum1 at hb0
  have iX7 : ∀ w ∈ u_ws RX7 TX7 32, w ∈ tsX7_newName := fun w h => List.mem_cons_of_mem _ (inTB7 w h)
  have k81 : Cond.fieldLink RX7 81 (TX7 24).1 (TX7 24).2.1 (TX7 24).2.2.1 ∈ tsX7_newName := List.mem_cons_of_mem _ fl_81
  have k94 : Cond.fieldLink RX7 94 (TX7 21).1 (TX7 21).2.1 (TX7 21).2.2.1 ∈ tsX7_newName := List.mem_cons_of_mem _ fl_94
  have k111 : Cond.fieldLink RX7 111 (TX7 22).1 (TX7 22).2.1 (TX7 22).2.2.1 ∈ tsX7_newName := List.mem_cons_of_mem _ fl_111
  have k20 : Cond.fieldLink RX7 20 (TX7 4).1 (TX7 4).2.1 (TX7 4).2.2.1 ∈ tsX7_newName := List.mem_cons_of_mem _ fl_20
  have k184 : Cond.fieldLink RX7 184 (TX7 5).1 (TX7 5).2.1 (TX7 5).2.2.1 ∈ tsX7_newName := List.mem_cons_of_mem _ fl_184
  have cut_27_1 : ∀ (I_1 : gI) (H : Heap) (locs : List Loc) (ls : Array Slot), (mInv g gh R I_1 AI) → (qF mo I I_1) → ((I_1 mo 20).toInt ≤ 936 ∧ (I mo 24).toInt ≤ (I_1 mo 24).toInt) → gH g I_1 R J AI AJ AR H → va_S (gA g) s.heap H locs → lv_has ls 1 [(0, .ref mo)] → W p l e rmX7_newName s m ([.ref mo] : List Value).toArray below meth c H locs 0 0 (MQ below (gQv g (fun w : gS => R = w.2.1 ∧ AI = w.2.2.2.1 ∧ AR = w.2.2.2.2.2 ∧ (mInv g gh R (w.1) AI) ∧ (qF mo I (w.1)) ∧ (((w.1) mo 20).toInt ≤ 936 ∧ (I mo 24).toInt ≤ ((w.1) mo 24).toInt))) ([.ref mo] : List Value).toArray s 0 0 (gA g)) (F0 m 27 ls []) := by
    intro I_1 H locs ls hv pf hj0 hH hS hl
    have uc_2 : (I_1 mo 2).toInt = (I mo 2).toInt := by rw [pf 2 (by decide) (by decide) (by decide) (by decide) (by decide)]
    have uc_5 : (I_1 mo 5).toInt = (I mo 5).toInt := by rw [pf 5 (by decide) (by decide) (by decide) (by decide) (by decide)]
    have uc_14 : (I_1 mo 14).toInt = (I mo 14).toInt := by rw [pf 14 (by decide) (by decide) (by decide) (by decide) (by decide)]
    have uc_16 : (I_1 mo 16).toInt = (I mo 16).toInt := by rw [pf 16 (by decide) (by decide) (by decide) (by decide) (by decide)]
    have uc_18 : (I_1 mo 18).toInt = (I mo 18).toInt := by rw [pf 18 (by decide) (by decide) (by decide) (by decide) (by decide)]
    have cut_50_3 : ∀ (I_3 : gI) (H : Heap) (locs : List Loc) (ls : Array Slot), (mInv g gh R I_3 AI) → (qF mo I I_3) → ((I_3 mo 20).toInt ≤ 936 ∧ (I mo 24).toInt ≤ (I_3 mo 24).toInt) → gH g I_3 R J AI AJ AR H → va_S (gA g) s.heap H locs → lv_has ls 1 [(0, .ref mo)] → W p l e rmX7_newName s m ([.ref mo] : List Value).toArray below meth c H locs 0 0 (MQ below (gQv g (fun w : gS => R = w.2.1 ∧ AI = w.2.2.2.1 ∧ AR = w.2.2.2.2.2 ∧ (mInv g gh R (w.1) AI) ∧ (qF mo I (w.1)) ∧ (((w.1) mo 20).toInt ≤ 936 ∧ (I mo 24).toInt ≤ ((w.1) mo 24).toInt))) ([.ref mo] : List Value).toArray s 0 0 (gA g)) (F0 m 50 ls []) := by
      intro I_3 H locs ls hv pf hj27 hH hS hl
      have uc_2 : (I_3 mo 2).toInt = (I mo 2).toInt := by rw [pf 2 (by decide) (by decide) (by decide) (by decide) (by decide)]
      have uc_5 : (I_3 mo 5).toInt = (I mo 5).toInt := by rw [pf 5 (by decide) (by decide) (by decide) (by decide) (by decide)]
      have uc_14 : (I_3 mo 14).toInt = (I mo 14).toInt := by rw [pf 14 (by decide) (by decide) (by decide) (by decide) (by decide)]
      have uc_16 : (I_3 mo 16).toInt = (I mo 16).toInt := by rw [pf 16 (by decide) (by decide) (by decide) (by decide) (by decide)]
      have uc_18 : (I_3 mo 18).toInt = (I mo 18).toInt := by rw [pf 18 (by decide) (by decide) (by decide) (by decide) (by decide)]
      refine lv_aload_n F.1 F.2.1 dX7_newName_50 rfl (lv_at hl 0 rfl) ?_
      refine g_getI (ci := 7) (k := 24) F hH rfl (by decide) iX7 hm (by decide) rfl k81 dX7_newName_51 ?_
      have b_5 := mJ hv hm
      unfold mNum1 at b_5
      refine z_if_ne (tgt := 70) F dX7_newName_54 (by decide) (zr_t _) (fun c_6 => ?_) (fun c_6 => ?_)
      · refine lv_aload_n F.1 F.2.1 dX7_newName_70 rfl (lv_at hl 0 rfl) ?_
        refine g_callv (g_runV (As := []) (rest := []) (ci := 7) F hl.1 hH hS hz (c_X7_next l g gh T I_3 R J AI AJ AR mo hv hm hT (by omega)) (cwV 0 F.2.2.2.2.1 (good_up gT_X7_next) rfl rfl rfl hdX7_next ⟨Nat.le_of_ble_eq_true rfl, Nat.le_of_ble_eq_true rfl⟩) hm (by decide) rfl rfl rfl (Nat.le_of_ble_eq_true rfl) dX7_newName_71 ⟨Nat.zero_le _, Nat.zero_le _⟩) hS (fun I_7 R_8 J_9 AI_10 AJ_11 AR_12 H locs hp_13 hH hS => ?_)
        dsimp only at hp_13
        obtain ⟨rfl, rfl, rfl, rfl, hv, pfq, q_14, q_15⟩ := hp_13
        have pf := qF_t pf pfq
        have u_16_2 : (I_7 mo 2).toInt = (I mo 2).toInt := by rw [pf 2 (by decide) (by decide) (by decide) (by decide) (by decide)]
        have u_16_5 : (I_7 mo 5).toInt = (I mo 5).toInt := by rw [pf 5 (by decide) (by decide) (by decide) (by decide) (by decide)]
        have u_16_14 : (I_7 mo 14).toInt = (I mo 14).toInt := by rw [pf 14 (by decide) (by decide) (by decide) (by decide) (by decide)]
        have u_16_16 : (I_7 mo 16).toInt = (I mo 16).toInt := by rw [pf 16 (by decide) (by decide) (by decide) (by decide) (by decide)]
        have u_16_18 : (I_7 mo 18).toInt = (I mo 18).toInt := by rw [pf 18 (by decide) (by decide) (by decide) (by decide) (by decide)]
        exact g_vret F hr hlk hH hS hz ⟨rfl, rfl, rfl, hv, pf, by first | omega | rfl | (dsimp only; omega)⟩ dX7_newName_74
      · refine lv_aload_n F.1 F.2.1 dX7_newName_57 rfl (lv_at hl 0 rfl) ?_
        refine g_getR (ci := 7) (k := 4) F hH rfl (by decide) iX7 hm (by decide) rfl (b := gh 54 0) (hv.1 mo hm).2.2.2.1 k20 dX7_newName_58 ?_
        refine lv_aload_n F.1 F.2.1 dX7_newName_61 rfl (lv_at hl 0 rfl) ?_
        refine g_getI (ci := 7) (k := 5) F hH rfl (by decide) iX7 hm (by decide) rfl k184 dX7_newName_62 ?_
        refine lv_aload_n F.1 F.2.1 dX7_newName_65 rfl (lv_at hl 0 rfl) ?_
        refine g_getJ (ci := 7) (k := 22) F hH rfl (by decide) iX7 hm (by decide) rfl k111 dX7_newName_66 ?_
        refine lv_topl (fun j_17 ej_17 => ?_)
        have hx69 : 0 ≤ ((I_3 mo 5).toInt) ∧ ((I_3 mo 5).toInt) < ((16 : Nat) : Int) ∧ ((I_3 mo 5).toInt) ≤ 2147483647 := ⟨by omega, by omega, by omega⟩
        refine g_last F hH hS (hv.1 mo hm).2.2.2.2 hx69.1 hx69.2.1 hx69.2.2 dX7_newName_69 (fun H locs hH hS => ?_)
        obtain ⟨AJ_18, eAJ_18⟩ : ∃ qQ, qQ = gup2 AJ (gh 54 0) (((I_3 mo 5).toInt)).toNat (j_17) := ⟨_, rfl⟩
        rw [← eAJ_18] at hH
        have kAJ_18 : ∀ b, b ≠ (gh 54 0) → AJ_18 b = AJ b := fun b hb => by rw [eAJ_18]; exact funext fun j => gup2_a _ _ hb
        refine lv_aload_n F.1 F.2.1 dX7_newName_70 rfl (lv_at hl 0 rfl) ?_
        refine g_callv (g_runV (As := []) (rest := []) (ci := 7) F hl.1 hH hS hz (c_X7_next l g gh T I_3 R J AI AJ_18 AR mo hv hm hT (by omega)) (cwV 0 F.2.2.2.2.1 (good_up gT_X7_next) rfl rfl rfl hdX7_next ⟨Nat.le_of_ble_eq_true rfl, Nat.le_of_ble_eq_true rfl⟩) hm (by decide) rfl rfl rfl (Nat.le_of_ble_eq_true rfl) dX7_newName_71 ⟨Nat.zero_le _, Nat.zero_le _⟩) hS (fun I_19 R_20 J_21 AI_22 AJ_23 AR_24 H locs hp_25 hH hS => ?_)
        dsimp only at hp_25
        obtain ⟨rfl, rfl, rfl, rfl, hv, pfq, q_26, q_27⟩ := hp_25
        have pf := qF_t pf pfq
        have u_28_2 : (I_19 mo 2).toInt = (I mo 2).toInt := by rw [pf 2 (by decide) (by decide) (by decide) (by decide) (by decide)]
        have u_28_5 : (I_19 mo 5).toInt = (I mo 5).toInt := by rw [pf 5 (by decide) (by decide) (by decide) (by decide) (by decide)]
        have u_28_14 : (I_19 mo 14).toInt = (I mo 14).toInt := by rw [pf 14 (by decide) (by decide) (by decide) (by decide) (by decide)]
        have u_28_16 : (I_19 mo 16).toInt = (I mo 16).toInt := by rw [pf 16 (by decide) (by decide) (by decide) (by decide) (by decide)]
        have u_28_18 : (I_19 mo 18).toInt = (I mo 18).toInt := by rw [pf 18 (by decide) (by decide) (by decide) (by decide) (by decide)]
        exact g_vret F hr hlk hH hS hz ⟨rfl, rfl, rfl, hv, pf, by first | omega | rfl | (dsimp only; omega)⟩ dX7_newName_74
    refine lv_aload_n F.1 F.2.1 dX7_newName_27 rfl (lv_at hl 0 rfl) ?_
    refine g_getI (ci := 7) (k := 24) F hH rfl (by decide) iX7 hm (by decide) rfl k81 dX7_newName_28 ?_
    have b_29 := mJ hv hm
    unfold mNum1 at b_29
    refine z_if_ne (tgt := 50) F dX7_newName_31 (by decide) (zr_t _) (fun c_30 => ?_) (fun c_30 => ?_)
    · exact cut_50_3 I_1 H locs ls hv pf (by omega) hH hS (lv_sub hl [0] rfl)
    · refine lv_aload_n F.1 F.2.1 dX7_newName_34 rfl (lv_at hl 0 rfl) ?_
      refine lv_aload_n F.1 F.2.1 dX7_newName_35 rfl (lv_at hl 0 rfl) ?_
      refine g_getJ (ci := 7) (k := 22) F hH rfl (by decide) iX7 hm (by decide) rfl k111 dX7_newName_36 ?_
      refine lv_topl (fun j_31 ej_31 => ?_)
      refine g_calli (g_runV (As := [.long j_31]) (rest := []) (ci := 7) F hl.1 hH hS hz (c_X7_named l g gh T I_1 R J AI AJ AR mo j_31 hv hm hT) (cwV 1 F.2.2.2.2.1 (good_up gT_X7_named) rfl rfl rfl hdX7_named ⟨Nat.le_of_ble_eq_true rfl, Nat.le_of_ble_eq_true rfl⟩) hm (by decide) rfl rfl rfl (Nat.le_of_ble_eq_true rfl) dX7_newName_39 ⟨Nat.zero_le _, Nat.zero_le _⟩) hS (fun v_38 I_32 R_33 J_34 AI_35 AJ_36 AR_37 H locs zv_38 hp_39 hH hS => ?_)
      dsimp only at hp_39
      obtain ⟨rfl, rfl, rfl, rfl, rfl, rfl, q_40, hnm⟩ := hp_39
      refine z_if_lt (tgt := 50) F dX7_newName_42 (by decide) zv_38 (fun c_41 => ?_) (fun c_41 => ?_)
      · exact cut_50_3 I_1 H locs ls hv pf (by omega) hH hS (lv_sub hl [0] rfl)
      · refine lv_aload_n F.1 F.2.1 dX7_newName_45 rfl (lv_at hl 0 rfl) ?_
        refine z_iconst F dX7_newName_46 ?_
        refine g_callv (g_runV (As := [.int (iI 3)]) (rest := []) (ci := 7) F hl.1 hH hS hz (c_X7_wrong l g gh T I_1 R J AI AJ AR mo 3 ⟨by decide, by decide⟩ hv hm hT (by omega)) (cwV 1 F.2.2.2.2.1 (good_up gT_X7_wrong) rfl rfl rfl hdX7_wrong ⟨Nat.le_of_ble_eq_true rfl, Nat.le_of_ble_eq_true rfl⟩) hm (by decide) rfl rfl rfl (Nat.le_of_ble_eq_true rfl) dX7_newName_47 ⟨Nat.zero_le _, Nat.zero_le _⟩) hS (fun I_42 R_43 J_44 AI_45 AJ_46 AR_47 H locs hp_48 hH hS => ?_)
        dsimp only at hp_48
        obtain ⟨rfl, rfl, rfl, rfl, rfl, hv, pfq, q_49⟩ := hp_48
        have pf := qF_t pf pfq
        have u_50_2 : (I_42 mo 2).toInt = (I mo 2).toInt := by rw [pf 2 (by decide) (by decide) (by decide) (by decide) (by decide)]
        have u_50_5 : (I_42 mo 5).toInt = (I mo 5).toInt := by rw [pf 5 (by decide) (by decide) (by decide) (by decide) (by decide)]
        have u_50_14 : (I_42 mo 14).toInt = (I mo 14).toInt := by rw [pf 14 (by decide) (by decide) (by decide) (by decide) (by decide)]
        have u_50_16 : (I_42 mo 16).toInt = (I mo 16).toInt := by rw [pf 16 (by decide) (by decide) (by decide) (by decide) (by decide)]
        have u_50_18 : (I_42 mo 18).toInt = (I mo 18).toInt := by rw [pf 18 (by decide) (by decide) (by decide) (by decide) (by decide)]
        exact cut_50_3 I_42 H locs ls hv pf (by omega) hH hS (lv_sub hl [0] rfl)
  refine lv_aload_n F.1 F.2.1 dX7_newName_0 rfl (lv_at hl 0 rfl) ?_
  refine g_getI (ci := 7) (k := 24) F hH rfl (by decide) iX7 hm (by decide) rfl k81 dX7_newName_1 ?_
  have b_51 := mJ hv hm
  unfold mNum1 at b_51
  refine z_if_ne (tgt := 27) F dX7_newName_4 (by decide) (zr_t _) (fun c_52 => ?_) (fun c_52 => ?_)
  · exact cut_27_1 I H locs ls hv pf (by omega) hH hS (lv_sub hl [0] rfl)
  · refine lv_aload_n F.1 F.2.1 dX7_newName_7 rfl (lv_at hl 0 rfl) ?_
    refine g_getI (ci := 7) (k := 21) F hH rfl (by decide) iX7 hm (by decide) rfl k94 dX7_newName_8 ?_
    refine z_iconst F dX7_newName_11 ?_
    refine z_icmp_ne (tgt := 22) F dX7_newName_12 (by decide) (zr_t _) ⟨by decide, by decide⟩ (fun c_53 => ?_) (fun c_53 => ?_)
    · refine lv_aload_n F.1 F.2.1 dX7_newName_22 rfl (lv_at hl 0 rfl) ?_
      refine z_iconst F dX7_newName_23 ?_
      refine g_callv (g_runV (As := [.int (iI 1)]) (rest := []) (ci := 7) F hl.1 hH hS hz (c_X7_wrong l g gh T I R J AI AJ AR mo 1 ⟨by decide, by decide⟩ hv hm hT (by omega)) (cwV 1 F.2.2.2.2.1 (good_up gT_X7_wrong) rfl rfl rfl hdX7_wrong ⟨Nat.le_of_ble_eq_true rfl, Nat.le_of_ble_eq_true rfl⟩) hm (by decide) rfl rfl rfl (Nat.le_of_ble_eq_true rfl) dX7_newName_24 ⟨Nat.zero_le _, Nat.zero_le _⟩) hS (fun I_54 R_55 J_56 AI_57 AJ_58 AR_59 H locs hp_60 hH hS => ?_)
      dsimp only at hp_60
      obtain ⟨rfl, rfl, rfl, rfl, rfl, hv, pfq, q_61⟩ := hp_60
      have pf := qF_t pf pfq
      have u_62_2 : (I_54 mo 2).toInt = (I mo 2).toInt := by rw [pf 2 (by decide) (by decide) (by decide) (by decide) (by decide)]
      have u_62_5 : (I_54 mo 5).toInt = (I mo 5).toInt := by rw [pf 5 (by decide) (by decide) (by decide) (by decide) (by decide)]
      have u_62_14 : (I_54 mo 14).toInt = (I mo 14).toInt := by rw [pf 14 (by decide) (by decide) (by decide) (by decide) (by decide)]
      have u_62_16 : (I_54 mo 16).toInt = (I mo 16).toInt := by rw [pf 16 (by decide) (by decide) (by decide) (by decide) (by decide)]
      have u_62_18 : (I_54 mo 18).toInt = (I mo 18).toInt := by rw [pf 18 (by decide) (by decide) (by decide) (by decide) (by decide)]
      exact cut_27_1 I_54 H locs ls hv pf (by omega) hH hS (lv_sub hl [0] rfl)
    · refine lv_aload_n F.1 F.2.1 dX7_newName_15 rfl (lv_at hl 0 rfl) ?_
      refine g_calli (g_runV (As := []) (rest := []) (ci := 7) F hl.1 hH hS hz (c_X7_isReserved l g gh T I R J AI AJ AR mo hv hm hT) (cwV 0 F.2.2.2.2.1 (good_up gT_X7_isReserved) rfl rfl rfl hdX7_isReserved ⟨Nat.le_of_ble_eq_true rfl, Nat.le_of_ble_eq_true rfl⟩) hm (by decide) rfl rfl rfl (Nat.le_of_ble_eq_true rfl) dX7_newName_16 ⟨Nat.zero_le _, Nat.zero_le _⟩) hS (fun v_69 I_63 R_64 J_65 AI_66 AJ_67 AR_68 H locs zv_69 hp_70 hH hS => ?_)
      dsimp only at hp_70
      obtain ⟨rfl, rfl, rfl, rfl, rfl, rfl, q_71⟩ := hp_70
      refine z_if_eq (tgt := 27) F dX7_newName_19 (by decide) zv_69 (fun c_72 => ?_) (fun c_72 => ?_)
      · exact cut_27_1 I H locs ls hv pf (by omega) hH hS (lv_sub hl [0] rfl)
      · refine lv_aload_n F.1 F.2.1 dX7_newName_22 rfl (lv_at hl 0 rfl) ?_
        refine z_iconst F dX7_newName_23 ?_
        refine g_callv (g_runV (As := [.int (iI 1)]) (rest := []) (ci := 7) F hl.1 hH hS hz (c_X7_wrong l g gh T I R J AI AJ AR mo 1 ⟨by decide, by decide⟩ hv hm hT (by omega)) (cwV 1 F.2.2.2.2.1 (good_up gT_X7_wrong) rfl rfl rfl hdX7_wrong ⟨Nat.le_of_ble_eq_true rfl, Nat.le_of_ble_eq_true rfl⟩) hm (by decide) rfl rfl rfl (Nat.le_of_ble_eq_true rfl) dX7_newName_24 ⟨Nat.zero_le _, Nat.zero_le _⟩) hS (fun I_73 R_74 J_75 AI_76 AJ_77 AR_78 H locs hp_79 hH hS => ?_)
        dsimp only at hp_79
        obtain ⟨rfl, rfl, rfl, rfl, rfl, hv, pfq, q_80⟩ := hp_79
        have pf := qF_t pf pfq
        have u_81_2 : (I_73 mo 2).toInt = (I mo 2).toInt := by rw [pf 2 (by decide) (by decide) (by decide) (by decide) (by decide)]
        have u_81_5 : (I_73 mo 5).toInt = (I mo 5).toInt := by rw [pf 5 (by decide) (by decide) (by decide) (by decide) (by decide)]
        have u_81_14 : (I_73 mo 14).toInt = (I mo 14).toInt := by rw [pf 14 (by decide) (by decide) (by decide) (by decide) (by decide)]
        have u_81_16 : (I_73 mo 16).toInt = (I mo 16).toInt := by rw [pf 16 (by decide) (by decide) (by decide) (by decide) (by decide)]
        have u_81_18 : (I_73 mo 18).toInt = (I mo 18).toInt := by rw [pf 18 (by decide) (by decide) (by decide) (by decide) (by decide)]
        exact cut_27_1 I_73 H locs ls hv pf (by omega) hH hS (lv_sub hl [0] rfl)

def rmX7_relation : Room := { frames := 7, cells := 0, slots := 0, locals := 149 }
theorem hdX7_relation : yX7_relation.cls = RX7 ∧ yX7_relation.cls ≠ "java/lang/invoke/MethodHandle" ∧ yX7_relation.cls ≠ "java/lang/invoke/VarHandle" ∧ (parseMethodDescriptor yX7_relation.desc).map (fun d => d.parameters.length) = some 0 := by decide +kernel
set_option maxHeartbeats 4000000 in
set_option maxRecDepth 100000 in
/-- a relation -/
theorem c_X7_relation (l : Launch) (g : gG) (gh : gGh) (T : Nat → Int32) (I : gI) (R : gR) (J : gJ) (AI : gI) (AJ : gJ) (AR : gR) (mo : Nat) (hv : mInv g gh R I AI) (hm : gO g mo 7) (hT : AI (gh 50 0) = T) (hE : (I mo 20).toInt ≤ 936) : gMet l g yX7_relation tsX7_relation rmX7_relation [.ref mo] (I, R, J, AI, AJ, AR) (gQi g (fun (z : Int) (w : gS) => R = w.2.1 ∧ AI = w.2.2.2.1 ∧ AJ = w.2.2.2.2.1 ∧ AR = w.2.2.2.2.2 ∧ (mInv g gh R (w.1) AI) ∧ (qF mo I (w.1)) ∧ (((w.1) mo 20).toInt ≤ 936 ∧ (I mo 24).toInt ≤ ((w.1) mo 24).toInt) ∧ (0 ≤ z ∧ z ≤ 15 ∧ (((w.1) mo 24).toInt = 0 → z < (I mo 5).toInt)))) := by
  refine gStart (cc := cX7_relation) (maxL := 2) (ret := (some (.int))) (by decide) rfl (Nat.le_of_ble_eq_true rfl) ?_
  intro p e s m below meth c ls F hr hlk hH hz hS hl
  have hl : lv_has ls 2 [(0, .ref mo)] := hl
  have hS : va_S (gA g) s.heap s.heap [] := hS
  obtain ⟨H, hHe⟩ : ∃ H : Heap, H = s.heap := ⟨_, rfl⟩
  obtain ⟨locs, hlo⟩ : ∃ k : List Loc, k = [] := ⟨_, rfl⟩
  have hH : gH g I R J AI AJ AR H := by rw [hHe]; exact hH
  have hS : va_S (gA g) s.heap H locs := by rw [hHe, hlo]; exact hS
  suffices hw : W p l e rmX7_relation s m ([.ref mo] : List Value).toArray below meth c H locs 0 0 (MQ below (gQi g (fun (z : Int) (w : gS) => R = w.2.1 ∧ AI = w.2.2.2.1 ∧ AJ = w.2.2.2.2.1 ∧ AR = w.2.2.2.2.2 ∧ (mInv g gh R (w.1) AI) ∧ (qF mo I (w.1)) ∧ (((w.1) mo 20).toInt ≤ 936 ∧ (I mo 24).toInt ≤ ((w.1) mo 24).toInt) ∧ (0 ≤ z ∧ z ≤ 15 ∧ (((w.1) mo 24).toInt = 0 → z < (I mo 5).toInt)))) ([.ref mo] : List Value).toArray s 0 0 (gA g)) (F0 m 0 ls []) by
    rw [hHe, hlo] at hw; exact hw
  clear hHe hlo
  have pf : qF mo I I := qF_r
  have hb0 := mJ hv hm
  unfold mNum1 at hb0
  have iX7 : ∀ w ∈ u_ws RX7 TX7 32, w ∈ tsX7_relation := fun w h => List.mem_cons_of_mem _ (inTB7 w h)
  have k81 : Cond.fieldLink RX7 81 (TX7 24).1 (TX7 24).2.1 (TX7 24).2.2.1 ∈ tsX7_relation := List.mem_cons_of_mem _ fl_81
  have k94 : Cond.fieldLink RX7 94 (TX7 21).1 (TX7 21).2.1 (TX7 21).2.2.1 ∈ tsX7_relation := List.mem_cons_of_mem _ fl_94
  have k111 : Cond.fieldLink RX7 111 (TX7 22).1 (TX7 22).2.1 (TX7 22).2.2.1 ∈ tsX7_relation := List.mem_cons_of_mem _ fl_111
  have cut_27_1 : ∀ (I_1 : gI) (H : Heap) (locs : List Loc) (ls : Array Slot), (mInv g gh R I_1 AI) → (qF mo I I_1) → ((I_1 mo 20).toInt ≤ 936 ∧ (I mo 24).toInt ≤ (I_1 mo 24).toInt) → gH g I_1 R J AI AJ AR H → va_S (gA g) s.heap H locs → lv_has ls 2 [(0, .ref mo)] → W p l e rmX7_relation s m ([.ref mo] : List Value).toArray below meth c H locs 0 0 (MQ below (gQi g (fun (z : Int) (w : gS) => R = w.2.1 ∧ AI = w.2.2.2.1 ∧ AJ = w.2.2.2.2.1 ∧ AR = w.2.2.2.2.2 ∧ (mInv g gh R (w.1) AI) ∧ (qF mo I (w.1)) ∧ (((w.1) mo 20).toInt ≤ 936 ∧ (I mo 24).toInt ≤ ((w.1) mo 24).toInt) ∧ (0 ≤ z ∧ z ≤ 15 ∧ (((w.1) mo 24).toInt = 0 → z < (I mo 5).toInt)))) ([.ref mo] : List Value).toArray s 0 0 (gA g)) (F0 m 27 ls []) := by
    intro I_1 H locs ls hv pf hj0 hH hS hl
    have uc_2 : (I_1 mo 2).toInt = (I mo 2).toInt := by rw [pf 2 (by decide) (by decide) (by decide) (by decide) (by decide)]
    have uc_5 : (I_1 mo 5).toInt = (I mo 5).toInt := by rw [pf 5 (by decide) (by decide) (by decide) (by decide) (by decide)]
    have uc_14 : (I_1 mo 14).toInt = (I mo 14).toInt := by rw [pf 14 (by decide) (by decide) (by decide) (by decide) (by decide)]
    have uc_16 : (I_1 mo 16).toInt = (I mo 16).toInt := by rw [pf 16 (by decide) (by decide) (by decide) (by decide) (by decide)]
    have uc_18 : (I_1 mo 18).toInt = (I mo 18).toInt := by rw [pf 18 (by decide) (by decide) (by decide) (by decide) (by decide)]
    have cut_46_2 : ∀ (rl : Int) (H : Heap) (locs : List Loc) (ls : Array Slot), zr rl → (-1 ≤ rl ∧ rl < (I mo 5).toInt) → gH g I_1 R J AI AJ AR H → va_S (gA g) s.heap H locs → lv_has ls 2 [(0, .ref mo)] → W p l e rmX7_relation s m ([.ref mo] : List Value).toArray below meth c H locs 0 0 (MQ below (gQi g (fun (z : Int) (w : gS) => R = w.2.1 ∧ AI = w.2.2.2.1 ∧ AJ = w.2.2.2.2.1 ∧ AR = w.2.2.2.2.2 ∧ (mInv g gh R (w.1) AI) ∧ (qF mo I (w.1)) ∧ (((w.1) mo 20).toInt ≤ 936 ∧ (I mo 24).toInt ≤ ((w.1) mo 24).toInt) ∧ (0 ≤ z ∧ z ≤ 15 ∧ (((w.1) mo 24).toInt = 0 → z < (I mo 5).toInt)))) ([.ref mo] : List Value).toArray s 0 0 (gA g)) (F0 m 46 ls [.int (iI rl)]) := by
      intro rl H locs ls zrl hrl hH hS hl
      refine lv_istore_n (lv' := [(1, .int (iI rl)), (0, .ref mo)]) F.1 F.2.1 dX7_relation_46 rfl hl (by decide) rfl (fun ls hl => ?_)
      have cut_56_4 : ∀ (I_4 : gI) (H : Heap) (locs : List Loc) (ls : Array Slot), (mInv g gh R I_4 AI) → (qF mo I I_4) → ((I_4 mo 20).toInt ≤ 936 ∧ (I mo 24).toInt ≤ (I_4 mo 24).toInt ∧ ((I_4 mo 24).toInt = 0 → 0 ≤ rl)) → gH g I_4 R J AI AJ AR H → va_S (gA g) s.heap H locs → lv_has ls 2 [(1, .int (iI rl)), (0, .ref mo)] → W p l e rmX7_relation s m ([.ref mo] : List Value).toArray below meth c H locs 0 0 (MQ below (gQi g (fun (z : Int) (w : gS) => R = w.2.1 ∧ AI = w.2.2.2.1 ∧ AJ = w.2.2.2.2.1 ∧ AR = w.2.2.2.2.2 ∧ (mInv g gh R (w.1) AI) ∧ (qF mo I (w.1)) ∧ (((w.1) mo 20).toInt ≤ 936 ∧ (I mo 24).toInt ≤ ((w.1) mo 24).toInt) ∧ (0 ≤ z ∧ z ≤ 15 ∧ (((w.1) mo 24).toInt = 0 → z < (I mo 5).toInt)))) ([.ref mo] : List Value).toArray s 0 0 (gA g)) (F0 m 56 ls []) := by
        intro I_4 H locs ls hv pf hj47 hH hS hl
        have uc_2 : (I_4 mo 2).toInt = (I mo 2).toInt := by rw [pf 2 (by decide) (by decide) (by decide) (by decide) (by decide)]
        have uc_5 : (I_4 mo 5).toInt = (I mo 5).toInt := by rw [pf 5 (by decide) (by decide) (by decide) (by decide) (by decide)]
        have uc_14 : (I_4 mo 14).toInt = (I mo 14).toInt := by rw [pf 14 (by decide) (by decide) (by decide) (by decide) (by decide)]
        have uc_16 : (I_4 mo 16).toInt = (I mo 16).toInt := by rw [pf 16 (by decide) (by decide) (by decide) (by decide) (by decide)]
        have uc_18 : (I_4 mo 18).toInt = (I mo 18).toInt := by rw [pf 18 (by decide) (by decide) (by decide) (by decide) (by decide)]
        refine lv_aload_n F.1 F.2.1 dX7_relation_56 rfl (lv_at hl 1 rfl) ?_
        have b_6 := mJ hv hm
        unfold mNum1 at b_6
        refine g_callv (g_runV (As := []) (rest := []) (ci := 7) F hl.1 hH hS hz (c_X7_next l g gh T I_4 R J AI AJ AR mo hv hm hT (by omega)) (cwV 0 F.2.2.2.2.1 (good_up gT_X7_next) rfl rfl rfl hdX7_next ⟨Nat.le_of_ble_eq_true rfl, Nat.le_of_ble_eq_true rfl⟩) hm (by decide) rfl rfl rfl (Nat.le_of_ble_eq_true rfl) dX7_relation_57 ⟨Nat.zero_le _, Nat.zero_le _⟩) hS (fun I_7 R_8 J_9 AI_10 AJ_11 AR_12 H locs hp_13 hH hS => ?_)
        dsimp only at hp_13
        obtain ⟨rfl, rfl, rfl, rfl, hv, pfq, q_14, q_15⟩ := hp_13
        have pf := qF_t pf pfq
        have u_16_2 : (I_7 mo 2).toInt = (I mo 2).toInt := by rw [pf 2 (by decide) (by decide) (by decide) (by decide) (by decide)]
        have u_16_5 : (I_7 mo 5).toInt = (I mo 5).toInt := by rw [pf 5 (by decide) (by decide) (by decide) (by decide) (by decide)]
        have u_16_14 : (I_7 mo 14).toInt = (I mo 14).toInt := by rw [pf 14 (by decide) (by decide) (by decide) (by decide) (by decide)]
        have u_16_16 : (I_7 mo 16).toInt = (I mo 16).toInt := by rw [pf 16 (by decide) (by decide) (by decide) (by decide) (by decide)]
        have u_16_18 : (I_7 mo 18).toInt = (I mo 18).toInt := by rw [pf 18 (by decide) (by decide) (by decide) (by decide) (by decide)]
        refine lv_iload_n F.1 F.2.1 dX7_relation_60 rfl (lv_at hl 0 rfl) ?_
        refine z_if_ge (tgt := 68) F dX7_relation_61 (by decide) zrl (fun c_17 => ?_) (fun c_17 => ?_)
        · refine lv_iload_n F.1 F.2.1 dX7_relation_68 rfl (lv_at hl 0 rfl) ?_
          exact g_iret F hr hlk hH hS hz zrl ⟨rfl, rfl, rfl, rfl, hv, pf, by first | omega | rfl | (dsimp only; omega), by first | omega | rfl | (dsimp only; omega)⟩ dX7_relation_69
        · refine z_iconst F dX7_relation_64 ?_
          refine z_goto (tgt := 69) F dX7_relation_65 (by decide) ?_
          exact g_iret F hr hlk hH hS hz ⟨by decide, by decide⟩ ⟨rfl, rfl, rfl, rfl, hv, pf, by first | omega | rfl | (dsimp only; omega), by first | omega | rfl | (dsimp only; omega)⟩ dX7_relation_69
      refine lv_iload_n F.1 F.2.1 dX7_relation_47 rfl (lv_at hl 0 rfl) ?_
      refine z_if_ge (tgt := 56) F dX7_relation_48 (by decide) zrl (fun c_18 => ?_) (fun c_18 => ?_)
      · exact cut_56_4 I_1 H locs ls hv pf (by omega) hH hS (lv_sub hl [0, 1] rfl)
      · refine lv_aload_n F.1 F.2.1 dX7_relation_51 rfl (lv_at hl 1 rfl) ?_
        refine z_iconst F dX7_relation_52 ?_
        have b_19 := mJ hv hm
        unfold mNum1 at b_19
        refine g_callv (g_runV (As := [.int (iI 3)]) (rest := []) (ci := 7) F hl.1 hH hS hz (c_X7_wrong l g gh T I_1 R J AI AJ AR mo 3 ⟨by decide, by decide⟩ hv hm hT (by omega)) (cwV 1 F.2.2.2.2.1 (good_up gT_X7_wrong) rfl rfl rfl hdX7_wrong ⟨Nat.le_of_ble_eq_true rfl, Nat.le_of_ble_eq_true rfl⟩) hm (by decide) rfl rfl rfl (Nat.le_of_ble_eq_true rfl) dX7_relation_53 ⟨Nat.zero_le _, Nat.zero_le _⟩) hS (fun I_20 R_21 J_22 AI_23 AJ_24 AR_25 H locs hp_26 hH hS => ?_)
        dsimp only at hp_26
        obtain ⟨rfl, rfl, rfl, rfl, rfl, hv, pfq, q_27⟩ := hp_26
        have pf := qF_t pf pfq
        have u_28_2 : (I_20 mo 2).toInt = (I mo 2).toInt := by rw [pf 2 (by decide) (by decide) (by decide) (by decide) (by decide)]
        have u_28_5 : (I_20 mo 5).toInt = (I mo 5).toInt := by rw [pf 5 (by decide) (by decide) (by decide) (by decide) (by decide)]
        have u_28_14 : (I_20 mo 14).toInt = (I mo 14).toInt := by rw [pf 14 (by decide) (by decide) (by decide) (by decide) (by decide)]
        have u_28_16 : (I_20 mo 16).toInt = (I mo 16).toInt := by rw [pf 16 (by decide) (by decide) (by decide) (by decide) (by decide)]
        have u_28_18 : (I_20 mo 18).toInt = (I mo 18).toInt := by rw [pf 18 (by decide) (by decide) (by decide) (by decide) (by decide)]
        exact cut_56_4 I_20 H locs ls hv pf (by omega) hH hS (lv_sub hl [0, 1] rfl)
    refine lv_aload_n F.1 F.2.1 dX7_relation_27 rfl (lv_at hl 0 rfl) ?_
    refine g_getI (ci := 7) (k := 24) F hH rfl (by decide) iX7 hm (by decide) rfl k81 dX7_relation_28 ?_
    have b_29 := mJ hv hm
    unfold mNum1 at b_29
    refine z_if_le (tgt := 38) F dX7_relation_31 (by decide) (zr_t _) (fun c_30 => ?_) (fun c_30 => ?_)
    · refine lv_aload_n F.1 F.2.1 dX7_relation_38 rfl (lv_at hl 0 rfl) ?_
      refine lv_aload_n F.1 F.2.1 dX7_relation_39 rfl (lv_at hl 0 rfl) ?_
      refine g_getJ (ci := 7) (k := 22) F hH rfl (by decide) iX7 hm (by decide) rfl k111 dX7_relation_40 ?_
      refine lv_topl (fun j_31 ej_31 => ?_)
      refine g_calli (g_runV (As := [.long j_31]) (rest := []) (ci := 7) F hl.1 hH hS hz (c_X7_named l g gh T I_1 R J AI AJ AR mo j_31 hv hm hT) (cwV 1 F.2.2.2.2.1 (good_up gT_X7_named) rfl rfl rfl hdX7_named ⟨Nat.le_of_ble_eq_true rfl, Nat.le_of_ble_eq_true rfl⟩) hm (by decide) rfl rfl rfl (Nat.le_of_ble_eq_true rfl) dX7_relation_43 ⟨Nat.zero_le _, Nat.zero_le _⟩) hS (fun v_38 I_32 R_33 J_34 AI_35 AJ_36 AR_37 H locs zv_38 hp_39 hH hS => ?_)
      dsimp only at hp_39
      obtain ⟨rfl, rfl, rfl, rfl, rfl, rfl, q_40, hnm⟩ := hp_39
      exact cut_46_2 v_38 H locs ls zv_38 (by omega) hH hS (lv_sub hl [0] rfl)
    · refine z_iconst F dX7_relation_34 ?_
      refine z_goto (tgt := 46) F dX7_relation_35 (by decide) ?_
      exact cut_46_2 (-1) H locs ls ⟨by decide, by decide⟩ (by omega) hH hS (lv_sub hl [0] rfl)
  refine lv_aload_n F.1 F.2.1 dX7_relation_0 rfl (lv_at hl 0 rfl) ?_
  refine g_getI (ci := 7) (k := 24) F hH rfl (by decide) iX7 hm (by decide) rfl k81 dX7_relation_1 ?_
  have b_41 := mJ hv hm
  unfold mNum1 at b_41
  refine z_if_ne (tgt := 27) F dX7_relation_4 (by decide) (zr_t _) (fun c_42 => ?_) (fun c_42 => ?_)
  · exact cut_27_1 I H locs ls hv pf (by omega) hH hS (lv_sub hl [0] rfl)
  · refine lv_aload_n F.1 F.2.1 dX7_relation_7 rfl (lv_at hl 0 rfl) ?_
    refine g_getI (ci := 7) (k := 21) F hH rfl (by decide) iX7 hm (by decide) rfl k94 dX7_relation_8 ?_
    refine z_iconst F dX7_relation_11 ?_
    refine z_icmp_ne (tgt := 22) F dX7_relation_12 (by decide) (zr_t _) ⟨by decide, by decide⟩ (fun c_43 => ?_) (fun c_43 => ?_)
    · refine lv_aload_n F.1 F.2.1 dX7_relation_22 rfl (lv_at hl 0 rfl) ?_
      refine z_iconst F dX7_relation_23 ?_
      refine g_callv (g_runV (As := [.int (iI 1)]) (rest := []) (ci := 7) F hl.1 hH hS hz (c_X7_wrong l g gh T I R J AI AJ AR mo 1 ⟨by decide, by decide⟩ hv hm hT (by omega)) (cwV 1 F.2.2.2.2.1 (good_up gT_X7_wrong) rfl rfl rfl hdX7_wrong ⟨Nat.le_of_ble_eq_true rfl, Nat.le_of_ble_eq_true rfl⟩) hm (by decide) rfl rfl rfl (Nat.le_of_ble_eq_true rfl) dX7_relation_24 ⟨Nat.zero_le _, Nat.zero_le _⟩) hS (fun I_44 R_45 J_46 AI_47 AJ_48 AR_49 H locs hp_50 hH hS => ?_)
      dsimp only at hp_50
      obtain ⟨rfl, rfl, rfl, rfl, rfl, hv, pfq, q_51⟩ := hp_50
      have pf := qF_t pf pfq
      have u_52_2 : (I_44 mo 2).toInt = (I mo 2).toInt := by rw [pf 2 (by decide) (by decide) (by decide) (by decide) (by decide)]
      have u_52_5 : (I_44 mo 5).toInt = (I mo 5).toInt := by rw [pf 5 (by decide) (by decide) (by decide) (by decide) (by decide)]
      have u_52_14 : (I_44 mo 14).toInt = (I mo 14).toInt := by rw [pf 14 (by decide) (by decide) (by decide) (by decide) (by decide)]
      have u_52_16 : (I_44 mo 16).toInt = (I mo 16).toInt := by rw [pf 16 (by decide) (by decide) (by decide) (by decide) (by decide)]
      have u_52_18 : (I_44 mo 18).toInt = (I mo 18).toInt := by rw [pf 18 (by decide) (by decide) (by decide) (by decide) (by decide)]
      exact cut_27_1 I_44 H locs ls hv pf (by omega) hH hS (lv_sub hl [0] rfl)
    · refine lv_aload_n F.1 F.2.1 dX7_relation_15 rfl (lv_at hl 0 rfl) ?_
      refine g_calli (g_runV (As := []) (rest := []) (ci := 7) F hl.1 hH hS hz (c_X7_isReserved l g gh T I R J AI AJ AR mo hv hm hT) (cwV 0 F.2.2.2.2.1 (good_up gT_X7_isReserved) rfl rfl rfl hdX7_isReserved ⟨Nat.le_of_ble_eq_true rfl, Nat.le_of_ble_eq_true rfl⟩) hm (by decide) rfl rfl rfl (Nat.le_of_ble_eq_true rfl) dX7_relation_16 ⟨Nat.zero_le _, Nat.zero_le _⟩) hS (fun v_59 I_53 R_54 J_55 AI_56 AJ_57 AR_58 H locs zv_59 hp_60 hH hS => ?_)
      dsimp only at hp_60
      obtain ⟨rfl, rfl, rfl, rfl, rfl, rfl, q_61⟩ := hp_60
      refine z_if_eq (tgt := 27) F dX7_relation_19 (by decide) zv_59 (fun c_62 => ?_) (fun c_62 => ?_)
      · exact cut_27_1 I H locs ls hv pf (by omega) hH hS (lv_sub hl [0] rfl)
      · refine lv_aload_n F.1 F.2.1 dX7_relation_22 rfl (lv_at hl 0 rfl) ?_
        refine z_iconst F dX7_relation_23 ?_
        refine g_callv (g_runV (As := [.int (iI 1)]) (rest := []) (ci := 7) F hl.1 hH hS hz (c_X7_wrong l g gh T I R J AI AJ AR mo 1 ⟨by decide, by decide⟩ hv hm hT (by omega)) (cwV 1 F.2.2.2.2.1 (good_up gT_X7_wrong) rfl rfl rfl hdX7_wrong ⟨Nat.le_of_ble_eq_true rfl, Nat.le_of_ble_eq_true rfl⟩) hm (by decide) rfl rfl rfl (Nat.le_of_ble_eq_true rfl) dX7_relation_24 ⟨Nat.zero_le _, Nat.zero_le _⟩) hS (fun I_63 R_64 J_65 AI_66 AJ_67 AR_68 H locs hp_69 hH hS => ?_)
        dsimp only at hp_69
        obtain ⟨rfl, rfl, rfl, rfl, rfl, hv, pfq, q_70⟩ := hp_69
        have pf := qF_t pf pfq
        have u_71_2 : (I_63 mo 2).toInt = (I mo 2).toInt := by rw [pf 2 (by decide) (by decide) (by decide) (by decide) (by decide)]
        have u_71_5 : (I_63 mo 5).toInt = (I mo 5).toInt := by rw [pf 5 (by decide) (by decide) (by decide) (by decide) (by decide)]
        have u_71_14 : (I_63 mo 14).toInt = (I mo 14).toInt := by rw [pf 14 (by decide) (by decide) (by decide) (by decide) (by decide)]
        have u_71_16 : (I_63 mo 16).toInt = (I mo 16).toInt := by rw [pf 16 (by decide) (by decide) (by decide) (by decide) (by decide)]
        have u_71_18 : (I_63 mo 18).toInt = (I mo 18).toInt := by rw [pf 18 (by decide) (by decide) (by decide) (by decide) (by decide)]
        exact cut_27_1 I_63 H locs ls hv pf (by omega) hH hS (lv_sub hl [0] rfl)

def rmX7_columns : Room := { frames := 0, cells := 0, slots := 0, locals := 0 }
theorem hdX7_columns : yX7_columns.cls = RX7 ∧ yX7_columns.cls ≠ "java/lang/invoke/MethodHandle" ∧ yX7_columns.cls ≠ "java/lang/invoke/VarHandle" ∧ (parseMethodDescriptor yX7_columns.desc).map (fun d => d.parameters.length) = some 1 := by decide +kernel
set_option maxHeartbeats 4000000 in
set_option maxRecDepth 100000 in
/-- columns -/
theorem c_X7_columns (l : Launch) (g : gG) (gh : gGh) (T : Nat → Int32) (I : gI) (R : gR) (J : gJ) (AI : gI) (AJ : gJ) (AR : gR) (mo : Nat) (rr : Int) (zrr : zr rr) (hv : mInv g gh R I AI) (hm : gO g mo 7) (hT : AI (gh 50 0) = T) (hr0 : 0 ≤ rr ∧ rr ≤ 15) : gMet l g yX7_columns tsX7_columns rmX7_columns [.ref mo, .int (iI rr)] (I, R, J, AI, AJ, AR) (gQi g (fun (z : Int) (w : gS) => I = w.1 ∧ R = w.2.1 ∧ J = w.2.2.1 ∧ AI = w.2.2.2.1 ∧ AJ = w.2.2.2.2.1 ∧ AR = w.2.2.2.2.2 ∧ (z = tI (AI (gh 53 0)) (40 * rr + 1)))) := by
  refine gStart (cc := cX7_columns) (maxL := 2) (ret := (some (.int))) (by decide) rfl (Nat.le_of_ble_eq_true rfl) ?_
  intro p e s m below meth c ls F hr hlk hH hz hS hl
  have hl : lv_has ls 2 [(0, .ref mo), (1, .int (iI rr))] := hl
  have hS : va_S (gA g) s.heap s.heap [] := hS
  obtain ⟨H, hHe⟩ : ∃ H : Heap, H = s.heap := ⟨_, rfl⟩
  obtain ⟨locs, hlo⟩ : ∃ k : List Loc, k = [] := ⟨_, rfl⟩
  have hH : gH g I R J AI AJ AR H := by rw [hHe]; exact hH
  have hS : va_S (gA g) s.heap H locs := by rw [hHe, hlo]; exact hS
  suffices hw : W p l e rmX7_columns s m ([.ref mo, .int (iI rr)] : List Value).toArray below meth c H locs 0 0 (MQ below (gQi g (fun (z : Int) (w : gS) => I = w.1 ∧ R = w.2.1 ∧ J = w.2.2.1 ∧ AI = w.2.2.2.1 ∧ AJ = w.2.2.2.2.1 ∧ AR = w.2.2.2.2.2 ∧ (z = tI (AI (gh 53 0)) (40 * rr + 1)))) ([.ref mo, .int (iI rr)] : List Value).toArray s 0 0 (gA g)) (F0 m 0 ls []) by
    rw [hHe, hlo] at hw; exact hw
  clear hHe hlo
  have iX7 : ∀ w ∈ u_ws RX7 TX7 32, w ∈ tsX7_columns := fun w h => List.mem_cons_of_mem _ (inTB7 w h)
  have k17 : Cond.fieldLink RX7 17 (TX7 3).1 (TX7 3).2.1 (TX7 3).2.2.1 ∈ tsX7_columns := List.mem_cons_of_mem _ fl_17
  refine lv_aload_n F.1 F.2.1 dX7_columns_0 rfl (lv_at hl 0 rfl) ?_
  obtain ⟨r_1a, r_1b⟩ : R mo 3 = some (gh 53 0) ∧ gAr g (gh 53 0) 9 640 := mR hv hm (q := (3, 640)) (by decide)
  refine g_getR (ci := 7) (k := 3) F hH rfl (by decide) iX7 hm (by decide) rfl (b := gh 53 0) r_1a k17 dX7_columns_1 ?_
  refine z_bipush F dX7_columns_4 (by decide) ?_
  refine lv_iload_n F.1 F.2.1 dX7_columns_6 rfl (lv_at hl 1 rfl) ?_
  refine z_imul F dX7_columns_7 ?_
  refine z_iconst F dX7_columns_8 ?_
  refine z_iadd F dX7_columns_9 ?_
  have hx10 : 0 ≤ ((40 * rr) + 1) ∧ ((40 * rr) + 1) < ((640 : Nat) : Int) ∧ ((40 * rr) + 1) ≤ 2147483647 := ⟨by omega, by omega, by omega⟩
  refine g_iald F hH r_1b hx10.1 hx10.2.1 hx10.2.2 dX7_columns_10 ?_
  exact g_iret F hr hlk hH hS hz (zr_t _) ⟨rfl, rfl, rfl, rfl, rfl, rfl, rfl⟩ dX7_columns_11

def rmX7_column : Room := { frames := 3, cells := 0, slots := 0, locals := 67 }
theorem hdX7_column : yX7_column.cls = RX7 ∧ yX7_column.cls ≠ "java/lang/invoke/MethodHandle" ∧ yX7_column.cls ≠ "java/lang/invoke/VarHandle" ∧ (parseMethodDescriptor yX7_column.desc).map (fun d => d.parameters.length) = some 1 := by decide +kernel
set_option maxHeartbeats 4000000 in
set_option maxRecDepth 100000 in
/-- a column -/
theorem c_X7_column (l : Launch) (g : gG) (gh : gGh) (T : Nat → Int32) (I : gI) (R : gR) (J : gJ) (AI : gI) (AJ : gJ) (AR : gR) (mo : Nat) (bl : Int) (zbl : zr bl) (hv : mInv g gh R I AI) (hm : gO g mo 7) (hT : AI (gh 50 0) = T) (hE : (I mo 20).toInt ≤ 936) : gMet l g yX7_column tsX7_column rmX7_column [.ref mo, .int (iI bl)] (I, R, J, AI, AJ, AR) (gQi g (fun (z : Int) (w : gS) => R = w.2.1 ∧ AI = w.2.2.2.1 ∧ AJ = w.2.2.2.2.1 ∧ AR = w.2.2.2.2.2 ∧ (mInv g gh R (w.1) AI) ∧ (qF mo I (w.1)) ∧ (((w.1) mo 20).toInt ≤ 936 ∧ (I mo 24).toInt ≤ ((w.1) mo 24).toInt) ∧ (((w.1) mo 24).toInt = 0 → 0 ≤ z ∧ z ≤ 3 ∧ z < bl))) := by
  refine gStart (cc := cX7_column) (maxL := 3) (ret := (some (.int))) (by decide) rfl (Nat.le_of_ble_eq_true rfl) ?_
  intro p e s m below meth c ls F hr hlk hH hz hS hl
  have hl : lv_has ls 3 [(0, .ref mo), (1, .int (iI bl))] := hl
  have hS : va_S (gA g) s.heap s.heap [] := hS
  obtain ⟨H, hHe⟩ : ∃ H : Heap, H = s.heap := ⟨_, rfl⟩
  obtain ⟨locs, hlo⟩ : ∃ k : List Loc, k = [] := ⟨_, rfl⟩
  have hH : gH g I R J AI AJ AR H := by rw [hHe]; exact hH
  have hS : va_S (gA g) s.heap H locs := by rw [hHe, hlo]; exact hS
  suffices hw : W p l e rmX7_column s m ([.ref mo, .int (iI bl)] : List Value).toArray below meth c H locs 0 0 (MQ below (gQi g (fun (z : Int) (w : gS) => R = w.2.1 ∧ AI = w.2.2.2.1 ∧ AJ = w.2.2.2.2.1 ∧ AR = w.2.2.2.2.2 ∧ (mInv g gh R (w.1) AI) ∧ (qF mo I (w.1)) ∧ (((w.1) mo 20).toInt ≤ 936 ∧ (I mo 24).toInt ≤ ((w.1) mo 24).toInt) ∧ (((w.1) mo 24).toInt = 0 → 0 ≤ z ∧ z ≤ 3 ∧ z < bl))) ([.ref mo, .int (iI bl)] : List Value).toArray s 0 0 (gA g)) (F0 m 0 ls []) by
    rw [hHe, hlo] at hw; exact hw
  clear hHe hlo
  have pf : qF mo I I := qF_r
  have hb0 := mJ hv hm
  unfold mNum1 at hb0
  have htk := mTok hv hm
  have iX7 : ∀ w ∈ u_ws RX7 TX7 32, w ∈ tsX7_column := fun w h => List.mem_cons_of_mem _ (inTB7 w h)
  have k81 : Cond.fieldLink RX7 81 (TX7 24).1 (TX7 24).2.1 (TX7 24).2.2.1 ∈ tsX7_column := List.mem_cons_of_mem _ fl_81
  have k94 : Cond.fieldLink RX7 94 (TX7 21).1 (TX7 21).2.1 (TX7 21).2.2.1 ∈ tsX7_column := List.mem_cons_of_mem _ fl_94
  have k97 : Cond.fieldLink RX7 97 (TX7 23).1 (TX7 23).2.1 (TX7 23).2.2.1 ∈ tsX7_column := List.mem_cons_of_mem _ fl_97
  have cut_20_1 : ∀ (I_1 : gI) (H : Heap) (locs : List Loc) (ls : Array Slot), (mInv g gh R I_1 AI) → (qF mo I I_1) → ((I_1 mo 20).toInt ≤ 936 ∧ (I mo 24).toInt ≤ (I_1 mo 24).toInt ∧ ((I_1 mo 24).toInt = 0 → 0 ≤ (I_1 mo 23).toInt ∧ (I_1 mo 23).toInt ≤ 3)) → gH g I_1 R J AI AJ AR H → va_S (gA g) s.heap H locs → lv_has ls 3 [(0, .ref mo), (1, .int (iI bl))] → W p l e rmX7_column s m ([.ref mo, .int (iI bl)] : List Value).toArray below meth c H locs 0 0 (MQ below (gQi g (fun (z : Int) (w : gS) => R = w.2.1 ∧ AI = w.2.2.2.1 ∧ AJ = w.2.2.2.2.1 ∧ AR = w.2.2.2.2.2 ∧ (mInv g gh R (w.1) AI) ∧ (qF mo I (w.1)) ∧ (((w.1) mo 20).toInt ≤ 936 ∧ (I mo 24).toInt ≤ ((w.1) mo 24).toInt) ∧ (((w.1) mo 24).toInt = 0 → 0 ≤ z ∧ z ≤ 3 ∧ z < bl))) ([.ref mo, .int (iI bl)] : List Value).toArray s 0 0 (gA g)) (F0 m 20 ls []) := by
    intro I_1 H locs ls hv pf hj0 hH hS hl
    have uc_2 : (I_1 mo 2).toInt = (I mo 2).toInt := by rw [pf 2 (by decide) (by decide) (by decide) (by decide) (by decide)]
    have uc_5 : (I_1 mo 5).toInt = (I mo 5).toInt := by rw [pf 5 (by decide) (by decide) (by decide) (by decide) (by decide)]
    have uc_14 : (I_1 mo 14).toInt = (I mo 14).toInt := by rw [pf 14 (by decide) (by decide) (by decide) (by decide) (by decide)]
    have uc_16 : (I_1 mo 16).toInt = (I mo 16).toInt := by rw [pf 16 (by decide) (by decide) (by decide) (by decide) (by decide)]
    have uc_18 : (I_1 mo 18).toInt = (I mo 18).toInt := by rw [pf 18 (by decide) (by decide) (by decide) (by decide) (by decide)]
    have cut_40_3 : ∀ (I_3 : gI) (H : Heap) (locs : List Loc) (ls : Array Slot), (mInv g gh R I_3 AI) → (qF mo I I_3) → ((I_3 mo 20).toInt ≤ 936 ∧ (I mo 24).toInt ≤ (I_3 mo 24).toInt ∧ ((I_3 mo 24).toInt = 0 → 0 ≤ (I_3 mo 23).toInt ∧ (I_3 mo 23).toInt ≤ 3 ∧ (I_3 mo 23).toInt < bl)) → gH g I_3 R J AI AJ AR H → va_S (gA g) s.heap H locs → lv_has ls 3 [(0, .ref mo), (1, .int (iI bl))] → W p l e rmX7_column s m ([.ref mo, .int (iI bl)] : List Value).toArray below meth c H locs 0 0 (MQ below (gQi g (fun (z : Int) (w : gS) => R = w.2.1 ∧ AI = w.2.2.2.1 ∧ AJ = w.2.2.2.2.1 ∧ AR = w.2.2.2.2.2 ∧ (mInv g gh R (w.1) AI) ∧ (qF mo I (w.1)) ∧ (((w.1) mo 20).toInt ≤ 936 ∧ (I mo 24).toInt ≤ ((w.1) mo 24).toInt) ∧ (((w.1) mo 24).toInt = 0 → 0 ≤ z ∧ z ≤ 3 ∧ z < bl))) ([.ref mo, .int (iI bl)] : List Value).toArray s 0 0 (gA g)) (F0 m 40 ls []) := by
      intro I_3 H locs ls hv pf hj20 hH hS hl
      have uc_2 : (I_3 mo 2).toInt = (I mo 2).toInt := by rw [pf 2 (by decide) (by decide) (by decide) (by decide) (by decide)]
      have uc_5 : (I_3 mo 5).toInt = (I mo 5).toInt := by rw [pf 5 (by decide) (by decide) (by decide) (by decide) (by decide)]
      have uc_14 : (I_3 mo 14).toInt = (I mo 14).toInt := by rw [pf 14 (by decide) (by decide) (by decide) (by decide) (by decide)]
      have uc_16 : (I_3 mo 16).toInt = (I mo 16).toInt := by rw [pf 16 (by decide) (by decide) (by decide) (by decide) (by decide)]
      have uc_18 : (I_3 mo 18).toInt = (I mo 18).toInt := by rw [pf 18 (by decide) (by decide) (by decide) (by decide) (by decide)]
      refine lv_aload_n F.1 F.2.1 dX7_column_40 rfl (lv_at hl 0 rfl) ?_
      refine g_getI (ci := 7) (k := 23) F hH rfl (by decide) iX7 hm (by decide) rfl k97 dX7_column_41 ?_
      have b_5 := mJ hv hm
      unfold mNum1 at b_5
      refine lv_istore_n (lv' := [(2, .int (iI ((I_3 mo 23).toInt))), (0, .ref mo), (1, .int (iI bl))]) F.1 F.2.1 dX7_column_44 rfl hl (by decide) rfl (fun ls hl => ?_)
      refine lv_aload_n F.1 F.2.1 dX7_column_45 rfl (lv_at hl 1 rfl) ?_
      refine g_callv (g_runV (As := []) (rest := []) (ci := 7) F hl.1 hH hS hz (c_X7_next l g gh T I_3 R J AI AJ AR mo hv hm hT (by omega)) (cwV 0 F.2.2.2.2.1 (good_up gT_X7_next) rfl rfl rfl hdX7_next ⟨Nat.le_of_ble_eq_true rfl, Nat.le_of_ble_eq_true rfl⟩) hm (by decide) rfl rfl rfl (Nat.le_of_ble_eq_true rfl) dX7_column_46 ⟨Nat.zero_le _, Nat.zero_le _⟩) hS (fun I_6 R_7 J_8 AI_9 AJ_10 AR_11 H locs hp_12 hH hS => ?_)
      dsimp only at hp_12
      obtain ⟨rfl, rfl, rfl, rfl, hv, pfq, q_13, q_14⟩ := hp_12
      have pf := qF_t pf pfq
      have u_15_2 : (I_6 mo 2).toInt = (I mo 2).toInt := by rw [pf 2 (by decide) (by decide) (by decide) (by decide) (by decide)]
      have u_15_5 : (I_6 mo 5).toInt = (I mo 5).toInt := by rw [pf 5 (by decide) (by decide) (by decide) (by decide) (by decide)]
      have u_15_14 : (I_6 mo 14).toInt = (I mo 14).toInt := by rw [pf 14 (by decide) (by decide) (by decide) (by decide) (by decide)]
      have u_15_16 : (I_6 mo 16).toInt = (I mo 16).toInt := by rw [pf 16 (by decide) (by decide) (by decide) (by decide) (by decide)]
      have u_15_18 : (I_6 mo 18).toInt = (I mo 18).toInt := by rw [pf 18 (by decide) (by decide) (by decide) (by decide) (by decide)]
      refine lv_iload_n F.1 F.2.1 dX7_column_49 rfl (lv_at hl 0 rfl) ?_
      exact g_iret F hr hlk hH hS hz (zr_t _) ⟨rfl, rfl, rfl, rfl, hv, pf, by first | omega | rfl | (dsimp only; omega), by first | omega | rfl | (dsimp only; omega)⟩ dX7_column_50
    refine lv_aload_n F.1 F.2.1 dX7_column_20 rfl (lv_at hl 0 rfl) ?_
    refine g_getI (ci := 7) (k := 24) F hH rfl (by decide) iX7 hm (by decide) rfl k81 dX7_column_21 ?_
    have b_16 := mJ hv hm
    unfold mNum1 at b_16
    refine z_if_ne (tgt := 40) F dX7_column_24 (by decide) (zr_t _) (fun c_17 => ?_) (fun c_17 => ?_)
    · exact cut_40_3 I_1 H locs ls hv pf (by omega) hH hS (lv_sub hl [0, 1] rfl)
    · refine lv_aload_n F.1 F.2.1 dX7_column_27 rfl (lv_at hl 0 rfl) ?_
      refine g_getI (ci := 7) (k := 23) F hH rfl (by decide) iX7 hm (by decide) rfl k97 dX7_column_28 ?_
      refine lv_iload_n F.1 F.2.1 dX7_column_31 rfl (lv_at hl 1 rfl) ?_
      refine z_icmp_lt (tgt := 40) F dX7_column_32 (by decide) (zr_t _) zbl (fun c_18 => ?_) (fun c_18 => ?_)
      · exact cut_40_3 I_1 H locs ls hv pf (by omega) hH hS (lv_sub hl [0, 1] rfl)
      · refine lv_aload_n F.1 F.2.1 dX7_column_35 rfl (lv_at hl 0 rfl) ?_
        refine z_iconst F dX7_column_36 ?_
        refine g_callv (g_runV (As := [.int (iI 2)]) (rest := []) (ci := 7) F hl.1 hH hS hz (c_X7_wrong l g gh T I_1 R J AI AJ AR mo 2 ⟨by decide, by decide⟩ hv hm hT (by omega)) (cwV 1 F.2.2.2.2.1 (good_up gT_X7_wrong) rfl rfl rfl hdX7_wrong ⟨Nat.le_of_ble_eq_true rfl, Nat.le_of_ble_eq_true rfl⟩) hm (by decide) rfl rfl rfl (Nat.le_of_ble_eq_true rfl) dX7_column_37 ⟨Nat.zero_le _, Nat.zero_le _⟩) hS (fun I_19 R_20 J_21 AI_22 AJ_23 AR_24 H locs hp_25 hH hS => ?_)
        dsimp only at hp_25
        obtain ⟨rfl, rfl, rfl, rfl, rfl, hv, pfq, q_26⟩ := hp_25
        have pf := qF_t pf pfq
        have u_27_2 : (I_19 mo 2).toInt = (I mo 2).toInt := by rw [pf 2 (by decide) (by decide) (by decide) (by decide) (by decide)]
        have u_27_5 : (I_19 mo 5).toInt = (I mo 5).toInt := by rw [pf 5 (by decide) (by decide) (by decide) (by decide) (by decide)]
        have u_27_14 : (I_19 mo 14).toInt = (I mo 14).toInt := by rw [pf 14 (by decide) (by decide) (by decide) (by decide) (by decide)]
        have u_27_16 : (I_19 mo 16).toInt = (I mo 16).toInt := by rw [pf 16 (by decide) (by decide) (by decide) (by decide) (by decide)]
        have u_27_18 : (I_19 mo 18).toInt = (I mo 18).toInt := by rw [pf 18 (by decide) (by decide) (by decide) (by decide) (by decide)]
        exact cut_40_3 I_19 H locs ls hv pf (by omega) hH hS (lv_sub hl [0, 1] rfl)
  refine lv_aload_n F.1 F.2.1 dX7_column_0 rfl (lv_at hl 0 rfl) ?_
  refine g_getI (ci := 7) (k := 24) F hH rfl (by decide) iX7 hm (by decide) rfl k81 dX7_column_1 ?_
  have b_28 := mJ hv hm
  unfold mNum1 at b_28
  refine z_if_ne (tgt := 20) F dX7_column_4 (by decide) (zr_t _) (fun c_29 => ?_) (fun c_29 => ?_)
  · exact cut_20_1 I H locs ls hv pf (by omega) hH hS (lv_sub hl [0, 1] rfl)
  · refine lv_aload_n F.1 F.2.1 dX7_column_7 rfl (lv_at hl 0 rfl) ?_
    refine g_getI (ci := 7) (k := 21) F hH rfl (by decide) iX7 hm (by decide) rfl k94 dX7_column_8 ?_
    refine z_iconst F dX7_column_11 ?_
    refine z_icmp_eq (tgt := 20) F dX7_column_12 (by decide) (zr_t _) ⟨by decide, by decide⟩ (fun c_30 => ?_) (fun c_30 => ?_)
    · exact cut_20_1 I H locs ls hv pf (by omega) hH hS (lv_sub hl [0, 1] rfl)
    · refine lv_aload_n F.1 F.2.1 dX7_column_15 rfl (lv_at hl 0 rfl) ?_
      refine z_iconst F dX7_column_16 ?_
      refine g_callv (g_runV (As := [.int (iI 1)]) (rest := []) (ci := 7) F hl.1 hH hS hz (c_X7_wrong l g gh T I R J AI AJ AR mo 1 ⟨by decide, by decide⟩ hv hm hT (by omega)) (cwV 1 F.2.2.2.2.1 (good_up gT_X7_wrong) rfl rfl rfl hdX7_wrong ⟨Nat.le_of_ble_eq_true rfl, Nat.le_of_ble_eq_true rfl⟩) hm (by decide) rfl rfl rfl (Nat.le_of_ble_eq_true rfl) dX7_column_17 ⟨Nat.zero_le _, Nat.zero_le _⟩) hS (fun I_31 R_32 J_33 AI_34 AJ_35 AR_36 H locs hp_37 hH hS => ?_)
      dsimp only at hp_37
      obtain ⟨rfl, rfl, rfl, rfl, rfl, hv, pfq, q_38⟩ := hp_37
      have pf := qF_t pf pfq
      have u_39_2 : (I_31 mo 2).toInt = (I mo 2).toInt := by rw [pf 2 (by decide) (by decide) (by decide) (by decide) (by decide)]
      have u_39_5 : (I_31 mo 5).toInt = (I mo 5).toInt := by rw [pf 5 (by decide) (by decide) (by decide) (by decide) (by decide)]
      have u_39_14 : (I_31 mo 14).toInt = (I mo 14).toInt := by rw [pf 14 (by decide) (by decide) (by decide) (by decide) (by decide)]
      have u_39_16 : (I_31 mo 16).toInt = (I mo 16).toInt := by rw [pf 16 (by decide) (by decide) (by decide) (by decide) (by decide)]
      have u_39_18 : (I_31 mo 18).toInt = (I mo 18).toInt := by rw [pf 18 (by decide) (by decide) (by decide) (by decide) (by decide)]
      exact cut_20_1 I_31 H locs ls hv pf (by omega) hH hS (lv_sub hl [0, 1] rfl)

def rmX7_numberTold : Room := { frames := 3, cells := 0, slots := 0, locals := 67 }
theorem hdX7_numberTold : yX7_numberTold.cls = RX7 ∧ yX7_numberTold.cls ≠ "java/lang/invoke/MethodHandle" ∧ yX7_numberTold.cls ≠ "java/lang/invoke/VarHandle" ∧ (parseMethodDescriptor yX7_numberTold.desc).map (fun d => d.parameters.length) = some 0 := by decide +kernel
set_option maxHeartbeats 4000000 in
set_option maxRecDepth 100000 in
/-- a number -/
theorem c_X7_numberTold (l : Launch) (g : gG) (gh : gGh) (T : Nat → Int32) (I : gI) (R : gR) (J : gJ) (AI : gI) (AJ : gJ) (AR : gR) (mo : Nat) (hv : mInv g gh R I AI) (hm : gO g mo 7) (hT : AI (gh 50 0) = T) (hE : (I mo 20).toInt ≤ 936) : gMet l g yX7_numberTold tsX7_numberTold rmX7_numberTold [.ref mo] (I, R, J, AI, AJ, AR) (gQi g (fun (z : Int) (w : gS) => R = w.2.1 ∧ AI = w.2.2.2.1 ∧ AJ = w.2.2.2.2.1 ∧ AR = w.2.2.2.2.2 ∧ (mInv g gh R (w.1) AI) ∧ (qF mo I (w.1)) ∧ (((w.1) mo 20).toInt ≤ 936 ∧ (I mo 24).toInt ≤ ((w.1) mo 24).toInt) ∧ (((w.1) mo 24).toInt = 0 → (I mo 21).toInt = 3 ∧ z = (I mo 23).toInt))) := by
  refine gStart (cc := cX7_numberTold) (maxL := 2) (ret := (some (.int))) (by decide) rfl (Nat.le_of_ble_eq_true rfl) ?_
  intro p e s m below meth c ls F hr hlk hH hz hS hl
  have hl : lv_has ls 2 [(0, .ref mo)] := hl
  have hS : va_S (gA g) s.heap s.heap [] := hS
  obtain ⟨H, hHe⟩ : ∃ H : Heap, H = s.heap := ⟨_, rfl⟩
  obtain ⟨locs, hlo⟩ : ∃ k : List Loc, k = [] := ⟨_, rfl⟩
  have hH : gH g I R J AI AJ AR H := by rw [hHe]; exact hH
  have hS : va_S (gA g) s.heap H locs := by rw [hHe, hlo]; exact hS
  suffices hw : W p l e rmX7_numberTold s m ([.ref mo] : List Value).toArray below meth c H locs 0 0 (MQ below (gQi g (fun (z : Int) (w : gS) => R = w.2.1 ∧ AI = w.2.2.2.1 ∧ AJ = w.2.2.2.2.1 ∧ AR = w.2.2.2.2.2 ∧ (mInv g gh R (w.1) AI) ∧ (qF mo I (w.1)) ∧ (((w.1) mo 20).toInt ≤ 936 ∧ (I mo 24).toInt ≤ ((w.1) mo 24).toInt) ∧ (((w.1) mo 24).toInt = 0 → (I mo 21).toInt = 3 ∧ z = (I mo 23).toInt))) ([.ref mo] : List Value).toArray s 0 0 (gA g)) (F0 m 0 ls []) by
    rw [hHe, hlo] at hw; exact hw
  clear hHe hlo
  have pf : qF mo I I := qF_r
  have hb0 := mJ hv hm
  unfold mNum1 at hb0
  have iX7 : ∀ w ∈ u_ws RX7 TX7 32, w ∈ tsX7_numberTold := fun w h => List.mem_cons_of_mem _ (inTB7 w h)
  have k81 : Cond.fieldLink RX7 81 (TX7 24).1 (TX7 24).2.1 (TX7 24).2.2.1 ∈ tsX7_numberTold := List.mem_cons_of_mem _ fl_81
  have k94 : Cond.fieldLink RX7 94 (TX7 21).1 (TX7 21).2.1 (TX7 21).2.2.1 ∈ tsX7_numberTold := List.mem_cons_of_mem _ fl_94
  have k97 : Cond.fieldLink RX7 97 (TX7 23).1 (TX7 23).2.1 (TX7 23).2.2.1 ∈ tsX7_numberTold := List.mem_cons_of_mem _ fl_97
  have cut_20_1 : ∀ (I_1 : gI) (H : Heap) (locs : List Loc) (ls : Array Slot), (mInv g gh R I_1 AI) → (qF mo I I_1) → ((I_1 mo 20).toInt ≤ 936 ∧ (I mo 24).toInt ≤ (I_1 mo 24).toInt ∧ ((I_1 mo 24).toInt = 0 → (I mo 21).toInt = 3 ∧ (I_1 mo 23).toInt = (I mo 23).toInt)) → gH g I_1 R J AI AJ AR H → va_S (gA g) s.heap H locs → lv_has ls 2 [(0, .ref mo)] → W p l e rmX7_numberTold s m ([.ref mo] : List Value).toArray below meth c H locs 0 0 (MQ below (gQi g (fun (z : Int) (w : gS) => R = w.2.1 ∧ AI = w.2.2.2.1 ∧ AJ = w.2.2.2.2.1 ∧ AR = w.2.2.2.2.2 ∧ (mInv g gh R (w.1) AI) ∧ (qF mo I (w.1)) ∧ (((w.1) mo 20).toInt ≤ 936 ∧ (I mo 24).toInt ≤ ((w.1) mo 24).toInt) ∧ (((w.1) mo 24).toInt = 0 → (I mo 21).toInt = 3 ∧ z = (I mo 23).toInt))) ([.ref mo] : List Value).toArray s 0 0 (gA g)) (F0 m 20 ls []) := by
    intro I_1 H locs ls hv pf hj0 hH hS hl
    have uc_2 : (I_1 mo 2).toInt = (I mo 2).toInt := by rw [pf 2 (by decide) (by decide) (by decide) (by decide) (by decide)]
    have uc_5 : (I_1 mo 5).toInt = (I mo 5).toInt := by rw [pf 5 (by decide) (by decide) (by decide) (by decide) (by decide)]
    have uc_14 : (I_1 mo 14).toInt = (I mo 14).toInt := by rw [pf 14 (by decide) (by decide) (by decide) (by decide) (by decide)]
    have uc_16 : (I_1 mo 16).toInt = (I mo 16).toInt := by rw [pf 16 (by decide) (by decide) (by decide) (by decide) (by decide)]
    have uc_18 : (I_1 mo 18).toInt = (I mo 18).toInt := by rw [pf 18 (by decide) (by decide) (by decide) (by decide) (by decide)]
    refine lv_aload_n F.1 F.2.1 dX7_numberTold_20 rfl (lv_at hl 0 rfl) ?_
    refine g_getI (ci := 7) (k := 23) F hH rfl (by decide) iX7 hm (by decide) rfl k97 dX7_numberTold_21 ?_
    have b_3 := mJ hv hm
    unfold mNum1 at b_3
    refine lv_istore_n (lv' := [(1, .int (iI ((I_1 mo 23).toInt))), (0, .ref mo)]) F.1 F.2.1 dX7_numberTold_24 rfl hl (by decide) rfl (fun ls hl => ?_)
    refine lv_aload_n F.1 F.2.1 dX7_numberTold_25 rfl (lv_at hl 1 rfl) ?_
    refine g_callv (g_runV (As := []) (rest := []) (ci := 7) F hl.1 hH hS hz (c_X7_next l g gh T I_1 R J AI AJ AR mo hv hm hT (by omega)) (cwV 0 F.2.2.2.2.1 (good_up gT_X7_next) rfl rfl rfl hdX7_next ⟨Nat.le_of_ble_eq_true rfl, Nat.le_of_ble_eq_true rfl⟩) hm (by decide) rfl rfl rfl (Nat.le_of_ble_eq_true rfl) dX7_numberTold_26 ⟨Nat.zero_le _, Nat.zero_le _⟩) hS (fun I_4 R_5 J_6 AI_7 AJ_8 AR_9 H locs hp_10 hH hS => ?_)
    dsimp only at hp_10
    obtain ⟨rfl, rfl, rfl, rfl, hv, pfq, q_11, q_12⟩ := hp_10
    have pf := qF_t pf pfq
    have u_13_2 : (I_4 mo 2).toInt = (I mo 2).toInt := by rw [pf 2 (by decide) (by decide) (by decide) (by decide) (by decide)]
    have u_13_5 : (I_4 mo 5).toInt = (I mo 5).toInt := by rw [pf 5 (by decide) (by decide) (by decide) (by decide) (by decide)]
    have u_13_14 : (I_4 mo 14).toInt = (I mo 14).toInt := by rw [pf 14 (by decide) (by decide) (by decide) (by decide) (by decide)]
    have u_13_16 : (I_4 mo 16).toInt = (I mo 16).toInt := by rw [pf 16 (by decide) (by decide) (by decide) (by decide) (by decide)]
    have u_13_18 : (I_4 mo 18).toInt = (I mo 18).toInt := by rw [pf 18 (by decide) (by decide) (by decide) (by decide) (by decide)]
    refine lv_iload_n F.1 F.2.1 dX7_numberTold_29 rfl (lv_at hl 0 rfl) ?_
    exact g_iret F hr hlk hH hS hz (zr_t _) ⟨rfl, rfl, rfl, rfl, hv, pf, by first | omega | rfl | (dsimp only; omega), by first | omega | rfl | (dsimp only; omega)⟩ dX7_numberTold_30
  refine lv_aload_n F.1 F.2.1 dX7_numberTold_0 rfl (lv_at hl 0 rfl) ?_
  refine g_getI (ci := 7) (k := 24) F hH rfl (by decide) iX7 hm (by decide) rfl k81 dX7_numberTold_1 ?_
  have b_14 := mJ hv hm
  unfold mNum1 at b_14
  refine z_if_ne (tgt := 20) F dX7_numberTold_4 (by decide) (zr_t _) (fun c_15 => ?_) (fun c_15 => ?_)
  · exact cut_20_1 I H locs ls hv pf (by omega) hH hS (lv_sub hl [0] rfl)
  · refine lv_aload_n F.1 F.2.1 dX7_numberTold_7 rfl (lv_at hl 0 rfl) ?_
    refine g_getI (ci := 7) (k := 21) F hH rfl (by decide) iX7 hm (by decide) rfl k94 dX7_numberTold_8 ?_
    refine z_iconst F dX7_numberTold_11 ?_
    refine z_icmp_eq (tgt := 20) F dX7_numberTold_12 (by decide) (zr_t _) ⟨by decide, by decide⟩ (fun c_16 => ?_) (fun c_16 => ?_)
    · exact cut_20_1 I H locs ls hv pf (by omega) hH hS (lv_sub hl [0] rfl)
    · refine lv_aload_n F.1 F.2.1 dX7_numberTold_15 rfl (lv_at hl 0 rfl) ?_
      refine z_iconst F dX7_numberTold_16 ?_
      refine g_callv (g_runV (As := [.int (iI 1)]) (rest := []) (ci := 7) F hl.1 hH hS hz (c_X7_wrong l g gh T I R J AI AJ AR mo 1 ⟨by decide, by decide⟩ hv hm hT (by omega)) (cwV 1 F.2.2.2.2.1 (good_up gT_X7_wrong) rfl rfl rfl hdX7_wrong ⟨Nat.le_of_ble_eq_true rfl, Nat.le_of_ble_eq_true rfl⟩) hm (by decide) rfl rfl rfl (Nat.le_of_ble_eq_true rfl) dX7_numberTold_17 ⟨Nat.zero_le _, Nat.zero_le _⟩) hS (fun I_17 R_18 J_19 AI_20 AJ_21 AR_22 H locs hp_23 hH hS => ?_)
      dsimp only at hp_23
      obtain ⟨rfl, rfl, rfl, rfl, rfl, hv, pfq, q_24⟩ := hp_23
      have pf := qF_t pf pfq
      have u_25_2 : (I_17 mo 2).toInt = (I mo 2).toInt := by rw [pf 2 (by decide) (by decide) (by decide) (by decide) (by decide)]
      have u_25_5 : (I_17 mo 5).toInt = (I mo 5).toInt := by rw [pf 5 (by decide) (by decide) (by decide) (by decide) (by decide)]
      have u_25_14 : (I_17 mo 14).toInt = (I mo 14).toInt := by rw [pf 14 (by decide) (by decide) (by decide) (by decide) (by decide)]
      have u_25_16 : (I_17 mo 16).toInt = (I mo 16).toInt := by rw [pf 16 (by decide) (by decide) (by decide) (by decide) (by decide)]
      have u_25_18 : (I_17 mo 18).toInt = (I mo 18).toInt := by rw [pf 18 (by decide) (by decide) (by decide) (by decide) (by decide)]
      exact cut_20_1 I_17 H locs ls hv pf (by omega) hH hS (lv_sub hl [0] rfl)

def rmX7_sets : Room := { frames := 0, cells := 0, slots := 0, locals := 0 }
theorem hdX7_sets : yX7_sets.cls = RX7 ∧ yX7_sets.cls ≠ "java/lang/invoke/MethodHandle" ∧ yX7_sets.cls ≠ "java/lang/invoke/VarHandle" ∧ (parseMethodDescriptor yX7_sets.desc).map (fun d => d.parameters.length) = some 2 := by decide +kernel
set_option maxHeartbeats 4000000 in
set_option maxRecDepth 100000 in
/-- a number of the row -/
theorem c_X7_sets (l : Launch) (g : gG) (gh : gGh) (T : Nat → Int32) (M : Int) (I : gI) (R : gR) (J : gJ) (AI : gI) (AJ : gJ) (AR : gR) (mo : Nat) (wh : Int) (va : Int) (zwh : zr wh) (zva : zr va) (hv : mInv g gh R I AI) (hm : gO g mo 7) (hT : AI (gh 50 0) = T) (hM : (I mo 24).toInt = 0 → (I mo 5).toInt ≤ 15) (hMM : (I mo 5).toInt = M) (hw : 0 ≤ wh ∧ wh ≤ 5) : gMet l g yX7_sets tsX7_sets rmX7_sets [.ref mo, .int (iI wh), .int (iI va)] (I, R, J, AI, AJ, AR) (gQv g (fun w : gS => I = w.1 ∧ R = w.2.1 ∧ J = w.2.2.1 ∧ AJ = w.2.2.2.2.1 ∧ AR = w.2.2.2.2.2 ∧ (mInv g gh R I (w.2.2.2.1)) ∧ ((w.2.2.2.1) (gh 50 0) = T) ∧ ((I mo 24).toInt = 0 → s1 (AI (gh 53 0)) ((w.2.2.2.1) (gh 53 0)) (40 * M + wh) va))) := by
  refine gStart (cc := cX7_sets) (maxL := 3) (ret := none) (by decide) rfl (Nat.le_of_ble_eq_true rfl) ?_
  intro p e s m below meth c ls F hr hlk hH hz hS hl
  have hl : lv_has ls 3 [(0, .ref mo), (1, .int (iI wh)), (2, .int (iI va))] := hl
  have hS : va_S (gA g) s.heap s.heap [] := hS
  obtain ⟨H, hHe⟩ : ∃ H : Heap, H = s.heap := ⟨_, rfl⟩
  obtain ⟨locs, hlo⟩ : ∃ k : List Loc, k = [] := ⟨_, rfl⟩
  have hH : gH g I R J AI AJ AR H := by rw [hHe]; exact hH
  have hS : va_S (gA g) s.heap H locs := by rw [hHe, hlo]; exact hS
  suffices hw : W p l e rmX7_sets s m ([.ref mo, .int (iI wh), .int (iI va)] : List Value).toArray below meth c H locs 0 0 (MQ below (gQv g (fun w : gS => I = w.1 ∧ R = w.2.1 ∧ J = w.2.2.1 ∧ AJ = w.2.2.2.2.1 ∧ AR = w.2.2.2.2.2 ∧ (mInv g gh R I (w.2.2.2.1)) ∧ ((w.2.2.2.1) (gh 50 0) = T) ∧ ((I mo 24).toInt = 0 → s1 (AI (gh 53 0)) ((w.2.2.2.1) (gh 53 0)) (40 * M + wh) va))) ([.ref mo, .int (iI wh), .int (iI va)] : List Value).toArray s 0 0 (gA g)) (F0 m 0 ls []) by
    rw [hHe, hlo] at hw; exact hw
  clear hHe hlo
  have hb0 := mJ hv hm
  unfold mNum1 at hb0
  have iX7 : ∀ w ∈ u_ws RX7 TX7 32, w ∈ tsX7_sets := fun w h => List.mem_cons_of_mem _ (inTB7 w h)
  have k81 : Cond.fieldLink RX7 81 (TX7 24).1 (TX7 24).2.1 (TX7 24).2.2.1 ∈ tsX7_sets := List.mem_cons_of_mem _ fl_81
  have k17 : Cond.fieldLink RX7 17 (TX7 3).1 (TX7 3).2.1 (TX7 3).2.2.1 ∈ tsX7_sets := List.mem_cons_of_mem _ fl_17
  have k184 : Cond.fieldLink RX7 184 (TX7 5).1 (TX7 5).2.1 (TX7 5).2.2.1 ∈ tsX7_sets := List.mem_cons_of_mem _ fl_184
  refine lv_aload_n F.1 F.2.1 dX7_sets_0 rfl (lv_at hl 0 rfl) ?_
  refine g_getI (ci := 7) (k := 24) F hH rfl (by decide) iX7 hm (by decide) rfl k81 dX7_sets_1 ?_
  have b_1 := mJ hv hm
  unfold mNum1 at b_1
  refine z_if_ne (tgt := 22) F dX7_sets_4 (by decide) (zr_t _) (fun c_2 => ?_) (fun c_2 => ?_)
  · exact g_vret F hr hlk hH hS hz ⟨rfl, rfl, rfl, rfl, rfl, hv, hT, fun hf => by first | exact absurd hf (by omega) | (rw [← hMM]; exact s1_mk (by omega) zva rfl)⟩ dX7_sets_22
  · refine lv_aload_n F.1 F.2.1 dX7_sets_7 rfl (lv_at hl 0 rfl) ?_
    obtain ⟨r_3a, r_3b⟩ : R mo 3 = some (gh 53 0) ∧ gAr g (gh 53 0) 9 640 := mR hv hm (q := (3, 640)) (by decide)
    refine g_getR (ci := 7) (k := 3) F hH rfl (by decide) iX7 hm (by decide) rfl (b := gh 53 0) r_3a k17 dX7_sets_8 ?_
    refine z_bipush F dX7_sets_11 (by decide) ?_
    refine lv_aload_n F.1 F.2.1 dX7_sets_13 rfl (lv_at hl 0 rfl) ?_
    refine g_getI (ci := 7) (k := 5) F hH rfl (by decide) iX7 hm (by decide) rfl k184 dX7_sets_14 ?_
    refine z_imul F dX7_sets_17 ?_
    refine lv_iload_n F.1 F.2.1 dX7_sets_18 rfl (lv_at hl 1 rfl) ?_
    refine z_iadd F dX7_sets_19 ?_
    refine lv_iload_n F.1 F.2.1 dX7_sets_20 rfl (lv_at hl 2 rfl) ?_
    have hx21 : 0 ≤ ((40 * ((I mo 5).toInt)) + wh) ∧ ((40 * ((I mo 5).toInt)) + wh) < ((640 : Nat) : Int) ∧ ((40 * ((I mo 5).toInt)) + wh) ≤ 2147483647 := ⟨by omega, by omega, by omega⟩
    refine g_iast F hH hS r_3b hx21.1 hx21.2.1 hx21.2.2 dX7_sets_21 (fun H locs hH hS => ?_)
    obtain ⟨AI_4, eAI_4⟩ : ∃ qQ, qQ = gup2 AI (gh 53 0) (((40 * ((I mo 5).toInt)) + wh)).toNat (iI (va)) := ⟨_, rfl⟩
    rw [← eAI_4] at hH
    have kAI_4 : ∀ b, b ≠ (gh 53 0) → AI_4 b = AI b := fun b hb => by rw [eAI_4]; exact funext fun j => gup2_a _ _ hb
    have t_5 : AI_4 (gh 50 0) = AI (gh 50 0) := mK hv hm (p := (0, 640)) (q := (3, 640)) (by decide) (by decide) (by decide) kAI_4
    have hv : mInv g gh R I AI_4 := mInv_read hv hm eAI_4 (by omega)
    have hT : AI_4 (gh 50 0) = T := t_5.trans hT
    exact g_vret F hr hlk hH hS hz ⟨rfl, rfl, rfl, rfl, rfl, hv, hT, fun hf => by first | exact absurd hf (by omega) | (rw [← hMM]; exact s1_mk (by omega) zva eAI_4)⟩ dX7_sets_22

def rmX7_setsPart : Room := { frames := 0, cells := 0, slots := 0, locals := 0 }
theorem hdX7_setsPart : yX7_setsPart.cls = RX7 ∧ yX7_setsPart.cls ≠ "java/lang/invoke/MethodHandle" ∧ yX7_setsPart.cls ≠ "java/lang/invoke/VarHandle" ∧ (parseMethodDescriptor yX7_setsPart.desc).map (fun d => d.parameters.length) = some 5 := by decide +kernel
set_option maxHeartbeats 4000000 in
set_option maxRecDepth 100000 in
/-- a part of the row -/
theorem c_X7_setsPart (l : Launch) (g : gG) (gh : gGh) (T : Nat → Int32) (M : Int) (I : gI) (R : gR) (J : gJ) (AI : gI) (AJ : gJ) (AR : gR) (mo : Nat) (kp : Int) (a1 : Int) (b1 : Int) (c1 : Int) (d1 : Int) (zkp : zr kp) (za1 : zr a1) (zb1 : zr b1) (zc1 : zr c1) (zd1 : zr d1) (hv : mInv g gh R I AI) (hm : gO g mo 7) (hT : AI (gh 50 0) = T) (hM : (I mo 24).toInt = 0 → (I mo 5).toInt ≤ 15) (hMM : (I mo 5).toInt = M) (hkp : (I mo 24).toInt = 0 → 0 ≤ kp ∧ kp ≤ 7) : gMet l g yX7_setsPart tsX7_setsPart rmX7_setsPart [.ref mo, .int (iI kp), .int (iI a1), .int (iI b1), .int (iI c1), .int (iI d1)] (I, R, J, AI, AJ, AR) (gQv g (fun w : gS => I = w.1 ∧ R = w.2.1 ∧ J = w.2.2.1 ∧ AJ = w.2.2.2.2.1 ∧ AR = w.2.2.2.2.2 ∧ (mInv g gh R I (w.2.2.2.1)) ∧ ((w.2.2.2.1) (gh 50 0) = T) ∧ ((I mo 24).toInt = 0 → sP (AI (gh 53 0)) ((w.2.2.2.1) (gh 53 0)) M kp a1 b1 c1 d1))) := by
  refine gStart (cc := cX7_setsPart) (maxL := 7) (ret := none) (by decide) rfl (Nat.le_of_ble_eq_true rfl) ?_
  intro p e s m below meth c ls F hr hlk hH hz hS hl
  have hl : lv_has ls 7 [(0, .ref mo), (1, .int (iI kp)), (2, .int (iI a1)), (3, .int (iI b1)), (4, .int (iI c1)), (5, .int (iI d1))] := hl
  have hS : va_S (gA g) s.heap s.heap [] := hS
  obtain ⟨H, hHe⟩ : ∃ H : Heap, H = s.heap := ⟨_, rfl⟩
  obtain ⟨locs, hlo⟩ : ∃ k : List Loc, k = [] := ⟨_, rfl⟩
  have hH : gH g I R J AI AJ AR H := by rw [hHe]; exact hH
  have hS : va_S (gA g) s.heap H locs := by rw [hHe, hlo]; exact hS
  suffices hw : W p l e rmX7_setsPart s m ([.ref mo, .int (iI kp), .int (iI a1), .int (iI b1), .int (iI c1), .int (iI d1)] : List Value).toArray below meth c H locs 0 0 (MQ below (gQv g (fun w : gS => I = w.1 ∧ R = w.2.1 ∧ J = w.2.2.1 ∧ AJ = w.2.2.2.2.1 ∧ AR = w.2.2.2.2.2 ∧ (mInv g gh R I (w.2.2.2.1)) ∧ ((w.2.2.2.1) (gh 50 0) = T) ∧ ((I mo 24).toInt = 0 → sP (AI (gh 53 0)) ((w.2.2.2.1) (gh 53 0)) M kp a1 b1 c1 d1))) ([.ref mo, .int (iI kp), .int (iI a1), .int (iI b1), .int (iI c1), .int (iI d1)] : List Value).toArray s 0 0 (gA g)) (F0 m 0 ls []) by
    rw [hHe, hlo] at hw; exact hw
  clear hHe hlo
  have hb0 := mJ hv hm
  unfold mNum1 at hb0
  have iX7 : ∀ w ∈ u_ws RX7 TX7 32, w ∈ tsX7_setsPart := fun w h => List.mem_cons_of_mem _ (inTB7 w h)
  have k81 : Cond.fieldLink RX7 81 (TX7 24).1 (TX7 24).2.1 (TX7 24).2.2.1 ∈ tsX7_setsPart := List.mem_cons_of_mem _ fl_81
  have k184 : Cond.fieldLink RX7 184 (TX7 5).1 (TX7 5).2.1 (TX7 5).2.2.1 ∈ tsX7_setsPart := List.mem_cons_of_mem _ fl_184
  have k17 : Cond.fieldLink RX7 17 (TX7 3).1 (TX7 3).2.1 (TX7 3).2.2.1 ∈ tsX7_setsPart := List.mem_cons_of_mem _ fl_17
  refine lv_aload_n F.1 F.2.1 dX7_setsPart_0 rfl (lv_at hl 0 rfl) ?_
  refine g_getI (ci := 7) (k := 24) F hH rfl (by decide) iX7 hm (by decide) rfl k81 dX7_setsPart_1 ?_
  have b_1 := mJ hv hm
  unfold mNum1 at b_1
  refine z_if_le (tgt := 8) F dX7_setsPart_4 (by decide) (zr_t _) (fun c_2 => ?_) (fun c_2 => ?_)
  · refine z_bipush F dX7_setsPart_8 (by decide) ?_
    refine lv_aload_n F.1 F.2.1 dX7_setsPart_10 rfl (lv_at hl 0 rfl) ?_
    refine g_getI (ci := 7) (k := 5) F hH rfl (by decide) iX7 hm (by decide) rfl k184 dX7_setsPart_11 ?_
    refine z_imul F dX7_setsPart_14 ?_
    refine z_bipush F dX7_setsPart_15 (by decide) ?_
    refine z_iadd F dX7_setsPart_17 ?_
    refine z_iconst F dX7_setsPart_18 ?_
    refine lv_iload_n F.1 F.2.1 dX7_setsPart_19 rfl (lv_at hl 1 rfl) ?_
    refine z_imul F dX7_setsPart_20 ?_
    refine z_iadd F dX7_setsPart_21 ?_
    refine lv_istore (lv' := [(6, .int (iI (((40 * ((I mo 5).toInt)) + 6) + (4 * kp)))), (0, .ref mo), (1, .int (iI kp)), (2, .int (iI a1)), (3, .int (iI b1)), (4, .int (iI c1)), (5, .int (iI d1))]) F.1 F.2.1 dX7_setsPart_22 hl (by decide) rfl (fun ls hl => ?_)
    refine lv_aload_n F.1 F.2.1 dX7_setsPart_24 rfl (lv_at hl 1 rfl) ?_
    obtain ⟨r_3a, r_3b⟩ : R mo 3 = some (gh 53 0) ∧ gAr g (gh 53 0) 9 640 := mR hv hm (q := (3, 640)) (by decide)
    refine g_getR (ci := 7) (k := 3) F hH rfl (by decide) iX7 hm (by decide) rfl (b := gh 53 0) r_3a k17 dX7_setsPart_25 ?_
    refine lv_iload F.1 F.2.1 dX7_setsPart_28 (lv_at hl 0 rfl) ?_
    refine lv_iload_n F.1 F.2.1 dX7_setsPart_30 rfl (lv_at hl 3 rfl) ?_
    have hx31 : 0 ≤ (((40 * ((I mo 5).toInt)) + 6) + (4 * kp)) ∧ (((40 * ((I mo 5).toInt)) + 6) + (4 * kp)) < ((640 : Nat) : Int) ∧ (((40 * ((I mo 5).toInt)) + 6) + (4 * kp)) ≤ 2147483647 := ⟨by omega, by omega, by omega⟩
    refine g_iast F hH hS r_3b hx31.1 hx31.2.1 hx31.2.2 dX7_setsPart_31 (fun H locs hH hS => ?_)
    obtain ⟨AI_4, eAI_4⟩ : ∃ qQ, qQ = gup2 AI (gh 53 0) ((((40 * ((I mo 5).toInt)) + 6) + (4 * kp))).toNat (iI (a1)) := ⟨_, rfl⟩
    rw [← eAI_4] at hH
    have kAI_4 : ∀ b, b ≠ (gh 53 0) → AI_4 b = AI b := fun b hb => by rw [eAI_4]; exact funext fun j => gup2_a _ _ hb
    have t_5 : AI_4 (gh 50 0) = AI (gh 50 0) := mK hv hm (p := (0, 640)) (q := (3, 640)) (by decide) (by decide) (by decide) kAI_4
    have hv : mInv g gh R I AI_4 := mInv_read hv hm eAI_4 (by omega)
    have hT : AI_4 (gh 50 0) = T := t_5.trans hT
    refine lv_aload_n F.1 F.2.1 dX7_setsPart_32 rfl (lv_at hl 1 rfl) ?_
    refine g_getR (ci := 7) (k := 3) F hH rfl (by decide) iX7 hm (by decide) rfl (b := gh 53 0) r_3a k17 dX7_setsPart_33 ?_
    refine lv_iload F.1 F.2.1 dX7_setsPart_36 (lv_at hl 0 rfl) ?_
    refine z_iconst F dX7_setsPart_38 ?_
    refine z_iadd F dX7_setsPart_39 ?_
    refine lv_iload_n F.1 F.2.1 dX7_setsPart_40 rfl (lv_at hl 4 rfl) ?_
    have hx41 : 0 ≤ ((((40 * ((I mo 5).toInt)) + 6) + (4 * kp)) + 1) ∧ ((((40 * ((I mo 5).toInt)) + 6) + (4 * kp)) + 1) < ((640 : Nat) : Int) ∧ ((((40 * ((I mo 5).toInt)) + 6) + (4 * kp)) + 1) ≤ 2147483647 := ⟨by omega, by omega, by omega⟩
    refine g_iast F hH hS r_3b hx41.1 hx41.2.1 hx41.2.2 dX7_setsPart_41 (fun H locs hH hS => ?_)
    obtain ⟨AI_6, eAI_6⟩ : ∃ qQ, qQ = gup2 AI_4 (gh 53 0) (((((40 * ((I mo 5).toInt)) + 6) + (4 * kp)) + 1)).toNat (iI (b1)) := ⟨_, rfl⟩
    rw [← eAI_6] at hH
    have kAI_6 : ∀ b, b ≠ (gh 53 0) → AI_6 b = AI_4 b := fun b hb => by rw [eAI_6]; exact funext fun j => gup2_a _ _ hb
    have t_7 : AI_6 (gh 50 0) = AI_4 (gh 50 0) := mK hv hm (p := (0, 640)) (q := (3, 640)) (by decide) (by decide) (by decide) kAI_6
    have hv : mInv g gh R I AI_6 := mInv_read hv hm eAI_6 (by omega)
    have hT : AI_6 (gh 50 0) = T := t_7.trans hT
    refine lv_aload_n F.1 F.2.1 dX7_setsPart_42 rfl (lv_at hl 1 rfl) ?_
    refine g_getR (ci := 7) (k := 3) F hH rfl (by decide) iX7 hm (by decide) rfl (b := gh 53 0) r_3a k17 dX7_setsPart_43 ?_
    refine lv_iload F.1 F.2.1 dX7_setsPart_46 (lv_at hl 0 rfl) ?_
    refine z_iconst F dX7_setsPart_48 ?_
    refine z_iadd F dX7_setsPart_49 ?_
    refine lv_iload F.1 F.2.1 dX7_setsPart_50 (lv_at hl 5 rfl) ?_
    have hx52 : 0 ≤ ((((40 * ((I mo 5).toInt)) + 6) + (4 * kp)) + 2) ∧ ((((40 * ((I mo 5).toInt)) + 6) + (4 * kp)) + 2) < ((640 : Nat) : Int) ∧ ((((40 * ((I mo 5).toInt)) + 6) + (4 * kp)) + 2) ≤ 2147483647 := ⟨by omega, by omega, by omega⟩
    refine g_iast F hH hS r_3b hx52.1 hx52.2.1 hx52.2.2 dX7_setsPart_52 (fun H locs hH hS => ?_)
    obtain ⟨AI_8, eAI_8⟩ : ∃ qQ, qQ = gup2 AI_6 (gh 53 0) (((((40 * ((I mo 5).toInt)) + 6) + (4 * kp)) + 2)).toNat (iI (c1)) := ⟨_, rfl⟩
    rw [← eAI_8] at hH
    have kAI_8 : ∀ b, b ≠ (gh 53 0) → AI_8 b = AI_6 b := fun b hb => by rw [eAI_8]; exact funext fun j => gup2_a _ _ hb
    have t_9 : AI_8 (gh 50 0) = AI_6 (gh 50 0) := mK hv hm (p := (0, 640)) (q := (3, 640)) (by decide) (by decide) (by decide) kAI_8
    have hv : mInv g gh R I AI_8 := mInv_read hv hm eAI_8 (by omega)
    have hT : AI_8 (gh 50 0) = T := t_9.trans hT
    refine lv_aload_n F.1 F.2.1 dX7_setsPart_53 rfl (lv_at hl 1 rfl) ?_
    refine g_getR (ci := 7) (k := 3) F hH rfl (by decide) iX7 hm (by decide) rfl (b := gh 53 0) r_3a k17 dX7_setsPart_54 ?_
    refine lv_iload F.1 F.2.1 dX7_setsPart_57 (lv_at hl 0 rfl) ?_
    refine z_iconst F dX7_setsPart_59 ?_
    refine z_iadd F dX7_setsPart_60 ?_
    refine lv_iload F.1 F.2.1 dX7_setsPart_61 (lv_at hl 6 rfl) ?_
    have hx63 : 0 ≤ ((((40 * ((I mo 5).toInt)) + 6) + (4 * kp)) + 3) ∧ ((((40 * ((I mo 5).toInt)) + 6) + (4 * kp)) + 3) < ((640 : Nat) : Int) ∧ ((((40 * ((I mo 5).toInt)) + 6) + (4 * kp)) + 3) ≤ 2147483647 := ⟨by omega, by omega, by omega⟩
    refine g_iast F hH hS r_3b hx63.1 hx63.2.1 hx63.2.2 dX7_setsPart_63 (fun H locs hH hS => ?_)
    obtain ⟨AI_10, eAI_10⟩ : ∃ qQ, qQ = gup2 AI_8 (gh 53 0) (((((40 * ((I mo 5).toInt)) + 6) + (4 * kp)) + 3)).toNat (iI (d1)) := ⟨_, rfl⟩
    rw [← eAI_10] at hH
    have kAI_10 : ∀ b, b ≠ (gh 53 0) → AI_10 b = AI_8 b := fun b hb => by rw [eAI_10]; exact funext fun j => gup2_a _ _ hb
    have t_11 : AI_10 (gh 50 0) = AI_8 (gh 50 0) := mK hv hm (p := (0, 640)) (q := (3, 640)) (by decide) (by decide) (by decide) kAI_10
    have hv : mInv g gh R I AI_10 := mInv_read hv hm eAI_10 (by omega)
    have hT : AI_10 (gh 50 0) = T := t_11.trans hT
    exact g_vret F hr hlk hH hS hz ⟨rfl, rfl, rfl, rfl, rfl, hv, hT, fun hf => by first | exact absurd hf (by omega) | exact sP_mk (by omega) (by omega) za1 zb1 zc1 zd1 (by omega) eAI_4 eAI_6 eAI_8 eAI_10⟩ dX7_setsPart_64
  · exact g_vret F hr hlk hH hS hz ⟨rfl, rfl, rfl, rfl, rfl, hv, hT, fun hf => by first | exact absurd hf (by omega) | exact sP_mk (by omega) (by omega) za1 zb1 zc1 zd1 (by omega) rfl rfl rfl rfl⟩ dX7_setsPart_7

def rmX7_header : Room := { frames := 1, cells := 0, slots := 0, locals := 22 }
theorem hdX7_header : yX7_header.cls = RX7 ∧ yX7_header.cls ≠ "java/lang/invoke/MethodHandle" ∧ yX7_header.cls ≠ "java/lang/invoke/VarHandle" ∧ (parseMethodDescriptor yX7_header.desc).map (fun d => d.parameters.length) = some 5 := by decide +kernel
set_option maxHeartbeats 4000000 in
set_option maxRecDepth 100000 in
/-- the header of the row -/
theorem c_X7_header (l : Launch) (g : gG) (gh : gGh) (T : Nat → Int32) (M : Int) (I : gI) (R : gR) (J : gJ) (AI : gI) (AJ : gJ) (AR : gR) (mo : Nat) (kd : Int) (cl : Int) (on : Int) (ot : Int) (ps : Int) (zkd : zr kd) (zcl : zr cl) (zon : zr on) (zot : zr ot) (zps : zr ps) (hv : mInv g gh R I AI) (hm : gO g mo 7) (hT : AI (gh 50 0) = T) (hM : (I mo 24).toInt = 0 → (I mo 5).toInt ≤ 15) (hMM : (I mo 5).toInt = M) : gMet l g yX7_header tsX7_header rmX7_header [.ref mo, .int (iI kd), .int (iI cl), .int (iI on), .int (iI ot), .int (iI ps)] (I, R, J, AI, AJ, AR) (gQv g (fun w : gS => I = w.1 ∧ R = w.2.1 ∧ J = w.2.2.1 ∧ AJ = w.2.2.2.2.1 ∧ AR = w.2.2.2.2.2 ∧ (mInv g gh R I (w.2.2.2.1)) ∧ ((w.2.2.2.1) (gh 50 0) = T) ∧ ((I mo 24).toInt = 0 → hP (AI (gh 53 0)) ((w.2.2.2.1) (gh 53 0)) M kd cl on ot ps))) := by
  refine gStart (cc := cX7_header) (maxL := 6) (ret := none) (by decide) rfl (Nat.le_of_ble_eq_true rfl) ?_
  intro p e s m below meth c ls F hr hlk hH hz hS hl
  have hl : lv_has ls 6 [(0, .ref mo), (1, .int (iI kd)), (2, .int (iI cl)), (3, .int (iI on)), (4, .int (iI ot)), (5, .int (iI ps))] := hl
  have hS : va_S (gA g) s.heap s.heap [] := hS
  obtain ⟨H, hHe⟩ : ∃ H : Heap, H = s.heap := ⟨_, rfl⟩
  obtain ⟨locs, hlo⟩ : ∃ k : List Loc, k = [] := ⟨_, rfl⟩
  have hH : gH g I R J AI AJ AR H := by rw [hHe]; exact hH
  have hS : va_S (gA g) s.heap H locs := by rw [hHe, hlo]; exact hS
  suffices hw : W p l e rmX7_header s m ([.ref mo, .int (iI kd), .int (iI cl), .int (iI on), .int (iI ot), .int (iI ps)] : List Value).toArray below meth c H locs 0 0 (MQ below (gQv g (fun w : gS => I = w.1 ∧ R = w.2.1 ∧ J = w.2.2.1 ∧ AJ = w.2.2.2.2.1 ∧ AR = w.2.2.2.2.2 ∧ (mInv g gh R I (w.2.2.2.1)) ∧ ((w.2.2.2.1) (gh 50 0) = T) ∧ ((I mo 24).toInt = 0 → hP (AI (gh 53 0)) ((w.2.2.2.1) (gh 53 0)) M kd cl on ot ps))) ([.ref mo, .int (iI kd), .int (iI cl), .int (iI on), .int (iI ot), .int (iI ps)] : List Value).toArray s 0 0 (gA g)) (F0 m 0 ls []) by
    rw [hHe, hlo] at hw; exact hw
  clear hHe hlo
  have hb0 := mJ hv hm
  unfold mNum1 at hb0
  refine lv_aload_n F.1 F.2.1 dX7_header_0 rfl (lv_at hl 0 rfl) ?_
  refine z_iconst F dX7_header_1 ?_
  refine lv_iload_n F.1 F.2.1 dX7_header_2 rfl (lv_at hl 1 rfl) ?_
  have b_1 := mJ hv hm
  unfold mNum1 at b_1
  refine g_callv (g_runV (As := [.int (iI 0), .int (iI kd)]) (rest := []) (ci := 7) F hl.1 hH hS hz (c_X7_sets l g gh T M I R J AI AJ AR mo 0 kd ⟨by decide, by decide⟩ zkd hv hm hT (by omega) (by omega) (by omega)) (cwV 2 F.2.2.2.2.1 (good_up gT_X7_sets) rfl rfl rfl hdX7_sets ⟨Nat.le_of_ble_eq_true rfl, Nat.le_of_ble_eq_true rfl⟩) hm (by decide) rfl rfl rfl (Nat.le_of_ble_eq_true rfl) dX7_header_3 ⟨Nat.zero_le _, Nat.zero_le _⟩) hS (fun I_2 R_3 J_4 AI_5 AJ_6 AR_7 H locs hp_8 hH hS => ?_)
  dsimp only at hp_8
  obtain ⟨rfl, rfl, rfl, rfl, rfl, hv, hT, g1⟩ := hp_8
  refine lv_aload_n F.1 F.2.1 dX7_header_6 rfl (lv_at hl 0 rfl) ?_
  refine z_iconst F dX7_header_7 ?_
  refine lv_iload_n F.1 F.2.1 dX7_header_8 rfl (lv_at hl 2 rfl) ?_
  refine g_callv (g_runV (As := [.int (iI 1), .int (iI cl)]) (rest := []) (ci := 7) F hl.1 hH hS hz (c_X7_sets l g gh T M I R J AI_5 AJ AR mo 1 cl ⟨by decide, by decide⟩ zcl hv hm hT (by omega) (by omega) (by omega)) (cwV 2 F.2.2.2.2.1 (good_up gT_X7_sets) rfl rfl rfl hdX7_sets ⟨Nat.le_of_ble_eq_true rfl, Nat.le_of_ble_eq_true rfl⟩) hm (by decide) rfl rfl rfl (Nat.le_of_ble_eq_true rfl) dX7_header_9 ⟨Nat.zero_le _, Nat.zero_le _⟩) hS (fun I_9 R_10 J_11 AI_12 AJ_13 AR_14 H locs hp_15 hH hS => ?_)
  dsimp only at hp_15
  obtain ⟨rfl, rfl, rfl, rfl, rfl, hv, hT, g2⟩ := hp_15
  refine lv_aload_n F.1 F.2.1 dX7_header_12 rfl (lv_at hl 0 rfl) ?_
  refine z_iconst F dX7_header_13 ?_
  refine lv_iload_n F.1 F.2.1 dX7_header_14 rfl (lv_at hl 3 rfl) ?_
  refine g_callv (g_runV (As := [.int (iI 2), .int (iI on)]) (rest := []) (ci := 7) F hl.1 hH hS hz (c_X7_sets l g gh T M I R J AI_12 AJ AR mo 2 on ⟨by decide, by decide⟩ zon hv hm hT (by omega) (by omega) (by omega)) (cwV 2 F.2.2.2.2.1 (good_up gT_X7_sets) rfl rfl rfl hdX7_sets ⟨Nat.le_of_ble_eq_true rfl, Nat.le_of_ble_eq_true rfl⟩) hm (by decide) rfl rfl rfl (Nat.le_of_ble_eq_true rfl) dX7_header_15 ⟨Nat.zero_le _, Nat.zero_le _⟩) hS (fun I_16 R_17 J_18 AI_19 AJ_20 AR_21 H locs hp_22 hH hS => ?_)
  dsimp only at hp_22
  obtain ⟨rfl, rfl, rfl, rfl, rfl, hv, hT, g3⟩ := hp_22
  refine lv_aload_n F.1 F.2.1 dX7_header_18 rfl (lv_at hl 0 rfl) ?_
  refine z_iconst F dX7_header_19 ?_
  refine lv_iload F.1 F.2.1 dX7_header_20 (lv_at hl 4 rfl) ?_
  refine g_callv (g_runV (As := [.int (iI 3), .int (iI ot)]) (rest := []) (ci := 7) F hl.1 hH hS hz (c_X7_sets l g gh T M I R J AI_19 AJ AR mo 3 ot ⟨by decide, by decide⟩ zot hv hm hT (by omega) (by omega) (by omega)) (cwV 2 F.2.2.2.2.1 (good_up gT_X7_sets) rfl rfl rfl hdX7_sets ⟨Nat.le_of_ble_eq_true rfl, Nat.le_of_ble_eq_true rfl⟩) hm (by decide) rfl rfl rfl (Nat.le_of_ble_eq_true rfl) dX7_header_22 ⟨Nat.zero_le _, Nat.zero_le _⟩) hS (fun I_23 R_24 J_25 AI_26 AJ_27 AR_28 H locs hp_29 hH hS => ?_)
  dsimp only at hp_29
  obtain ⟨rfl, rfl, rfl, rfl, rfl, hv, hT, g4⟩ := hp_29
  refine lv_aload_n F.1 F.2.1 dX7_header_25 rfl (lv_at hl 0 rfl) ?_
  refine z_iconst F dX7_header_26 ?_
  refine lv_iload F.1 F.2.1 dX7_header_27 (lv_at hl 5 rfl) ?_
  refine g_callv (g_runV (As := [.int (iI 4), .int (iI ps)]) (rest := []) (ci := 7) F hl.1 hH hS hz (c_X7_sets l g gh T M I R J AI_26 AJ AR mo 4 ps ⟨by decide, by decide⟩ zps hv hm hT (by omega) (by omega) (by omega)) (cwV 2 F.2.2.2.2.1 (good_up gT_X7_sets) rfl rfl rfl hdX7_sets ⟨Nat.le_of_ble_eq_true rfl, Nat.le_of_ble_eq_true rfl⟩) hm (by decide) rfl rfl rfl (Nat.le_of_ble_eq_true rfl) dX7_header_29 ⟨Nat.zero_le _, Nat.zero_le _⟩) hS (fun I_30 R_31 J_32 AI_33 AJ_34 AR_35 H locs hp_36 hH hS => ?_)
  dsimp only at hp_36
  obtain ⟨rfl, rfl, rfl, rfl, rfl, hv, hT, g5⟩ := hp_36
  exact g_vret F hr hlk hH hS hz ⟨rfl, rfl, rfl, rfl, rfl, hv, hT, fun hf => hP_mk (by omega) (g1 hf) (g2 hf) (g3 hf) (g4 hf) (g5 hf)⟩ dX7_header_32
