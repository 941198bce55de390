def rmX5_isDigit : Room := { frames := 0, cells := 0, slots := 0, locals := 0 }
theorem hdX5_isDigit : yX5_isDigit.cls = RX5 ∧ yX5_isDigit.cls ≠ "java/lang/invoke/MethodHandle" ∧ yX5_isDigit.cls ≠ "java/lang/invoke/VarHandle" ∧ (parseMethodDescriptor yX5_isDigit.desc).map (fun d => d.parameters.length) = some 1 := by decide +kernel
set_option maxHeartbeats 4000000 in
set_option maxRecDepth 100000 in
/-- a digit -/
theorem c_X5_isDigit (l : Launch) (g : gG)  (I : gI) (R : gR) (J : gJ) (AI : gI) (AJ : gJ) (AR : gR) (ch : Int) (zch : zr ch) : gMet l g yX5_isDigit wsX5_isDigit rmX5_isDigit [.int (iI ch)] (I, R, J, AI, AJ, AR) (gQi g (fun (z : Int) (w : gS) => I = w.1 ∧ R = w.2.1 ∧ J = w.2.2.1 ∧ AI = w.2.2.2.1 ∧ AJ = w.2.2.2.2.1 ∧ AR = w.2.2.2.2.2 ∧ (z = 0 ∨ z = 1))) := by
  refine gStart (cc := cX5_isDigit) (maxL := 1) (ret := (some (.boolean))) (by decide) rfl (Nat.le_of_ble_eq_true rfl) ?_
  intro p e s m below meth c ls F hr hlk hH hz hS hl
  have hl : lv_has ls 1 [(0, .int (iI ch))] := hl
  have hS : va_S (gA g) s.heap s.heap [] := hS
  obtain ⟨H, hHe⟩ : ∃ H : Heap, H = s.heap := ⟨_, rfl⟩
  obtain ⟨locs, hlo⟩ : ∃ k : List Loc, k = [] := ⟨_, rfl⟩
  have hH : gH g I R J AI AJ AR H := by rw [hHe]; exact hH
  have hS : va_S (gA g) s.heap H locs := by rw [hHe, hlo]; exact hS
  suffices hw : W p l e rmX5_isDigit s m ([.int (iI ch)] : List Value).toArray below meth c H locs 0 0 (MQ below (gQi g (fun (z : Int) (w : gS) => I = w.1 ∧ R = w.2.1 ∧ J = w.2.2.1 ∧ AI = w.2.2.2.1 ∧ AJ = w.2.2.2.2.1 ∧ AR = w.2.2.2.2.2 ∧ (z = 0 ∨ z = 1))) ([.int (iI ch)] : List Value).toArray s 0 0 (gA g)) (F0 m 0 ls []) by
    rw [hHe, hlo] at hw; exact hw
  clear hHe hlo
  refine lv_iload_n F.1 F.2.1 dX5_isDigit_0 rfl (lv_at hl 0 rfl) ?_
  refine z_bipush F dX5_isDigit_1 (by decide) ?_
  refine z_icmp_lt (tgt := 16) F dX5_isDigit_3 (by decide) zch ⟨by decide, by decide⟩ (fun c_1 => ?_) (fun c_1 => ?_)
  · refine z_iconst F dX5_isDigit_16 ?_
    exact g_zret F hr hlk hH hS hz (by omega) ⟨rfl, rfl, rfl, rfl, rfl, rfl, by first | omega | rfl | (dsimp only; omega)⟩ dX5_isDigit_17
  · refine lv_iload_n F.1 F.2.1 dX5_isDigit_6 rfl (lv_at hl 0 rfl) ?_
    refine z_bipush F dX5_isDigit_7 (by decide) ?_
    refine z_icmp_gt (tgt := 16) F dX5_isDigit_9 (by decide) zch ⟨by decide, by decide⟩ (fun c_2 => ?_) (fun c_2 => ?_)
    · refine z_iconst F dX5_isDigit_16 ?_
      exact g_zret F hr hlk hH hS hz (by omega) ⟨rfl, rfl, rfl, rfl, rfl, rfl, by first | omega | rfl | (dsimp only; omega)⟩ dX5_isDigit_17
    · refine z_iconst F dX5_isDigit_12 ?_
      refine z_goto (tgt := 17) F dX5_isDigit_13 (by decide) ?_
      exact g_zret F hr hlk hH hS hz (by omega) ⟨rfl, rfl, rfl, rfl, rfl, rfl, by first | omega | rfl | (dsimp only; omega)⟩ dX5_isDigit_17

def rmX5_isRunSign : Room := { frames := 1, cells := 0, slots := 0, locals := 20 }
theorem hdX5_isRunSign : yX5_isRunSign.cls = RX5 ∧ yX5_isRunSign.cls ≠ "java/lang/invoke/MethodHandle" ∧ yX5_isRunSign.cls ≠ "java/lang/invoke/VarHandle" ∧ (parseMethodDescriptor yX5_isRunSign.desc).map (fun d => d.parameters.length) = some 1 := by decide +kernel
set_option maxHeartbeats 4000000 in
set_option maxRecDepth 100000 in
/-- a sign of a run -/
theorem c_X5_isRunSign (l : Launch) (g : gG)  (I : gI) (R : gR) (J : gJ) (AI : gI) (AJ : gJ) (AR : gR) (ch : Int) (zch : zr ch) : gMet l g yX5_isRunSign wsX5_isRunSign rmX5_isRunSign [.int (iI ch)] (I, R, J, AI, AJ, AR) (gQi g (fun (z : Int) (w : gS) => I = w.1 ∧ R = w.2.1 ∧ J = w.2.2.1 ∧ AI = w.2.2.2.1 ∧ AJ = w.2.2.2.2.1 ∧ AR = w.2.2.2.2.2 ∧ (z = 0 ∨ z = 1))) := by
  refine gStart (cc := cX5_isRunSign) (maxL := 1) (ret := (some (.boolean))) (by decide) rfl (Nat.le_of_ble_eq_true rfl) ?_
  intro p e s m below meth c ls F hr hlk hH hz hS hl
  have hl : lv_has ls 1 [(0, .int (iI ch))] := hl
  have hS : va_S (gA g) s.heap s.heap [] := hS
  obtain ⟨H, hHe⟩ : ∃ H : Heap, H = s.heap := ⟨_, rfl⟩
  obtain ⟨locs, hlo⟩ : ∃ k : List Loc, k = [] := ⟨_, rfl⟩
  have hH : gH g I R J AI AJ AR H := by rw [hHe]; exact hH
  have hS : va_S (gA g) s.heap H locs := by rw [hHe, hlo]; exact hS
  suffices hw : W p l e rmX5_isRunSign s m ([.int (iI ch)] : List Value).toArray below meth c H locs 0 0 (MQ below (gQi g (fun (z : Int) (w : gS) => I = w.1 ∧ R = w.2.1 ∧ J = w.2.2.1 ∧ AI = w.2.2.2.1 ∧ AJ = w.2.2.2.2.1 ∧ AR = w.2.2.2.2.2 ∧ (z = 0 ∨ z = 1))) ([.int (iI ch)] : List Value).toArray s 0 0 (gA g)) (F0 m 0 ls []) by
    rw [hHe, hlo] at hw; exact hw
  clear hHe hlo
  refine lv_iload_n F.1 F.2.1 dX5_isRunSign_0 rfl (lv_at hl 0 rfl) ?_
  refine g_calli (g_runS (As := [.int (iI ch)]) (rest := []) F hl.1 hH hS hz (c_X5_isDigit l g  I R J AI AJ AR ch zch) (va_cwS 1 F.2.2.2.2.1 gX5_isRunSign_X5_isDigit rfl rfl rfl hdX5_isDigit.2 ⟨Nat.le_of_ble_eq_true rfl, Nat.le_of_ble_eq_true rfl⟩) rfl rfl (Nat.le_of_ble_eq_true rfl) dX5_isRunSign_1 ⟨Nat.zero_le _, Nat.zero_le _⟩) hS (fun v_7 I_1 R_2 J_3 AI_4 AJ_5 AR_6 H locs zv_7 hp_8 hH hS => ?_)
  dsimp only at hp_8
  obtain ⟨rfl, rfl, rfl, rfl, rfl, rfl, q_9⟩ := hp_8
  refine z_if_ne (tgt := 19) F dX5_isRunSign_4 (by decide) zv_7 (fun c_10 => ?_) (fun c_10 => ?_)
  · refine z_iconst F dX5_isRunSign_19 ?_
    refine z_goto (tgt := 24) F dX5_isRunSign_20 (by decide) ?_
    exact g_zret F hr hlk hH hS hz (by omega) ⟨rfl, rfl, rfl, rfl, rfl, rfl, by first | omega | rfl | (dsimp only; omega)⟩ dX5_isRunSign_24
  · refine lv_iload_n F.1 F.2.1 dX5_isRunSign_7 rfl (lv_at hl 0 rfl) ?_
    refine z_bipush F dX5_isRunSign_8 (by decide) ?_
    refine z_icmp_lt (tgt := 23) F dX5_isRunSign_10 (by decide) zch ⟨by decide, by decide⟩ (fun c_11 => ?_) (fun c_11 => ?_)
    · refine z_iconst F dX5_isRunSign_23 ?_
      exact g_zret F hr hlk hH hS hz (by omega) ⟨rfl, rfl, rfl, rfl, rfl, rfl, by first | omega | rfl | (dsimp only; omega)⟩ dX5_isRunSign_24
    · refine lv_iload_n F.1 F.2.1 dX5_isRunSign_13 rfl (lv_at hl 0 rfl) ?_
      refine z_bipush F dX5_isRunSign_14 (by decide) ?_
      refine z_icmp_gt (tgt := 23) F dX5_isRunSign_16 (by decide) zch ⟨by decide, by decide⟩ (fun c_12 => ?_) (fun c_12 => ?_)
      · refine z_iconst F dX5_isRunSign_23 ?_
        exact g_zret F hr hlk hH hS hz (by omega) ⟨rfl, rfl, rfl, rfl, rfl, rfl, by first | omega | rfl | (dsimp only; omega)⟩ dX5_isRunSign_24
      · refine z_iconst F dX5_isRunSign_19 ?_
        refine z_goto (tgt := 24) F dX5_isRunSign_20 (by decide) ?_
        exact g_zret F hr hlk hH hS hz (by omega) ⟨rfl, rfl, rfl, rfl, rfl, rfl, by first | omega | rfl | (dsimp only; omega)⟩ dX5_isRunSign_24

def rmX5_nameOf : Room := { frames := 0, cells := 0, slots := 0, locals := 0 }
theorem hdX5_nameOf : yX5_nameOf.cls = RX5 ∧ yX5_nameOf.cls ≠ "java/lang/invoke/MethodHandle" ∧ yX5_nameOf.cls ≠ "java/lang/invoke/VarHandle" ∧ (parseMethodDescriptor yX5_nameOf.desc).map (fun d => d.parameters.length) = some 3 := by decide +kernel
set_option maxHeartbeats 4000000 in
set_option maxRecDepth 100000 in
/-- the letters of a word -/
theorem c_X5_nameOf (l : Launch) (g : gG)  (I : gI) (R : gR) (J : gJ) (AI : gI) (AJ : gJ) (AR : gR) (t : Nat) (fr : Int) (to_ : Int) (zfr : zr fr) (zto_ : zr to_) (ht : gAr g t 8 936) (h0 : 0 ≤ fr) (h1 : fr ≤ to_) (h2 : to_ ≤ 936) : gMet l g yX5_nameOf wsX5_nameOf rmX5_nameOf [.ref t, .int (iI fr), .int (iI to_)] (I, R, J, AI, AJ, AR) (gQl g (fun (z : Int64) (w : gS) => I = w.1 ∧ R = w.2.1 ∧ J = w.2.2.1 ∧ AI = w.2.2.2.1 ∧ AJ = w.2.2.2.2.1 ∧ AR = w.2.2.2.2.2)) := by
  refine gStart (cc := cX5_nameOf) (maxL := 6) (ret := (some (.long))) (by decide) rfl (Nat.le_of_ble_eq_true rfl) ?_
  intro p e s m below meth c ls F hr hlk hH hz hS hl
  have hl : lv_has ls 6 [(0, .ref t), (1, .int (iI fr)), (2, .int (iI to_))] := hl
  have hS : va_S (gA g) s.heap s.heap [] := hS
  obtain ⟨H, hHe⟩ : ∃ H : Heap, H = s.heap := ⟨_, rfl⟩
  obtain ⟨locs, hlo⟩ : ∃ k : List Loc, k = [] := ⟨_, rfl⟩
  have hH : gH g I R J AI AJ AR H := by rw [hHe]; exact hH
  have hS : va_S (gA g) s.heap H locs := by rw [hHe, hlo]; exact hS
  suffices hw : W p l e rmX5_nameOf s m ([.ref t, .int (iI fr), .int (iI to_)] : List Value).toArray below meth c H locs 0 0 (MQ below (gQl g (fun (z : Int64) (w : gS) => I = w.1 ∧ R = w.2.1 ∧ J = w.2.2.1 ∧ AI = w.2.2.2.1 ∧ AJ = w.2.2.2.2.1 ∧ AR = w.2.2.2.2.2)) ([.ref t, .int (iI fr), .int (iI to_)] : List Value).toArray s 0 0 (gA g)) (F0 m 0 ls []) by
    rw [hHe, hlo] at hw; exact hw
  clear hHe hlo
  refine lv_lconst (v := 0) F.1 F.2.1 dX5_nameOf_0 (by decide) ?_
  refine lv_lstore_n (lv' := [(3, .long 0), (0, .ref t), (1, .int (iI fr)), (2, .int (iI to_))]) F.1 F.2.1 dX5_nameOf_1 rfl hl (by decide) rfl (fun ls hl => ?_)
  refine lv_iload_n F.1 F.2.1 dX5_nameOf_2 rfl (lv_at hl 2 rfl) ?_
  refine lv_istore (lv' := [(5, .int (iI fr)), (3, .long 0), (0, .ref t), (1, .int (iI fr)), (2, .int (iI to_))]) F.1 F.2.1 dX5_nameOf_3 hl (by decide) rfl (fun ls hl => ?_)
  have cut_5_1 : ∀ (NN : Nat) (i : Int) (nm : Int64) (H : Heap) (locs : List Loc) (ls : Array Slot), zr i → (fr ≤ i ∧ i ≤ to_) → (to_ - i) < ((NN : Nat) : Int) → gH g I R J AI AJ AR H → va_S (gA g) s.heap H locs → lv_has ls 6 [(5, .int (iI i)), (3, .long nm), (0, .ref t), (1, .int (iI fr)), (2, .int (iI to_))] → W p l e rmX5_nameOf s m ([.ref t, .int (iI fr), .int (iI to_)] : List Value).toArray below meth c H locs 0 0 (MQ below (gQl g (fun (z : Int64) (w : gS) => I = w.1 ∧ R = w.2.1 ∧ J = w.2.2.1 ∧ AI = w.2.2.2.1 ∧ AJ = w.2.2.2.2.1 ∧ AR = w.2.2.2.2.2)) ([.ref t, .int (iI fr), .int (iI to_)] : List Value).toArray s 0 0 (gA g)) (F0 m 5 ls []) := by
    intro NN5
    induction NN5 with
    | zero =>
      intro i nm H locs ls zi hi hm5 hH hS hl
      exact absurd hm5 (by omega)
    | succ NN5 ih5 =>
      intro i nm H locs ls zi hi hm5 hH hS hl
      refine lv_iload F.1 F.2.1 dX5_nameOf_5 (lv_at hl 0 rfl) ?_
      refine lv_iload_n F.1 F.2.1 dX5_nameOf_7 rfl (lv_at hl 4 rfl) ?_
      refine z_icmp_ge (tgt := 32) F dX5_nameOf_8 (by decide) zi zto_ (fun c_3 => ?_) (fun c_3 => ?_)
      · refine lv_lload_n F.1 F.2.1 dX5_nameOf_32 rfl (lv_at hl 1 rfl) ?_
        exact g_lret F hr hlk hH hS hz ⟨rfl, rfl, rfl, rfl, rfl, rfl⟩ dX5_nameOf_33
      · refine lv_lload_n F.1 F.2.1 dX5_nameOf_11 rfl (lv_at hl 1 rfl) ?_
        refine z_iconst F dX5_nameOf_12 ?_
        refine lv_lshl F.1 F.2.1 dX5_nameOf_13 rfl ?_
        refine lv_topl (fun j_4 ej_4 => ?_)
        refine lv_aload_n F.1 F.2.1 dX5_nameOf_14 rfl (lv_at hl 2 rfl) ?_
        refine lv_iload F.1 F.2.1 dX5_nameOf_15 (lv_at hl 0 rfl) ?_
        have hx17 : 0 ≤ i ∧ i < ((936 : Nat) : Int) ∧ i ≤ 2147483647 := ⟨by omega, by omega, by omega⟩
        refine g_bald F hH ht hx17.1 hx17.2.1 hx17.2.2 dX5_nameOf_17 ?_
        refine z_name (fun v_5 ev_5 => ?_)
        have zv_5 : zr v_5 := by rw [ev_5]; exact zr_t _
        refine z_bipush F dX5_nameOf_18 (by decide) ?_
        refine z_isub F dX5_nameOf_20 ?_
        refine z_norm (fun v_6 zv_6 ev_6 => ?_)
        refine z_iconst F dX5_nameOf_21 ?_
        refine z_iadd F dX5_nameOf_22 ?_
        refine z_norm (fun v_7 zv_7 ev_7 => ?_)
        refine lv_i2l F.1 F.2.1 dX5_nameOf_23 rfl ?_
        refine lv_topl (fun j_8 ej_8 => ?_)
        refine lv_lor F.1 F.2.1 dX5_nameOf_24 ?_
        refine lv_topl (fun j_9 ej_9 => ?_)
        refine lv_lstore_n (lv' := [(3, .long j_9), (5, .int (iI i)), (0, .ref t), (1, .int (iI fr)), (2, .int (iI to_))]) F.1 F.2.1 dX5_nameOf_25 rfl hl (by decide) rfl (fun ls hl => ?_)
        refine z_iinc (lv' := [(5, .int (iI (i + 1))), (3, .long j_9), (0, .ref t), (1, .int (iI fr)), (2, .int (iI to_))]) F dX5_nameOf_26 hl (k := 1) rfl (by decide) rfl (fun ls hl => ?_)
        refine z_goto (tgt := 5) F dX5_nameOf_29 (by decide) ?_
        exact ih5 (i + 1) j_9 H locs ls ⟨by omega, by omega⟩ (by omega) (by omega) hH hS (lv_sub hl [0, 1, 2, 3, 4] rfl)
  exact cut_5_1 (((to_ - fr) + 1 : Int).toNat) fr 0 H locs ls zfr (by omega) (by omega) hH hS (lv_sub hl [0, 1, 2, 3, 4] rfl)

def rmX5_numberOf : Room := { frames := 0, cells := 0, slots := 0, locals := 0 }
theorem hdX5_numberOf : yX5_numberOf.cls = RX5 ∧ yX5_numberOf.cls ≠ "java/lang/invoke/MethodHandle" ∧ yX5_numberOf.cls ≠ "java/lang/invoke/VarHandle" ∧ (parseMethodDescriptor yX5_numberOf.desc).map (fun d => d.parameters.length) = some 3 := by decide +kernel
set_option maxHeartbeats 4000000 in
set_option maxRecDepth 100000 in
/-- a number -/
theorem c_X5_numberOf (l : Launch) (g : gG)  (I : gI) (R : gR) (J : gJ) (AI : gI) (AJ : gJ) (AR : gR) (t : Nat) (fr : Int) (to_ : Int) (zfr : zr fr) (zto_ : zr to_) (ht : gAr g t 8 936) (h0 : 0 ≤ fr) (h1 : fr ≤ to_) (h2 : to_ ≤ 936) : gMet l g yX5_numberOf wsX5_numberOf rmX5_numberOf [.ref t, .int (iI fr), .int (iI to_)] (I, R, J, AI, AJ, AR) (gQi g (fun (z : Int) (w : gS) => I = w.1 ∧ R = w.2.1 ∧ J = w.2.2.1 ∧ AI = w.2.2.2.1 ∧ AJ = w.2.2.2.2.1 ∧ AR = w.2.2.2.2.2)) := by
  refine gStart (cc := cX5_numberOf) (maxL := 5) (ret := (some (.int))) (by decide) rfl (Nat.le_of_ble_eq_true rfl) ?_
  intro p e s m below meth c ls F hr hlk hH hz hS hl
  have hl : lv_has ls 5 [(0, .ref t), (1, .int (iI fr)), (2, .int (iI to_))] := hl
  have hS : va_S (gA g) s.heap s.heap [] := hS
  obtain ⟨H, hHe⟩ : ∃ H : Heap, H = s.heap := ⟨_, rfl⟩
  obtain ⟨locs, hlo⟩ : ∃ k : List Loc, k = [] := ⟨_, rfl⟩
  have hH : gH g I R J AI AJ AR H := by rw [hHe]; exact hH
  have hS : va_S (gA g) s.heap H locs := by rw [hHe, hlo]; exact hS
  suffices hw : W p l e rmX5_numberOf s m ([.ref t, .int (iI fr), .int (iI to_)] : List Value).toArray below meth c H locs 0 0 (MQ below (gQi g (fun (z : Int) (w : gS) => I = w.1 ∧ R = w.2.1 ∧ J = w.2.2.1 ∧ AI = w.2.2.2.1 ∧ AJ = w.2.2.2.2.1 ∧ AR = w.2.2.2.2.2)) ([.ref t, .int (iI fr), .int (iI to_)] : List Value).toArray s 0 0 (gA g)) (F0 m 0 ls []) by
    rw [hHe, hlo] at hw; exact hw
  clear hHe hlo
  refine z_iconst F dX5_numberOf_0 ?_
  refine lv_istore_n (lv' := [(3, .int (iI 0)), (0, .ref t), (1, .int (iI fr)), (2, .int (iI to_))]) F.1 F.2.1 dX5_numberOf_1 rfl hl (by decide) rfl (fun ls hl => ?_)
  refine lv_iload_n F.1 F.2.1 dX5_numberOf_2 rfl (lv_at hl 2 rfl) ?_
  refine lv_istore (lv' := [(4, .int (iI fr)), (3, .int (iI 0)), (0, .ref t), (1, .int (iI fr)), (2, .int (iI to_))]) F.1 F.2.1 dX5_numberOf_3 hl (by decide) rfl (fun ls hl => ?_)
  have cut_5_0 : ∀ (NN : Nat) (nb i : Int) (H : Heap) (locs : List Loc) (ls : Array Slot), zr nb → zr i → (fr ≤ i ∧ i ≤ to_) → (to_ - i) < ((NN : Nat) : Int) → gH g I R J AI AJ AR H → va_S (gA g) s.heap H locs → lv_has ls 5 [(4, .int (iI i)), (3, .int (iI nb)), (0, .ref t), (1, .int (iI fr)), (2, .int (iI to_))] → W p l e rmX5_numberOf s m ([.ref t, .int (iI fr), .int (iI to_)] : List Value).toArray below meth c H locs 0 0 (MQ below (gQi g (fun (z : Int) (w : gS) => I = w.1 ∧ R = w.2.1 ∧ J = w.2.2.1 ∧ AI = w.2.2.2.1 ∧ AJ = w.2.2.2.2.1 ∧ AR = w.2.2.2.2.2)) ([.ref t, .int (iI fr), .int (iI to_)] : List Value).toArray s 0 0 (gA g)) (F0 m 5 ls []) := by
    intro NN5
    induction NN5 with
    | zero =>
      intro nb i H locs ls znb zi hi hm5 hH hS hl
      exact absurd hm5 (by omega)
    | succ NN5 ih5 =>
      intro nb i H locs ls znb zi hi hm5 hH hS hl
      refine lv_iload F.1 F.2.1 dX5_numberOf_5 (lv_at hl 0 rfl) ?_
      refine lv_iload_n F.1 F.2.1 dX5_numberOf_7 rfl (lv_at hl 4 rfl) ?_
      refine z_icmp_ge (tgt := 30) F dX5_numberOf_8 (by decide) zi zto_ (fun c_2 => ?_) (fun c_2 => ?_)
      · refine lv_iload_n F.1 F.2.1 dX5_numberOf_30 rfl (lv_at hl 1 rfl) ?_
        exact g_iret F hr hlk hH hS hz znb ⟨rfl, rfl, rfl, rfl, rfl, rfl⟩ dX5_numberOf_31
      · refine z_bipush F dX5_numberOf_11 (by decide) ?_
        refine lv_iload_n F.1 F.2.1 dX5_numberOf_13 rfl (lv_at hl 1 rfl) ?_
        refine z_imul F dX5_numberOf_14 ?_
        refine z_norm (fun v_3 zv_3 ev_3 => ?_)
        refine lv_aload_n F.1 F.2.1 dX5_numberOf_15 rfl (lv_at hl 2 rfl) ?_
        refine lv_iload F.1 F.2.1 dX5_numberOf_16 (lv_at hl 0 rfl) ?_
        have hx18 : 0 ≤ i ∧ i < ((936 : Nat) : Int) ∧ i ≤ 2147483647 := ⟨by omega, by omega, by omega⟩
        refine g_bald F hH ht hx18.1 hx18.2.1 hx18.2.2 dX5_numberOf_18 ?_
        refine z_name (fun v_4 ev_4 => ?_)
        have zv_4 : zr v_4 := by rw [ev_4]; exact zr_t _
        refine z_iadd F dX5_numberOf_19 ?_
        refine z_norm (fun v_5 zv_5 ev_5 => ?_)
        refine z_bipush F dX5_numberOf_20 (by decide) ?_
        refine z_isub F dX5_numberOf_22 ?_
        refine z_norm (fun v_6 zv_6 ev_6 => ?_)
        refine lv_istore_n (lv' := [(3, .int (iI v_6)), (4, .int (iI i)), (0, .ref t), (1, .int (iI fr)), (2, .int (iI to_))]) F.1 F.2.1 dX5_numberOf_23 rfl hl (by decide) rfl (fun ls hl => ?_)
        refine z_iinc (lv' := [(4, .int (iI (i + 1))), (3, .int (iI v_6)), (0, .ref t), (1, .int (iI fr)), (2, .int (iI to_))]) F dX5_numberOf_24 hl (k := 1) rfl (by decide) rfl (fun ls hl => ?_)
        refine z_goto (tgt := 5) F dX5_numberOf_27 (by decide) ?_
        exact ih5 v_6 (i + 1) H locs ls zv_6 ⟨by omega, by omega⟩ (by omega) (by omega) hH hS (lv_sub hl [0, 1, 2, 3, 4] rfl)
  exact cut_5_0 (((to_ - fr) + 1 : Int).toNat) 0 fr H locs ls ⟨by decide, by decide⟩ zfr (by omega) (by omega) hH hS (lv_sub hl [0, 1, 2, 3, 4] rfl)

def rmX5_wordsAgree : Room := { frames := 4, cells := 0, slots := 0, locals := 85 }
theorem hdX5_wordsAgree : yX5_wordsAgree.cls = RX5 ∧ yX5_wordsAgree.cls ≠ "java/lang/invoke/MethodHandle" ∧ yX5_wordsAgree.cls ≠ "java/lang/invoke/VarHandle" ∧ (parseMethodDescriptor yX5_wordsAgree.desc).map (fun d => d.parameters.length) = some 4 := by decide +kernel
set_option maxHeartbeats 4000000 in
set_option maxRecDepth 100000 in
/-- two words agree -/
theorem c_X5_wordsAgree (l : Launch) (g : gG)  (I : gI) (R : gR) (J : gJ) (AI : gI) (AJ : gJ) (AR : gR) (sa : Int) (so : Int) (t : Nat) (fr : Int) (zsa : zr sa) (zso : zr so) (zfr : zr fr) (ht : gAr g t 8 936) (h0 : 0 ≤ sa) (h1 : sa ≤ so) (h2 : so ≤ 110) (h3 : 0 ≤ fr) (h4 : fr + (so - sa) ≤ 936) : gMet l g yX5_wordsAgree wsX5_wordsAgree rmX5_wordsAgree [.int (iI sa), .int (iI so), .ref t, .int (iI fr)] (I, R, J, AI, AJ, AR) (gQi g (fun (z : Int) (w : gS) => I = w.1 ∧ R = w.2.1 ∧ J = w.2.2.1 ∧ AI = w.2.2.2.1 ∧ AJ = w.2.2.2.2.1 ∧ AR = w.2.2.2.2.2 ∧ (z = 0 ∨ z = 1))) := by
  refine gStart (cc := cX5_wordsAgree) (maxL := 5) (ret := (some (.boolean))) (by decide) rfl (Nat.le_of_ble_eq_true rfl) ?_
  intro p e s m below meth c ls F hr hlk hH hz hS hl
  have hl : lv_has ls 5 [(0, .int (iI sa)), (1, .int (iI so)), (2, .ref t), (3, .int (iI fr))] := hl
  have hS : va_S (gA g) s.heap s.heap [] := hS
  obtain ⟨H, hHe⟩ : ∃ H : Heap, H = s.heap := ⟨_, rfl⟩
  obtain ⟨locs, hlo⟩ : ∃ k : List Loc, k = [] := ⟨_, rfl⟩
  have hH : gH g I R J AI AJ AR H := by rw [hHe]; exact hH
  have hS : va_S (gA g) s.heap H locs := by rw [hHe, hlo]; exact hS
  suffices hw : W p l e rmX5_wordsAgree s m ([.int (iI sa), .int (iI so), .ref t, .int (iI fr)] : List Value).toArray below meth c H locs 0 0 (MQ below (gQi g (fun (z : Int) (w : gS) => I = w.1 ∧ R = w.2.1 ∧ J = w.2.2.1 ∧ AI = w.2.2.2.1 ∧ AJ = w.2.2.2.2.1 ∧ AR = w.2.2.2.2.2 ∧ (z = 0 ∨ z = 1))) ([.int (iI sa), .int (iI so), .ref t, .int (iI fr)] : List Value).toArray s 0 0 (gA g)) (F0 m 0 ls []) by
    rw [hHe, hlo] at hw; exact hw
  clear hHe hlo
  refine z_iconst F dX5_wordsAgree_0 ?_
  refine lv_istore (lv' := [(4, .int (iI 0)), (0, .int (iI sa)), (1, .int (iI so)), (2, .ref t), (3, .int (iI fr))]) F.1 F.2.1 dX5_wordsAgree_1 hl (by decide) rfl (fun ls hl => ?_)
  have cut_3_0 : ∀ (NN : Nat) (k : Int) (H : Heap) (locs : List Loc) (ls : Array Slot), zr k → (0 ≤ k ∧ k ≤ so - sa) → (so - sa - k) < ((NN : Nat) : Int) → gH g I R J AI AJ AR H → va_S (gA g) s.heap H locs → lv_has ls 5 [(4, .int (iI k)), (0, .int (iI sa)), (1, .int (iI so)), (2, .ref t), (3, .int (iI fr))] → W p l e rmX5_wordsAgree s m ([.int (iI sa), .int (iI so), .ref t, .int (iI fr)] : List Value).toArray below meth c H locs 0 0 (MQ below (gQi g (fun (z : Int) (w : gS) => I = w.1 ∧ R = w.2.1 ∧ J = w.2.2.1 ∧ AI = w.2.2.2.1 ∧ AJ = w.2.2.2.2.1 ∧ AR = w.2.2.2.2.2 ∧ (z = 0 ∨ z = 1))) ([.int (iI sa), .int (iI so), .ref t, .int (iI fr)] : List Value).toArray s 0 0 (gA g)) (F0 m 3 ls []) := by
    intro NN3
    induction NN3 with
    | zero =>
      intro k H locs ls zk hk hm3 hH hS hl
      exact absurd hm3 (by omega)
    | succ NN3 ih3 =>
      intro k H locs ls zk hk hm3 hH hS hl
      refine lv_iload F.1 F.2.1 dX5_wordsAgree_3 (lv_at hl 0 rfl) ?_
      refine lv_iload_n F.1 F.2.1 dX5_wordsAgree_5 rfl (lv_at hl 2 rfl) ?_
      refine lv_iload_n F.1 F.2.1 dX5_wordsAgree_6 rfl (lv_at hl 1 rfl) ?_
      refine z_isub F dX5_wordsAgree_7 ?_
      refine z_icmp_ge (tgt := 37) F dX5_wordsAgree_8 (by decide) zk ⟨by omega, by omega⟩ (fun c_2 => ?_) (fun c_2 => ?_)
      · refine z_iconst F dX5_wordsAgree_37 ?_
        exact g_zret F hr hlk hH hS hz (by omega) ⟨rfl, rfl, rfl, rfl, rfl, rfl, by first | omega | rfl | (dsimp only; omega)⟩ dX5_wordsAgree_38
      · refine va_ldcS F.1 F.2.1 F.2.2.2.1 (F.2.2.2.2.2.2.1 0 _ rfl).1 dX5_wordsAgree_11 ?_
        refine lv_iload_n F.1 F.2.1 dX5_wordsAgree_13 rfl (lv_at hl 1 rfl) ?_
        refine lv_iload F.1 F.2.1 dX5_wordsAgree_14 (lv_at hl 0 rfl) ?_
        refine z_iadd F dX5_wordsAgree_16 ?_
        refine g_calli (g_runVS (As := [.int (iI (sa + k))]) (rest := []) F hl.1 hH hS hz (rfl : sTab[0]? = some _) (c_J0_charAt_5068e l g 0 _ I R J AI AJ AR (sa + k) ⟨by omega, by omega⟩ (rfl : sTab[0]? = some _) (by omega) (by show _ < ((110 : Nat) : Int); omega)) (cwV 1 F.2.2.2.2.1 gX5_wordsAgree_J0_charAt_5068e rfl rfl rfl hdJ0_charAt_5068e ⟨Nat.le_of_ble_eq_true rfl, Nat.le_of_ble_eq_true rfl⟩) rfl rfl (Nat.le_of_ble_eq_true rfl) dX5_wordsAgree_17 ⟨Nat.zero_le _, Nat.zero_le _⟩) hS (fun v_9 I_3 R_4 J_5 AI_6 AJ_7 AR_8 H locs zv_9 hp_10 hH hS => ?_)
        dsimp only at hp_10
        obtain ⟨rfl, rfl, rfl, rfl, rfl, rfl, q_11⟩ := hp_10
        refine lv_aload_n F.1 F.2.1 dX5_wordsAgree_20 rfl (lv_at hl 3 rfl) ?_
        refine lv_iload_n F.1 F.2.1 dX5_wordsAgree_21 rfl (lv_at hl 4 rfl) ?_
        refine lv_iload F.1 F.2.1 dX5_wordsAgree_22 (lv_at hl 0 rfl) ?_
        refine z_iadd F dX5_wordsAgree_24 ?_
        have hx25 : 0 ≤ (fr + k) ∧ (fr + k) < ((936 : Nat) : Int) ∧ (fr + k) ≤ 2147483647 := ⟨by omega, by omega, by omega⟩
        refine g_bald F hH ht hx25.1 hx25.2.1 hx25.2.2 dX5_wordsAgree_25 ?_
        refine z_name (fun v_12 ev_12 => ?_)
        have zv_12 : zr v_12 := by rw [ev_12]; exact zr_t _
        refine z_icmp_eq (tgt := 31) F dX5_wordsAgree_26 (by decide) zv_9 zv_12 (fun c_13 => ?_) (fun c_13 => ?_)
        · refine z_iinc (lv' := [(4, .int (iI (k + 1))), (0, .int (iI sa)), (1, .int (iI so)), (2, .ref t), (3, .int (iI fr))]) F dX5_wordsAgree_31 hl (k := 0) rfl (by decide) rfl (fun ls hl => ?_)
          refine z_goto (tgt := 3) F dX5_wordsAgree_34 (by decide) ?_
          exact ih3 (k + 1) H locs ls ⟨by omega, by omega⟩ (by omega) (by omega) hH hS (lv_sub hl [0, 1, 2, 3, 4] rfl)
        · refine z_iconst F dX5_wordsAgree_29 ?_
          exact g_zret F hr hlk hH hS hz (by omega) ⟨rfl, rfl, rfl, rfl, rfl, rfl, by first | omega | rfl | (dsimp only; omega)⟩ dX5_wordsAgree_30
  exact cut_3_0 (((so - sa - 0) + 1 : Int).toNat) 0 H locs ls ⟨by decide, by decide⟩ (by omega) (by omega) hH hS (lv_sub hl [0, 1, 2, 3, 4] rfl)

def rmX5_wordNumber : Room := { frames := 5, cells := 0, slots := 0, locals := 109 }
theorem hdX5_wordNumber : yX5_wordNumber.cls = RX5 ∧ yX5_wordNumber.cls ≠ "java/lang/invoke/MethodHandle" ∧ yX5_wordNumber.cls ≠ "java/lang/invoke/VarHandle" ∧ (parseMethodDescriptor yX5_wordNumber.desc).map (fun d => d.parameters.length) = some 3 := by decide +kernel
set_option maxHeartbeats 4000000 in
set_option maxRecDepth 100000 in
/-- the number of a word -/
theorem c_X5_wordNumber (l : Launch) (g : gG)  (I : gI) (R : gR) (J : gJ) (AI : gI) (AJ : gJ) (AR : gR) (t : Nat) (fr : Int) (to_ : Int) (zfr : zr fr) (zto_ : zr to_) (ht : gAr g t 8 936) (h0 : 0 ≤ fr) (h1 : fr ≤ to_) (h2 : to_ ≤ 936) : gMet l g yX5_wordNumber wsX5_wordNumber rmX5_wordNumber [.ref t, .int (iI fr), .int (iI to_)] (I, R, J, AI, AJ, AR) (gQi g (fun (z : Int) (w : gS) => I = w.1 ∧ R = w.2.1 ∧ J = w.2.2.1 ∧ AI = w.2.2.2.1 ∧ AJ = w.2.2.2.2.1 ∧ AR = w.2.2.2.2.2 ∧ (-1 ≤ z ∧ z ≤ 200))) := by
  refine gStart (cc := cX5_wordNumber) (maxL := 6) (ret := (some (.int))) (by decide) rfl (Nat.le_of_ble_eq_true rfl) ?_
  intro p e s m below meth c ls F hr hlk hH hz hS hl
  have hl : lv_has ls 6 [(0, .ref t), (1, .int (iI fr)), (2, .int (iI to_))] := hl
  have hS : va_S (gA g) s.heap s.heap [] := hS
  obtain ⟨H, hHe⟩ : ∃ H : Heap, H = s.heap := ⟨_, rfl⟩
  obtain ⟨locs, hlo⟩ : ∃ k : List Loc, k = [] := ⟨_, rfl⟩
  have hH : gH g I R J AI AJ AR H := by rw [hHe]; exact hH
  have hS : va_S (gA g) s.heap H locs := by rw [hHe, hlo]; exact hS
  suffices hw : W p l e rmX5_wordNumber s m ([.ref t, .int (iI fr), .int (iI to_)] : List Value).toArray below meth c H locs 0 0 (MQ below (gQi g (fun (z : Int) (w : gS) => I = w.1 ∧ R = w.2.1 ∧ J = w.2.2.1 ∧ AI = w.2.2.2.1 ∧ AJ = w.2.2.2.2.1 ∧ AR = w.2.2.2.2.2 ∧ (-1 ≤ z ∧ z ≤ 200))) ([.ref t, .int (iI fr), .int (iI to_)] : List Value).toArray s 0 0 (gA g)) (F0 m 0 ls []) by
    rw [hHe, hlo] at hw; exact hw
  clear hHe hlo
  refine z_iconst F dX5_wordNumber_0 ?_
  refine lv_istore_n (lv' := [(3, .int (iI 0)), (0, .ref t), (1, .int (iI fr)), (2, .int (iI to_))]) F.1 F.2.1 dX5_wordNumber_1 rfl hl (by decide) rfl (fun ls hl => ?_)
  refine z_iconst F dX5_wordNumber_2 ?_
  refine lv_istore (lv' := [(4, .int (iI 0)), (3, .int (iI 0)), (0, .ref t), (1, .int (iI fr)), (2, .int (iI to_))]) F.1 F.2.1 dX5_wordNumber_3 hl (by decide) rfl (fun ls hl => ?_)
  refine z_iconst F dX5_wordNumber_5 ?_
  refine lv_istore (lv' := [(5, .int (iI 0)), (4, .int (iI 0)), (3, .int (iI 0)), (0, .ref t), (1, .int (iI fr)), (2, .int (iI to_))]) F.1 F.2.1 dX5_wordNumber_6 hl (by decide) rfl (fun ls hl => ?_)
  have cut_8_0 : ∀ (NN : Nat) (nb sa i : Int) (H : Heap) (locs : List Loc) (ls : Array Slot), zr nb → zr sa → zr i → (0 ≤ i ∧ i ≤ 110 ∧ 0 ≤ sa ∧ sa ≤ i ∧ 0 ≤ nb ∧ nb ≤ i) → (110 - i) < ((NN : Nat) : Int) → gH g I R J AI AJ AR H → va_S (gA g) s.heap H locs → lv_has ls 6 [(5, .int (iI i)), (4, .int (iI sa)), (3, .int (iI nb)), (0, .ref t), (1, .int (iI fr)), (2, .int (iI to_))] → W p l e rmX5_wordNumber s m ([.ref t, .int (iI fr), .int (iI to_)] : List Value).toArray below meth c H locs 0 0 (MQ below (gQi g (fun (z : Int) (w : gS) => I = w.1 ∧ R = w.2.1 ∧ J = w.2.2.1 ∧ AI = w.2.2.2.1 ∧ AJ = w.2.2.2.2.1 ∧ AR = w.2.2.2.2.2 ∧ (-1 ≤ z ∧ z ≤ 200))) ([.ref t, .int (iI fr), .int (iI to_)] : List Value).toArray s 0 0 (gA g)) (F0 m 8 ls []) := by
    intro NN8
    induction NN8 with
    | zero =>
      intro nb sa i H locs ls znb zsa zi hi hm8 hH hS hl
      exact absurd hm8 (by omega)
    | succ NN8 ih8 =>
      intro nb sa i H locs ls znb zsa zi hi hm8 hH hS hl
      refine lv_iload F.1 F.2.1 dX5_wordNumber_8 (lv_at hl 0 rfl) ?_
      refine va_ldcS F.1 F.2.1 F.2.2.2.1 (F.2.2.2.2.2.2.1 0 _ rfl).1 dX5_wordNumber_10 ?_
      refine g_calli (g_runVS (As := []) (rest := [.int (iI i)]) F hl.1 hH hS hz (rfl : sTab[0]? = some _) (c_J0_length_8abf5 l g 0 _ I R J AI AJ AR  (rfl : sTab[0]? = some _)) (cwV 0 F.2.2.2.2.1 gX5_wordNumber_J0_length_8abf5 rfl rfl rfl hdJ0_length_8abf5 ⟨Nat.le_of_ble_eq_true rfl, Nat.le_of_ble_eq_true rfl⟩) rfl rfl (Nat.le_of_ble_eq_true rfl) dX5_wordNumber_12 ⟨Nat.zero_le _, Nat.zero_le _⟩) hS (fun v_8 I_2 R_3 J_4 AI_5 AJ_6 AR_7 H locs zv_8 hp_9 hH hS => ?_)
      dsimp only at hp_9
      obtain ⟨rfl, rfl, rfl, rfl, rfl, rfl, q12⟩ := hp_9
      have hwl : v_8 = 110 := q12
      refine z_icmp_ge (tgt := 70) F dX5_wordNumber_15 (by decide) zi zv_8 (fun c_10 => ?_) (fun c_10 => ?_)
      · refine z_iconst F dX5_wordNumber_70 ?_
        exact g_iret F hr hlk hH hS hz ⟨by decide, by decide⟩ ⟨rfl, rfl, rfl, rfl, rfl, rfl, by first | omega | rfl | (dsimp only; omega)⟩ dX5_wordNumber_71
      · refine va_ldcS F.1 F.2.1 F.2.2.2.1 (F.2.2.2.2.2.2.1 0 _ rfl).1 dX5_wordNumber_18 ?_
        refine lv_iload F.1 F.2.1 dX5_wordNumber_20 (lv_at hl 0 rfl) ?_
        refine g_calli (g_runVS (As := [.int (iI i)]) (rest := []) F hl.1 hH hS hz (rfl : sTab[0]? = some _) (c_J0_charAt_5068e l g 0 _ I R J AI AJ AR i zi (rfl : sTab[0]? = some _) (by omega) (by show _ < ((110 : Nat) : Int); omega)) (cwV 1 F.2.2.2.2.1 gX5_wordNumber_J0_charAt_5068e rfl rfl rfl hdJ0_charAt_5068e ⟨Nat.le_of_ble_eq_true rfl, Nat.le_of_ble_eq_true rfl⟩) rfl rfl (Nat.le_of_ble_eq_true rfl) dX5_wordNumber_22 ⟨Nat.zero_le _, Nat.zero_le _⟩) hS (fun v_17 I_11 R_12 J_13 AI_14 AJ_15 AR_16 H locs zv_17 hp_18 hH hS => ?_)
        dsimp only at hp_18
        obtain ⟨rfl, rfl, rfl, rfl, rfl, rfl, q_19⟩ := hp_18
        refine z_bipush F dX5_wordNumber_25 (by decide) ?_
        refine z_icmp_ne (tgt := 64) F dX5_wordNumber_27 (by decide) zv_17 ⟨by decide, by decide⟩ (fun c_20 => ?_) (fun c_20 => ?_)
        · refine z_iinc (lv' := [(5, .int (iI (i + 1))), (4, .int (iI sa)), (3, .int (iI nb)), (0, .ref t), (1, .int (iI fr)), (2, .int (iI to_))]) F dX5_wordNumber_64 hl (k := 0) rfl (by decide) rfl (fun ls hl => ?_)
          refine z_goto (tgt := 8) F dX5_wordNumber_67 (by decide) ?_
          exact ih8 nb sa (i + 1) H locs ls znb zsa ⟨by omega, by omega⟩ (by omega) (by omega) hH hS (lv_sub hl [0, 1, 2, 3, 4, 5] rfl)
        · refine lv_iload F.1 F.2.1 dX5_wordNumber_30 (lv_at hl 0 rfl) ?_
          refine lv_iload F.1 F.2.1 dX5_wordNumber_32 (lv_at hl 1 rfl) ?_
          refine z_isub F dX5_wordNumber_34 ?_
          refine lv_iload_n F.1 F.2.1 dX5_wordNumber_35 rfl (lv_at hl 5 rfl) ?_
          refine lv_iload_n F.1 F.2.1 dX5_wordNumber_36 rfl (lv_at hl 4 rfl) ?_
          refine z_isub F dX5_wordNumber_37 ?_
          refine z_icmp_ne (tgt := 55) F dX5_wordNumber_38 (by decide) ⟨by omega, by omega⟩ ⟨by omega, by omega⟩ (fun c_21 => ?_) (fun c_21 => ?_)
          · refine z_iinc (lv' := [(3, .int (iI (nb + 1))), (5, .int (iI i)), (4, .int (iI sa)), (0, .ref t), (1, .int (iI fr)), (2, .int (iI to_))]) F dX5_wordNumber_55 hl (k := 2) rfl (by decide) rfl (fun ls hl => ?_)
            refine lv_iload F.1 F.2.1 dX5_wordNumber_58 (lv_at hl 1 rfl) ?_
            refine z_iconst F dX5_wordNumber_60 ?_
            refine z_iadd F dX5_wordNumber_61 ?_
            refine lv_istore (lv' := [(4, .int (iI (i + 1))), (3, .int (iI (nb + 1))), (5, .int (iI i)), (0, .ref t), (1, .int (iI fr)), (2, .int (iI to_))]) F.1 F.2.1 dX5_wordNumber_62 hl (by decide) rfl (fun ls hl => ?_)
            refine z_iinc (lv' := [(5, .int (iI (i + 1))), (4, .int (iI (i + 1))), (3, .int (iI (nb + 1))), (0, .ref t), (1, .int (iI fr)), (2, .int (iI to_))]) F dX5_wordNumber_64 hl (k := 2) rfl (by decide) rfl (fun ls hl => ?_)
            refine z_goto (tgt := 8) F dX5_wordNumber_67 (by decide) ?_
            exact ih8 (nb + 1) (i + 1) (i + 1) H locs ls ⟨by omega, by omega⟩ ⟨by omega, by omega⟩ ⟨by omega, by omega⟩ (by omega) (by omega) hH hS (lv_sub hl [0, 1, 2, 3, 4, 5] rfl)
          · refine lv_iload F.1 F.2.1 dX5_wordNumber_41 (lv_at hl 1 rfl) ?_
            refine lv_iload F.1 F.2.1 dX5_wordNumber_43 (lv_at hl 0 rfl) ?_
            refine lv_aload_n F.1 F.2.1 dX5_wordNumber_45 rfl (lv_at hl 3 rfl) ?_
            refine lv_iload_n F.1 F.2.1 dX5_wordNumber_46 rfl (lv_at hl 4 rfl) ?_
            refine g_calli (g_runS (As := [.int (iI sa), .int (iI i), .ref t, .int (iI fr)]) (rest := []) F hl.1 hH hS hz (c_X5_wordsAgree l g  I R J AI AJ AR sa i t fr zsa zi zfr ht (by omega) (by omega) (by omega) (by omega) (by omega)) (va_cwS 4 F.2.2.2.2.1 gX5_wordNumber_X5_wordsAgree rfl rfl rfl hdX5_wordsAgree.2 ⟨Nat.le_of_ble_eq_true rfl, Nat.le_of_ble_eq_true rfl⟩) rfl rfl (Nat.le_of_ble_eq_true rfl) dX5_wordNumber_47 ⟨Nat.zero_le _, Nat.zero_le _⟩) hS (fun v_28 I_22 R_23 J_24 AI_25 AJ_26 AR_27 H locs zv_28 hp_29 hH hS => ?_)
            dsimp only at hp_29
            obtain ⟨rfl, rfl, rfl, rfl, rfl, rfl, q_30⟩ := hp_29
            refine z_if_eq (tgt := 55) F dX5_wordNumber_50 (by decide) zv_28 (fun c_31 => ?_) (fun c_31 => ?_)
            · refine z_iinc (lv' := [(3, .int (iI (nb + 1))), (5, .int (iI i)), (4, .int (iI sa)), (0, .ref t), (1, .int (iI fr)), (2, .int (iI to_))]) F dX5_wordNumber_55 hl (k := 2) rfl (by decide) rfl (fun ls hl => ?_)
              refine lv_iload F.1 F.2.1 dX5_wordNumber_58 (lv_at hl 1 rfl) ?_
              refine z_iconst F dX5_wordNumber_60 ?_
              refine z_iadd F dX5_wordNumber_61 ?_
              refine lv_istore (lv' := [(4, .int (iI (i + 1))), (3, .int (iI (nb + 1))), (5, .int (iI i)), (0, .ref t), (1, .int (iI fr)), (2, .int (iI to_))]) F.1 F.2.1 dX5_wordNumber_62 hl (by decide) rfl (fun ls hl => ?_)
              refine z_iinc (lv' := [(5, .int (iI (i + 1))), (4, .int (iI (i + 1))), (3, .int (iI (nb + 1))), (0, .ref t), (1, .int (iI fr)), (2, .int (iI to_))]) F dX5_wordNumber_64 hl (k := 2) rfl (by decide) rfl (fun ls hl => ?_)
              refine z_goto (tgt := 8) F dX5_wordNumber_67 (by decide) ?_
              exact ih8 (nb + 1) (i + 1) (i + 1) H locs ls ⟨by omega, by omega⟩ ⟨by omega, by omega⟩ ⟨by omega, by omega⟩ (by omega) (by omega) hH hS (lv_sub hl [0, 1, 2, 3, 4, 5] rfl)
            · refine lv_iload_n F.1 F.2.1 dX5_wordNumber_53 rfl (lv_at hl 2 rfl) ?_
              exact g_iret F hr hlk hH hS hz znb ⟨rfl, rfl, rfl, rfl, rfl, rfl, by first | omega | rfl | (dsimp only; omega)⟩ dX5_wordNumber_54
  exact cut_8_0 (((110 - 0) + 1 : Int).toNat) 0 0 0 H locs ls ⟨by decide, by decide⟩ ⟨by decide, by decide⟩ ⟨by decide, by decide⟩ (by omega) (by omega) hH hS (lv_sub hl [0, 1, 2, 3, 4, 5] rfl)

def rmX5_addToken : Room := { frames := 0, cells := 0, slots := 0, locals := 0 }
theorem hdX5_addToken : yX5_addToken.cls = RX5 ∧ yX5_addToken.cls ≠ "java/lang/invoke/MethodHandle" ∧ yX5_addToken.cls ≠ "java/lang/invoke/VarHandle" ∧ (parseMethodDescriptor yX5_addToken.desc).map (fun d => d.parameters.length) = some 4 := by decide +kernel
set_option maxHeartbeats 4000000 in
set_option maxRecDepth 100000 in
/-- one token more -/
theorem c_X5_addToken (l : Launch) (g : gG) (gh : gGh) (I : gI) (R : gR) (J : gJ) (AI : gI) (AJ : gJ) (AR : gR) (a : Nat) (kd : Int) (pl : Int) (val : Int) (nm : Int64) (zkd : zr kd) (zpl : zr pl) (zval : zr val) (hv : gInv g gh R AR I AI) (h5 : gO g a 5) (h0 : (I a 4).toInt ≤ 900) (hc : kd = 2 → 0 ≤ val ∧ val ≤ 3) : gMet l g yX5_addToken wsX5_addToken rmX5_addToken [.ref a, .int (iI kd), .int (iI pl), .int (iI val), .long nm] (I, R, J, AI, AJ, AR) (gQv g (fun w : gS => R = w.2.1 ∧ J = w.2.2.1 ∧ AR = w.2.2.2.2.2 ∧ (gInv g gh R AR (w.1) (w.2.2.2.1)) ∧ (∀ b, b ≠ a → (w.1) b = I b) ∧ (((w.1) a 4).toInt = (I a 4).toInt + 1))) := by
  refine gStart (cc := cX5_addToken) (maxL := 6) (ret := none) (by decide) rfl (Nat.le_of_ble_eq_true rfl) ?_
  intro p e s m below meth c ls F hr hlk hH hz hS hl
  have hl : lv_has ls 6 [(0, .ref a), (1, .int (iI kd)), (2, .int (iI pl)), (3, .int (iI val)), (4, .long nm)] := hl
  have hS : va_S (gA g) s.heap s.heap [] := hS
  obtain ⟨H, hHe⟩ : ∃ H : Heap, H = s.heap := ⟨_, rfl⟩
  obtain ⟨locs, hlo⟩ : ∃ k : List Loc, k = [] := ⟨_, rfl⟩
  have hH : gH g I R J AI AJ AR H := by rw [hHe]; exact hH
  have hS : va_S (gA g) s.heap H locs := by rw [hHe, hlo]; exact hS
  suffices hw : W p l e rmX5_addToken s m ([.ref a, .int (iI kd), .int (iI pl), .int (iI val), .long nm] : List Value).toArray below meth c H locs 0 0 (MQ below (gQv g (fun w : gS => R = w.2.1 ∧ J = w.2.2.1 ∧ AR = w.2.2.2.2.2 ∧ (gInv g gh R AR (w.1) (w.2.2.2.1)) ∧ (∀ b, b ≠ a → (w.1) b = I b) ∧ (((w.1) a 4).toInt = (I a 4).toInt + 1))) ([.ref a, .int (iI kd), .int (iI pl), .int (iI val), .long nm] : List Value).toArray s 0 0 (gA g)) (F0 m 0 ls []) by
    rw [hHe, hlo] at hw; exact hw
  clear hHe hlo
  have iX5 : ∀ w ∈ u_ws RX5 TX5 5, w ∈ wsX5_addToken := (by decide +kernel)
  have k9 : Cond.fieldLink RX5 9 (TX5 0).1 (TX5 0).2.1 (TX5 0).2.2.1 ∈ wsX5_addToken := List.mem_of_getElem? (i := 1) rfl
  have k25 : Cond.fieldLink RX5 25 (TX5 4).1 (TX5 4).2.1 (TX5 4).2.2.1 ∈ wsX5_addToken := List.mem_of_getElem? (i := 2) rfl
  have k15 : Cond.fieldLink RX5 15 (TX5 1).1 (TX5 1).2.1 (TX5 1).2.2.1 ∈ wsX5_addToken := List.mem_of_getElem? (i := 3) rfl
  have k18 : Cond.fieldLink RX5 18 (TX5 2).1 (TX5 2).2.1 (TX5 2).2.2.1 ∈ wsX5_addToken := List.mem_of_getElem? (i := 4) rfl
  have k21 : Cond.fieldLink RX5 21 (TX5 3).1 (TX5 3).2.1 (TX5 3).2.2.1 ∈ wsX5_addToken := List.mem_of_getElem? (i := 5) rfl
  refine lv_aload_n F.1 F.2.1 dX5_addToken_0 rfl (lv_at hl 0 rfl) ?_
  obtain ⟨r_1a, r_1b⟩ := gR_tk0 hv h5
  refine g_getR (ci := 5) (k := 0) F hH rfl (by decide) iX5 h5 (by decide) rfl (b := gh 24 0) r_1a k9 dX5_addToken_1 ?_
  refine lv_aload_n F.1 F.2.1 dX5_addToken_4 rfl (lv_at hl 0 rfl) ?_
  refine g_getI (ci := 5) (k := 4) F hH rfl (by decide) iX5 h5 (by decide) rfl k25 dX5_addToken_5 ?_
  have b_2 := gI_tk hv h5
  refine lv_iload_n F.1 F.2.1 dX5_addToken_8 rfl (lv_at hl 1 rfl) ?_
  have hx9 : 0 ≤ ((I a 4).toInt) ∧ ((I a 4).toInt) < ((901 : Nat) : Int) ∧ ((I a 4).toInt) ≤ 2147483647 := ⟨by omega, by omega, by omega⟩
  refine g_iast F hH hS r_1b hx9.1 hx9.2.1 hx9.2.2 dX5_addToken_9 (fun H locs hH hS => ?_)
  obtain ⟨AI_3, eAI_3⟩ : ∃ qQ, qQ = gup2 AI (gh 24 0) (((I a 4).toInt)).toNat (iI (kd)) := ⟨_, rfl⟩
  rw [← eAI_3] at hH
  have kAI_3 : ∀ b, b ≠ (gh 24 0) → AI_3 b = AI b := fun b hb => by rw [eAI_3]; exact funext fun j => gup2_a _ _ hb
  have hv : gInv g gh R AR I AI_3 := gInv_tokW hv h5 (Or.inl ⟨(hv.2.2.2.2.2.2.1 a h5).1.2.2.2, rfl⟩) kAI_3 rfl (fun j hj => by rw [eAI_3]; exact gup2_k _ _ hj)
  have fk : (AI_3 (gh 24 0) (I a 4).toInt.toNat).toInt = kd := by rw [eAI_3, gup2_e _ _ rfl]; exact iI_val zkd
  refine lv_aload_n F.1 F.2.1 dX5_addToken_10 rfl (lv_at hl 0 rfl) ?_
  obtain ⟨r_5a, r_5b⟩ := gR_tk1 hv h5
  refine g_getR (ci := 5) (k := 1) F hH rfl (by decide) iX5 h5 (by decide) rfl (b := gh 25 0) r_5a k15 dX5_addToken_11 ?_
  refine lv_aload_n F.1 F.2.1 dX5_addToken_14 rfl (lv_at hl 0 rfl) ?_
  refine g_getI (ci := 5) (k := 4) F hH rfl (by decide) iX5 h5 (by decide) rfl k25 dX5_addToken_15 ?_
  refine lv_iload_n F.1 F.2.1 dX5_addToken_18 rfl (lv_at hl 2 rfl) ?_
  have hx19 : 0 ≤ ((I a 4).toInt) ∧ ((I a 4).toInt) < ((901 : Nat) : Int) ∧ ((I a 4).toInt) ≤ 2147483647 := ⟨by omega, by omega, by omega⟩
  refine g_iast F hH hS r_5b hx19.1 hx19.2.1 hx19.2.2 dX5_addToken_19 (fun H locs hH hS => ?_)
  obtain ⟨AI_6, eAI_6⟩ : ∃ qQ, qQ = gup2 AI_3 (gh 25 0) (((I a 4).toInt)).toNat (iI (pl)) := ⟨_, rfl⟩
  rw [← eAI_6] at hH
  have kAI_6 : ∀ b, b ≠ (gh 25 0) → AI_6 b = AI_3 b := fun b hb => by rw [eAI_6]; exact funext fun j => gup2_a _ _ hb
  have hv : gInv g gh R AR I AI_6 := gInv_plain hv (hv.2.2.2.2.2.2.1 a h5).2.1.2.2 kAI_6
  have fk : (AI_6 (gh 24 0) (I a 4).toInt.toNat).toInt = kd := by rw [kAI_6 _ (fun q => by have h3 := (hv.2.2.2.2.2.2.1 a h5).1.2.2.2; rw [q, (hv.2.2.2.2.2.2.1 a h5).2.1.2.2] at h3; exact absurd h3 (by decide))]; exact fk
  refine lv_aload_n F.1 F.2.1 dX5_addToken_20 rfl (lv_at hl 0 rfl) ?_
  obtain ⟨r_8a, r_8b⟩ := gR_tk2 hv h5
  refine g_getR (ci := 5) (k := 2) F hH rfl (by decide) iX5 h5 (by decide) rfl (b := gh 26 0) r_8a k18 dX5_addToken_21 ?_
  refine lv_aload_n F.1 F.2.1 dX5_addToken_24 rfl (lv_at hl 0 rfl) ?_
  refine g_getI (ci := 5) (k := 4) F hH rfl (by decide) iX5 h5 (by decide) rfl k25 dX5_addToken_25 ?_
  refine lv_iload_n F.1 F.2.1 dX5_addToken_28 rfl (lv_at hl 3 rfl) ?_
  have hx29 : 0 ≤ ((I a 4).toInt) ∧ ((I a 4).toInt) < ((901 : Nat) : Int) ∧ ((I a 4).toInt) ≤ 2147483647 := ⟨by omega, by omega, by omega⟩
  refine g_iast F hH hS r_8b hx29.1 hx29.2.1 hx29.2.2 dX5_addToken_29 (fun H locs hH hS => ?_)
  obtain ⟨AI_9, eAI_9⟩ : ∃ qQ, qQ = gup2 AI_6 (gh 26 0) (((I a 4).toInt)).toNat (iI (val)) := ⟨_, rfl⟩
  rw [← eAI_9] at hH
  have kAI_9 : ∀ b, b ≠ (gh 26 0) → AI_9 b = AI_6 b := fun b hb => by rw [eAI_9]; exact funext fun j => gup2_a _ _ hb
  have hv : gInv g gh R AR I AI_9 := gInv_tokW hv h5 (Or.inr ⟨(hv.2.2.2.2.2.2.1 a h5).2.2.1.2.2, rfl⟩) kAI_9 rfl (fun j hj => by rw [eAI_9]; exact gup2_k _ _ hj)
  have fk : (AI_9 (gh 24 0) (I a 4).toInt.toNat).toInt = kd := by rw [kAI_9 _ (fun q => by have h3 := (hv.2.2.2.2.2.2.1 a h5).1.2.2.2; rw [q, (hv.2.2.2.2.2.2.1 a h5).2.2.1.2.2] at h3; exact absurd h3 (by decide))]; exact fk
  have fv : (AI_9 (gh 26 0) (I a 4).toInt.toNat).toInt = val := by rw [eAI_9, gup2_e _ _ rfl]; exact iI_val zval
  refine lv_aload_n F.1 F.2.1 dX5_addToken_30 rfl (lv_at hl 0 rfl) ?_
  obtain ⟨r_11a, r_11b⟩ := gR_tk3 hv h5
  refine g_getR (ci := 5) (k := 3) F hH rfl (by decide) iX5 h5 (by decide) rfl (b := gh 27 0) r_11a k21 dX5_addToken_31 ?_
  refine lv_aload_n F.1 F.2.1 dX5_addToken_34 rfl (lv_at hl 0 rfl) ?_
  refine g_getI (ci := 5) (k := 4) F hH rfl (by decide) iX5 h5 (by decide) rfl k25 dX5_addToken_35 ?_
  refine lv_lload F.1 F.2.1 dX5_addToken_38 (lv_at hl 4 rfl) ?_
  have hx40 : 0 ≤ ((I a 4).toInt) ∧ ((I a 4).toInt) < ((901 : Nat) : Int) ∧ ((I a 4).toInt) ≤ 2147483647 := ⟨by omega, by omega, by omega⟩
  refine g_last F hH hS r_11b hx40.1 hx40.2.1 hx40.2.2 dX5_addToken_40 (fun H locs hH hS => ?_)
  obtain ⟨AJ_12, eAJ_12⟩ : ∃ qQ, qQ = gup2 AJ (gh 27 0) (((I a 4).toInt)).toNat (nm) := ⟨_, rfl⟩
  rw [← eAJ_12] at hH
  have kAJ_12 : ∀ b, b ≠ (gh 27 0) → AJ_12 b = AJ b := fun b hb => by rw [eAJ_12]; exact funext fun j => gup2_a _ _ hb
  refine lv_aload_n F.1 F.2.1 dX5_addToken_41 rfl (lv_at hl 0 rfl) ?_
  refine lv_dup F.1 F.2.1 dX5_addToken_42 rfl ?_
  refine g_getI (ci := 5) (k := 4) F hH rfl (by decide) iX5 h5 (by decide) rfl k25 dX5_addToken_43 ?_
  refine z_iconst F dX5_addToken_46 ?_
  refine z_iadd F dX5_addToken_47 ?_
  refine g_putI (ci := 5) (k := 4) F hH hS rfl (by decide) iX5 h5 (by decide) tyX5 tyX5_ok nmX5 rfl rfl rfl k25 dX5_addToken_48 (fun H locs hH hS => ?_)
  obtain ⟨I_13, eI_13⟩ : ∃ qQ, qQ = gup2 I a 4 (iI (((I a 4).toInt) + 1)) := ⟨_, rfl⟩
  rw [← eI_13] at hH
  have kI_13 : ∀ b, b ≠ a → I_13 b = I b := fun b hb => by rw [eI_13]; exact funext fun j => gup2_a _ _ hb
  have e4 : (I_13 a 4).toInt = (I a 4).toInt + 1 := by rw [eI_13, gup2_s]; exact iI_val ⟨by omega, by omega⟩
  have hv : gInv g gh R AR I_13 AI_9 := by
    rw [eI_13]
    refine gInv_tokLen hv h5 (by omega) (by omega) (fun j hj hk => ?_)
    by_cases hq : (j : Int) < (I a 4).toInt
    · exact (hv.2.2.2.2.2.2.1 a h5).2.2.2.2.2 j hq hk
    · have ej : j = (I a 4).toInt.toNat := by omega
      rw [ej] at hk ⊢; rw [fk] at hk; rw [fv]; exact hc hk
  exact g_vret F hr hlk hH hS hz ⟨rfl, rfl, rfl, hv, fun b hb => kI_13 b hb, e4⟩ dX5_addToken_51

def rmX5_readRun : Room := { frames := 6, cells := 0, slots := 0, locals := 134 }
theorem hdX5_readRun : yX5_readRun.cls = RX5 ∧ yX5_readRun.cls ≠ "java/lang/invoke/MethodHandle" ∧ yX5_readRun.cls ≠ "java/lang/invoke/VarHandle" ∧ (parseMethodDescriptor yX5_readRun.desc).map (fun d => d.parameters.length) = some 3 := by decide +kernel
set_option maxHeartbeats 4000000 in
set_option maxRecDepth 100000 in
/-- a run of letters and digits -/
theorem c_X5_readRun (l : Launch) (g : gG) (gh : gGh) (I : gI) (R : gR) (J : gJ) (AI : gI) (AJ : gJ) (AR : gR) (a : Nat) (t : Nat) (fr : Int) (to_ : Int) (zfr : zr fr) (zto_ : zr to_) (hv : gInv g gh R AR I AI) (h5 : gO g a 5) (hl9 : (I a 4).toInt ≤ 900) (ht : gAr g t 8 936) (h0 : 0 ≤ fr) (h1 : fr ≤ to_) (h2 : to_ ≤ 936) (h6 : fr < to_) : gMet l g yX5_readRun wsX5_readRun rmX5_readRun [.ref a, .ref t, .int (iI fr), .int (iI to_)] (I, R, J, AI, AJ, AR) (gQv g (fun w : gS => R = w.2.1 ∧ J = w.2.2.1 ∧ AR = w.2.2.2.2.2 ∧ (gInv g gh R AR (w.1) (w.2.2.2.1)) ∧ (∀ b, b ≠ a → (w.1) b = I b) ∧ (((w.1) a 4).toInt = (I a 4).toInt + 1))) := by
  refine gStart (cc := cX5_readRun) (maxL := 6) (ret := none) (by decide) rfl (Nat.le_of_ble_eq_true rfl) ?_
  intro p e s m below meth c ls F hr hlk hH hz hS hl
  have hl : lv_has ls 6 [(0, .ref a), (1, .ref t), (2, .int (iI fr)), (3, .int (iI to_))] := hl
  have hS : va_S (gA g) s.heap s.heap [] := hS
  obtain ⟨H, hHe⟩ : ∃ H : Heap, H = s.heap := ⟨_, rfl⟩
  obtain ⟨locs, hlo⟩ : ∃ k : List Loc, k = [] := ⟨_, rfl⟩
  have hH : gH g I R J AI AJ AR H := by rw [hHe]; exact hH
  have hS : va_S (gA g) s.heap H locs := by rw [hHe, hlo]; exact hS
  suffices hw : W p l e rmX5_readRun s m ([.ref a, .ref t, .int (iI fr), .int (iI to_)] : List Value).toArray below meth c H locs 0 0 (MQ below (gQv g (fun w : gS => R = w.2.1 ∧ J = w.2.2.1 ∧ AR = w.2.2.2.2.2 ∧ (gInv g gh R AR (w.1) (w.2.2.2.1)) ∧ (∀ b, b ≠ a → (w.1) b = I b) ∧ (((w.1) a 4).toInt = (I a 4).toInt + 1))) ([.ref a, .ref t, .int (iI fr), .int (iI to_)] : List Value).toArray s 0 0 (gA g)) (F0 m 0 ls []) by
    rw [hHe, hlo] at hw; exact hw
  clear hHe hlo
  refine z_iconst F dX5_readRun_0 ?_
  refine lv_istore (lv' := [(4, .int (iI 0)), (0, .ref a), (1, .ref t), (2, .int (iI fr)), (3, .int (iI to_))]) F.1 F.2.1 dX5_readRun_1 hl (by decide) rfl (fun ls hl => ?_)
  refine lv_iload_n F.1 F.2.1 dX5_readRun_3 rfl (lv_at hl 3 rfl) ?_
  refine lv_istore (lv' := [(5, .int (iI fr)), (4, .int (iI 0)), (0, .ref a), (1, .ref t), (2, .int (iI fr)), (3, .int (iI to_))]) F.1 F.2.1 dX5_readRun_4 hl (by decide) rfl (fun ls hl => ?_)
  have cut_6_0 : ∀ (NN : Nat) (dg i : Int) (H : Heap) (locs : List Loc) (ls : Array Slot), zr dg → zr i → (fr ≤ i ∧ i ≤ to_ ∧ 0 ≤ dg ∧ dg ≤ i - fr) → (to_ - i) < ((NN : Nat) : Int) → gH g I R J AI AJ AR H → va_S (gA g) s.heap H locs → lv_has ls 6 [(5, .int (iI i)), (4, .int (iI dg)), (0, .ref a), (1, .ref t), (2, .int (iI fr)), (3, .int (iI to_))] → W p l e rmX5_readRun s m ([.ref a, .ref t, .int (iI fr), .int (iI to_)] : List Value).toArray below meth c H locs 0 0 (MQ below (gQv g (fun w : gS => R = w.2.1 ∧ J = w.2.2.1 ∧ AR = w.2.2.2.2.2 ∧ (gInv g gh R AR (w.1) (w.2.2.2.1)) ∧ (∀ b, b ≠ a → (w.1) b = I b) ∧ (((w.1) a 4).toInt = (I a 4).toInt + 1))) ([.ref a, .ref t, .int (iI fr), .int (iI to_)] : List Value).toArray s 0 0 (gA g)) (F0 m 6 ls []) := by
    intro NN6
    induction NN6 with
    | zero =>
      intro dg i H locs ls zdg zi hi hm6 hH hS hl
      exact absurd hm6 (by omega)
    | succ NN6 ih6 =>
      intro dg i H locs ls zdg zi hi hm6 hH hS hl
      refine lv_iload F.1 F.2.1 dX5_readRun_6 (lv_at hl 0 rfl) ?_
      refine lv_iload_n F.1 F.2.1 dX5_readRun_8 rfl (lv_at hl 5 rfl) ?_
      refine z_icmp_ge (tgt := 38) F dX5_readRun_9 (by decide) zi zto_ (fun c_2 => ?_) (fun c_2 => ?_)
      · refine lv_iload_n F.1 F.2.1 dX5_readRun_38 rfl (lv_at hl 5 rfl) ?_
        refine lv_iload_n F.1 F.2.1 dX5_readRun_39 rfl (lv_at hl 4 rfl) ?_
        refine z_isub F dX5_readRun_40 ?_
        refine lv_istore (lv' := [(5, .int (iI (to_ - fr))), (4, .int (iI dg)), (0, .ref a), (1, .ref t), (2, .int (iI fr)), (3, .int (iI to_))]) F.1 F.2.1 dX5_readRun_41 hl (by decide) rfl (fun ls hl => ?_)
        refine lv_iload F.1 F.2.1 dX5_readRun_43 (lv_at hl 1 rfl) ?_
        refine z_if_ne (tgt := 76) F dX5_readRun_45 (by decide) zdg (fun c_3 => ?_) (fun c_3 => ?_)
        · refine lv_iload F.1 F.2.1 dX5_readRun_76 (lv_at hl 1 rfl) ?_
          refine lv_iload F.1 F.2.1 dX5_readRun_78 (lv_at hl 0 rfl) ?_
          refine z_icmp_ne (tgt := 105) F dX5_readRun_80 (by decide) zdg ⟨by omega, by omega⟩ (fun c_4 => ?_) (fun c_4 => ?_)
          · refine lv_iload F.1 F.2.1 dX5_readRun_105 (lv_at hl 0 rfl) ?_
            refine z_iconst F dX5_readRun_107 ?_
            refine z_icmp_ne (tgt := 157) F dX5_readRun_108 (by decide) ⟨by omega, by omega⟩ ⟨by decide, by decide⟩ (fun c_5 => ?_) (fun c_5 => ?_)
            · refine lv_aload_n F.1 F.2.1 dX5_readRun_157 rfl (lv_at hl 2 rfl) ?_
              refine z_iconst F dX5_readRun_158 ?_
              refine lv_iload_n F.1 F.2.1 dX5_readRun_159 rfl (lv_at hl 4 rfl) ?_
              refine z_iconst F dX5_readRun_160 ?_
              refine lv_lconst (v := 0) F.1 F.2.1 dX5_readRun_161 (by decide) ?_
              have b_7 := gI_tk hv h5
              refine g_callv (g_runV (As := [.int (iI 1), .int (iI fr), .int (iI 0), .long 0]) (rest := []) (ci := 5) F hl.1 hH hS hz (c_X5_addToken l g gh I R J AI AJ AR a 1 fr 0 0 ⟨by decide, by decide⟩ zfr ⟨by decide, by decide⟩ hv h5 (by omega) (by omega)) (cwV 4 F.2.2.2.2.1 gX5_readRun_X5_addToken rfl rfl rfl hdX5_addToken ⟨Nat.le_of_ble_eq_true rfl, Nat.le_of_ble_eq_true rfl⟩) h5 (by decide) rfl rfl rfl (Nat.le_of_ble_eq_true rfl) dX5_readRun_162 ⟨Nat.zero_le _, Nat.zero_le _⟩) hS (fun I_8 R_9 J_10 AI_11 AJ_12 AR_13 H locs hp_14 hH hS => ?_)
              dsimp only at hp_14
              obtain ⟨rfl, rfl, rfl, hv, q_15, q_16⟩ := hp_14
              exact g_vret F hr hlk hH hS hz ⟨rfl, rfl, rfl, hv, fun b hb => q_15 b hb, by first | omega | rfl | (dsimp only; omega)⟩ dX5_readRun_165
            · refine lv_aload_n F.1 F.2.1 dX5_readRun_111 rfl (lv_at hl 3 rfl) ?_
              refine lv_iload_n F.1 F.2.1 dX5_readRun_112 rfl (lv_at hl 4 rfl) ?_
              have hx113 : 0 ≤ fr ∧ fr < ((936 : Nat) : Int) ∧ fr ≤ 2147483647 := ⟨by omega, by omega, by omega⟩
              refine g_bald F hH ht hx113.1 hx113.2.1 hx113.2.2 dX5_readRun_113 ?_
              refine z_name (fun v_17 ev_17 => ?_)
              have zv_17 : zr v_17 := by rw [ev_17]; exact zr_t _
              refine z_bipush F dX5_readRun_114 (by decide) ?_
              refine z_icmp_ne (tgt := 157) F dX5_readRun_116 (by decide) zv_17 ⟨by decide, by decide⟩ (fun c_18 => ?_) (fun c_18 => ?_)
              · refine lv_aload_n F.1 F.2.1 dX5_readRun_157 rfl (lv_at hl 2 rfl) ?_
                refine z_iconst F dX5_readRun_158 ?_
                refine lv_iload_n F.1 F.2.1 dX5_readRun_159 rfl (lv_at hl 4 rfl) ?_
                refine z_iconst F dX5_readRun_160 ?_
                refine lv_lconst (v := 0) F.1 F.2.1 dX5_readRun_161 (by decide) ?_
                have b_20 := gI_tk hv h5
                refine g_callv (g_runV (As := [.int (iI 1), .int (iI fr), .int (iI 0), .long 0]) (rest := []) (ci := 5) F hl.1 hH hS hz (c_X5_addToken l g gh I R J AI AJ AR a 1 fr 0 0 ⟨by decide, by decide⟩ zfr ⟨by decide, by decide⟩ hv h5 (by omega) (by omega)) (cwV 4 F.2.2.2.2.1 gX5_readRun_X5_addToken rfl rfl rfl hdX5_addToken ⟨Nat.le_of_ble_eq_true rfl, Nat.le_of_ble_eq_true rfl⟩) h5 (by decide) rfl rfl rfl (Nat.le_of_ble_eq_true rfl) dX5_readRun_162 ⟨Nat.zero_le _, Nat.zero_le _⟩) hS (fun I_21 R_22 J_23 AI_24 AJ_25 AR_26 H locs hp_27 hH hS => ?_)
                dsimp only at hp_27
                obtain ⟨rfl, rfl, rfl, hv, q_28, q_29⟩ := hp_27
                exact g_vret F hr hlk hH hS hz ⟨rfl, rfl, rfl, hv, fun b hb => q_28 b hb, by first | omega | rfl | (dsimp only; omega)⟩ dX5_readRun_165
              · refine lv_aload_n F.1 F.2.1 dX5_readRun_119 rfl (lv_at hl 3 rfl) ?_
                refine lv_iload_n F.1 F.2.1 dX5_readRun_120 rfl (lv_at hl 4 rfl) ?_
                refine z_iconst F dX5_readRun_121 ?_
                refine z_iadd F dX5_readRun_122 ?_
                have hx123 : 0 ≤ (fr + 1) ∧ (fr + 1) < ((936 : Nat) : Int) ∧ (fr + 1) ≤ 2147483647 := ⟨by omega, by omega, by omega⟩
                refine g_bald F hH ht hx123.1 hx123.2.1 hx123.2.2 dX5_readRun_123 ?_
                refine z_name (fun v_30 ev_30 => ?_)
                have zv_30 : zr v_30 := by rw [ev_30]; exact zr_t _
                refine z_bipush F dX5_readRun_124 (by decide) ?_
                refine z_icmp_lt (tgt := 157) F dX5_readRun_126 (by decide) zv_30 ⟨by decide, by decide⟩ (fun c_31 => ?_) (fun c_31 => ?_)
                · refine lv_aload_n F.1 F.2.1 dX5_readRun_157 rfl (lv_at hl 2 rfl) ?_
                  refine z_iconst F dX5_readRun_158 ?_
                  refine lv_iload_n F.1 F.2.1 dX5_readRun_159 rfl (lv_at hl 4 rfl) ?_
                  refine z_iconst F dX5_readRun_160 ?_
                  refine lv_lconst (v := 0) F.1 F.2.1 dX5_readRun_161 (by decide) ?_
                  have b_33 := gI_tk hv h5
                  refine g_callv (g_runV (As := [.int (iI 1), .int (iI fr), .int (iI 0), .long 0]) (rest := []) (ci := 5) F hl.1 hH hS hz (c_X5_addToken l g gh I R J AI AJ AR a 1 fr 0 0 ⟨by decide, by decide⟩ zfr ⟨by decide, by decide⟩ hv h5 (by omega) (by omega)) (cwV 4 F.2.2.2.2.1 gX5_readRun_X5_addToken rfl rfl rfl hdX5_addToken ⟨Nat.le_of_ble_eq_true rfl, Nat.le_of_ble_eq_true rfl⟩) h5 (by decide) rfl rfl rfl (Nat.le_of_ble_eq_true rfl) dX5_readRun_162 ⟨Nat.zero_le _, Nat.zero_le _⟩) hS (fun I_34 R_35 J_36 AI_37 AJ_38 AR_39 H locs hp_40 hH hS => ?_)
                  dsimp only at hp_40
                  obtain ⟨rfl, rfl, rfl, hv, q_41, q_42⟩ := hp_40
                  exact g_vret F hr hlk hH hS hz ⟨rfl, rfl, rfl, hv, fun b hb => q_41 b hb, by first | omega | rfl | (dsimp only; omega)⟩ dX5_readRun_165
                · refine lv_aload_n F.1 F.2.1 dX5_readRun_129 rfl (lv_at hl 3 rfl) ?_
                  refine lv_iload_n F.1 F.2.1 dX5_readRun_130 rfl (lv_at hl 4 rfl) ?_
                  refine z_iconst F dX5_readRun_131 ?_
                  refine z_iadd F dX5_readRun_132 ?_
                  have hx133 : 0 ≤ (fr + 1) ∧ (fr + 1) < ((936 : Nat) : Int) ∧ (fr + 1) ≤ 2147483647 := ⟨by omega, by omega, by omega⟩
                  refine g_bald F hH ht hx133.1 hx133.2.1 hx133.2.2 dX5_readRun_133 ?_
                  refine z_name (fun v_43 ev_43 => ?_)
                  have zv_43 : zr v_43 := by rw [ev_43]; exact zr_t _
                  refine z_bipush F dX5_readRun_134 (by decide) ?_
                  refine z_icmp_gt (tgt := 157) F dX5_readRun_136 (by decide) zv_43 ⟨by decide, by decide⟩ (fun c_44 => ?_) (fun c_44 => ?_)
                  · refine lv_aload_n F.1 F.2.1 dX5_readRun_157 rfl (lv_at hl 2 rfl) ?_
                    refine z_iconst F dX5_readRun_158 ?_
                    refine lv_iload_n F.1 F.2.1 dX5_readRun_159 rfl (lv_at hl 4 rfl) ?_
                    refine z_iconst F dX5_readRun_160 ?_
                    refine lv_lconst (v := 0) F.1 F.2.1 dX5_readRun_161 (by decide) ?_
                    have b_46 := gI_tk hv h5
                    refine g_callv (g_runV (As := [.int (iI 1), .int (iI fr), .int (iI 0), .long 0]) (rest := []) (ci := 5) F hl.1 hH hS hz (c_X5_addToken l g gh I R J AI AJ AR a 1 fr 0 0 ⟨by decide, by decide⟩ zfr ⟨by decide, by decide⟩ hv h5 (by omega) (by omega)) (cwV 4 F.2.2.2.2.1 gX5_readRun_X5_addToken rfl rfl rfl hdX5_addToken ⟨Nat.le_of_ble_eq_true rfl, Nat.le_of_ble_eq_true rfl⟩) h5 (by decide) rfl rfl rfl (Nat.le_of_ble_eq_true rfl) dX5_readRun_162 ⟨Nat.zero_le _, Nat.zero_le _⟩) hS (fun I_47 R_48 J_49 AI_50 AJ_51 AR_52 H locs hp_53 hH hS => ?_)
                    dsimp only at hp_53
                    obtain ⟨rfl, rfl, rfl, hv, q_54, q_55⟩ := hp_53
                    exact g_vret F hr hlk hH hS hz ⟨rfl, rfl, rfl, hv, fun b hb => q_54 b hb, by first | omega | rfl | (dsimp only; omega)⟩ dX5_readRun_165
                  · refine lv_aload_n F.1 F.2.1 dX5_readRun_139 rfl (lv_at hl 2 rfl) ?_
                    refine z_iconst F dX5_readRun_140 ?_
                    refine lv_iload_n F.1 F.2.1 dX5_readRun_141 rfl (lv_at hl 4 rfl) ?_
                    refine lv_aload_n F.1 F.2.1 dX5_readRun_142 rfl (lv_at hl 3 rfl) ?_
                    refine lv_iload_n F.1 F.2.1 dX5_readRun_143 rfl (lv_at hl 4 rfl) ?_
                    refine z_iconst F dX5_readRun_144 ?_
                    refine z_iadd F dX5_readRun_145 ?_
                    have hx146 : 0 ≤ (fr + 1) ∧ (fr + 1) < ((936 : Nat) : Int) ∧ (fr + 1) ≤ 2147483647 := ⟨by omega, by omega, by omega⟩
                    refine g_bald F hH ht hx146.1 hx146.2.1 hx146.2.2 dX5_readRun_146 ?_
                    refine z_name (fun v_56 ev_56 => ?_)
                    have zv_56 : zr v_56 := by rw [ev_56]; exact zr_t _
                    refine z_bipush F dX5_readRun_147 (by decide) ?_
                    refine z_isub F dX5_readRun_149 ?_
                    refine lv_lconst (v := 0) F.1 F.2.1 dX5_readRun_150 (by decide) ?_
                    have b_58 := gI_tk hv h5
                    refine g_callv (g_runV (As := [.int (iI 2), .int (iI fr), .int (iI (v_56 - 48)), .long 0]) (rest := []) (ci := 5) F hl.1 hH hS hz (c_X5_addToken l g gh I R J AI AJ AR a 2 fr (v_56 - 48) 0 ⟨by decide, by decide⟩ zfr ⟨by omega, by omega⟩ hv h5 (by omega) (by omega)) (cwV 4 F.2.2.2.2.1 gX5_readRun_X5_addToken rfl rfl rfl hdX5_addToken ⟨Nat.le_of_ble_eq_true rfl, Nat.le_of_ble_eq_true rfl⟩) h5 (by decide) rfl rfl rfl (Nat.le_of_ble_eq_true rfl) dX5_readRun_151 ⟨Nat.zero_le _, Nat.zero_le _⟩) hS (fun I_59 R_60 J_61 AI_62 AJ_63 AR_64 H locs hp_65 hH hS => ?_)
                    dsimp only at hp_65
                    obtain ⟨rfl, rfl, rfl, hv, q_66, q_67⟩ := hp_65
                    refine z_goto (tgt := 165) F dX5_readRun_154 (by decide) ?_
                    exact g_vret F hr hlk hH hS hz ⟨rfl, rfl, rfl, hv, fun b hb => q_66 b hb, by first | omega | rfl | (dsimp only; omega)⟩ dX5_readRun_165
          · refine lv_iload F.1 F.2.1 dX5_readRun_83 (lv_at hl 0 rfl) ?_
            refine z_iconst F dX5_readRun_85 ?_
            refine z_icmp_gt (tgt := 105) F dX5_readRun_86 (by decide) ⟨by omega, by omega⟩ ⟨by decide, by decide⟩ (fun c_68 => ?_) (fun c_68 => ?_)
            · refine lv_iload F.1 F.2.1 dX5_readRun_105 (lv_at hl 0 rfl) ?_
              refine z_iconst F dX5_readRun_107 ?_
              refine z_icmp_ne (tgt := 157) F dX5_readRun_108 (by decide) ⟨by omega, by omega⟩ ⟨by decide, by decide⟩ (fun c_69 => ?_) (fun c_69 => ?_)
              · refine lv_aload_n F.1 F.2.1 dX5_readRun_157 rfl (lv_at hl 2 rfl) ?_
                refine z_iconst F dX5_readRun_158 ?_
                refine lv_iload_n F.1 F.2.1 dX5_readRun_159 rfl (lv_at hl 4 rfl) ?_
                refine z_iconst F dX5_readRun_160 ?_
                refine lv_lconst (v := 0) F.1 F.2.1 dX5_readRun_161 (by decide) ?_
                have b_71 := gI_tk hv h5
                refine g_callv (g_runV (As := [.int (iI 1), .int (iI fr), .int (iI 0), .long 0]) (rest := []) (ci := 5) F hl.1 hH hS hz (c_X5_addToken l g gh I R J AI AJ AR a 1 fr 0 0 ⟨by decide, by decide⟩ zfr ⟨by decide, by decide⟩ hv h5 (by omega) (by omega)) (cwV 4 F.2.2.2.2.1 gX5_readRun_X5_addToken rfl rfl rfl hdX5_addToken ⟨Nat.le_of_ble_eq_true rfl, Nat.le_of_ble_eq_true rfl⟩) h5 (by decide) rfl rfl rfl (Nat.le_of_ble_eq_true rfl) dX5_readRun_162 ⟨Nat.zero_le _, Nat.zero_le _⟩) hS (fun I_72 R_73 J_74 AI_75 AJ_76 AR_77 H locs hp_78 hH hS => ?_)
                dsimp only at hp_78
                obtain ⟨rfl, rfl, rfl, hv, q_79, q_80⟩ := hp_78
                exact g_vret F hr hlk hH hS hz ⟨rfl, rfl, rfl, hv, fun b hb => q_79 b hb, by first | omega | rfl | (dsimp only; omega)⟩ dX5_readRun_165
              · refine lv_aload_n F.1 F.2.1 dX5_readRun_111 rfl (lv_at hl 3 rfl) ?_
                refine lv_iload_n F.1 F.2.1 dX5_readRun_112 rfl (lv_at hl 4 rfl) ?_
                have hx113 : 0 ≤ fr ∧ fr < ((936 : Nat) : Int) ∧ fr ≤ 2147483647 := ⟨by omega, by omega, by omega⟩
                refine g_bald F hH ht hx113.1 hx113.2.1 hx113.2.2 dX5_readRun_113 ?_
                refine z_name (fun v_81 ev_81 => ?_)
                have zv_81 : zr v_81 := by rw [ev_81]; exact zr_t _
                refine z_bipush F dX5_readRun_114 (by decide) ?_
                refine z_icmp_ne (tgt := 157) F dX5_readRun_116 (by decide) zv_81 ⟨by decide, by decide⟩ (fun c_82 => ?_) (fun c_82 => ?_)
                · refine lv_aload_n F.1 F.2.1 dX5_readRun_157 rfl (lv_at hl 2 rfl) ?_
                  refine z_iconst F dX5_readRun_158 ?_
                  refine lv_iload_n F.1 F.2.1 dX5_readRun_159 rfl (lv_at hl 4 rfl) ?_
                  refine z_iconst F dX5_readRun_160 ?_
                  refine lv_lconst (v := 0) F.1 F.2.1 dX5_readRun_161 (by decide) ?_
                  have b_84 := gI_tk hv h5
                  refine g_callv (g_runV (As := [.int (iI 1), .int (iI fr), .int (iI 0), .long 0]) (rest := []) (ci := 5) F hl.1 hH hS hz (c_X5_addToken l g gh I R J AI AJ AR a 1 fr 0 0 ⟨by decide, by decide⟩ zfr ⟨by decide, by decide⟩ hv h5 (by omega) (by omega)) (cwV 4 F.2.2.2.2.1 gX5_readRun_X5_addToken rfl rfl rfl hdX5_addToken ⟨Nat.le_of_ble_eq_true rfl, Nat.le_of_ble_eq_true rfl⟩) h5 (by decide) rfl rfl rfl (Nat.le_of_ble_eq_true rfl) dX5_readRun_162 ⟨Nat.zero_le _, Nat.zero_le _⟩) hS (fun I_85 R_86 J_87 AI_88 AJ_89 AR_90 H locs hp_91 hH hS => ?_)
                  dsimp only at hp_91
                  obtain ⟨rfl, rfl, rfl, hv, q_92, q_93⟩ := hp_91
                  exact g_vret F hr hlk hH hS hz ⟨rfl, rfl, rfl, hv, fun b hb => q_92 b hb, by first | omega | rfl | (dsimp only; omega)⟩ dX5_readRun_165
                · refine lv_aload_n F.1 F.2.1 dX5_readRun_119 rfl (lv_at hl 3 rfl) ?_
                  refine lv_iload_n F.1 F.2.1 dX5_readRun_120 rfl (lv_at hl 4 rfl) ?_
                  refine z_iconst F dX5_readRun_121 ?_
                  refine z_iadd F dX5_readRun_122 ?_
                  have hx123 : 0 ≤ (fr + 1) ∧ (fr + 1) < ((936 : Nat) : Int) ∧ (fr + 1) ≤ 2147483647 := ⟨by omega, by omega, by omega⟩
                  refine g_bald F hH ht hx123.1 hx123.2.1 hx123.2.2 dX5_readRun_123 ?_
                  refine z_name (fun v_94 ev_94 => ?_)
                  have zv_94 : zr v_94 := by rw [ev_94]; exact zr_t _
                  refine z_bipush F dX5_readRun_124 (by decide) ?_
                  refine z_icmp_lt (tgt := 157) F dX5_readRun_126 (by decide) zv_94 ⟨by decide, by decide⟩ (fun c_95 => ?_) (fun c_95 => ?_)
                  · refine lv_aload_n F.1 F.2.1 dX5_readRun_157 rfl (lv_at hl 2 rfl) ?_
                    refine z_iconst F dX5_readRun_158 ?_
                    refine lv_iload_n F.1 F.2.1 dX5_readRun_159 rfl (lv_at hl 4 rfl) ?_
                    refine z_iconst F dX5_readRun_160 ?_
                    refine lv_lconst (v := 0) F.1 F.2.1 dX5_readRun_161 (by decide) ?_
                    have b_97 := gI_tk hv h5
                    refine g_callv (g_runV (As := [.int (iI 1), .int (iI fr), .int (iI 0), .long 0]) (rest := []) (ci := 5) F hl.1 hH hS hz (c_X5_addToken l g gh I R J AI AJ AR a 1 fr 0 0 ⟨by decide, by decide⟩ zfr ⟨by decide, by decide⟩ hv h5 (by omega) (by omega)) (cwV 4 F.2.2.2.2.1 gX5_readRun_X5_addToken rfl rfl rfl hdX5_addToken ⟨Nat.le_of_ble_eq_true rfl, Nat.le_of_ble_eq_true rfl⟩) h5 (by decide) rfl rfl rfl (Nat.le_of_ble_eq_true rfl) dX5_readRun_162 ⟨Nat.zero_le _, Nat.zero_le _⟩) hS (fun I_98 R_99 J_100 AI_101 AJ_102 AR_103 H locs hp_104 hH hS => ?_)
                    dsimp only at hp_104
                    obtain ⟨rfl, rfl, rfl, hv, q_105, q_106⟩ := hp_104
                    exact g_vret F hr hlk hH hS hz ⟨rfl, rfl, rfl, hv, fun b hb => q_105 b hb, by first | omega | rfl | (dsimp only; omega)⟩ dX5_readRun_165
                  · refine lv_aload_n F.1 F.2.1 dX5_readRun_129 rfl (lv_at hl 3 rfl) ?_
                    refine lv_iload_n F.1 F.2.1 dX5_readRun_130 rfl (lv_at hl 4 rfl) ?_
                    refine z_iconst F dX5_readRun_131 ?_
                    refine z_iadd F dX5_readRun_132 ?_
                    have hx133 : 0 ≤ (fr + 1) ∧ (fr + 1) < ((936 : Nat) : Int) ∧ (fr + 1) ≤ 2147483647 := ⟨by omega, by omega, by omega⟩
                    refine g_bald F hH ht hx133.1 hx133.2.1 hx133.2.2 dX5_readRun_133 ?_
                    refine z_name (fun v_107 ev_107 => ?_)
                    have zv_107 : zr v_107 := by rw [ev_107]; exact zr_t _
                    refine z_bipush F dX5_readRun_134 (by decide) ?_
                    refine z_icmp_gt (tgt := 157) F dX5_readRun_136 (by decide) zv_107 ⟨by decide, by decide⟩ (fun c_108 => ?_) (fun c_108 => ?_)
                    · refine lv_aload_n F.1 F.2.1 dX5_readRun_157 rfl (lv_at hl 2 rfl) ?_
                      refine z_iconst F dX5_readRun_158 ?_
                      refine lv_iload_n F.1 F.2.1 dX5_readRun_159 rfl (lv_at hl 4 rfl) ?_
                      refine z_iconst F dX5_readRun_160 ?_
                      refine lv_lconst (v := 0) F.1 F.2.1 dX5_readRun_161 (by decide) ?_
                      have b_110 := gI_tk hv h5
                      refine g_callv (g_runV (As := [.int (iI 1), .int (iI fr), .int (iI 0), .long 0]) (rest := []) (ci := 5) F hl.1 hH hS hz (c_X5_addToken l g gh I R J AI AJ AR a 1 fr 0 0 ⟨by decide, by decide⟩ zfr ⟨by decide, by decide⟩ hv h5 (by omega) (by omega)) (cwV 4 F.2.2.2.2.1 gX5_readRun_X5_addToken rfl rfl rfl hdX5_addToken ⟨Nat.le_of_ble_eq_true rfl, Nat.le_of_ble_eq_true rfl⟩) h5 (by decide) rfl rfl rfl (Nat.le_of_ble_eq_true rfl) dX5_readRun_162 ⟨Nat.zero_le _, Nat.zero_le _⟩) hS (fun I_111 R_112 J_113 AI_114 AJ_115 AR_116 H locs hp_117 hH hS => ?_)
                      dsimp only at hp_117
                      obtain ⟨rfl, rfl, rfl, hv, q_118, q_119⟩ := hp_117
                      exact g_vret F hr hlk hH hS hz ⟨rfl, rfl, rfl, hv, fun b hb => q_118 b hb, by first | omega | rfl | (dsimp only; omega)⟩ dX5_readRun_165
                    · refine lv_aload_n F.1 F.2.1 dX5_readRun_139 rfl (lv_at hl 2 rfl) ?_
                      refine z_iconst F dX5_readRun_140 ?_
                      refine lv_iload_n F.1 F.2.1 dX5_readRun_141 rfl (lv_at hl 4 rfl) ?_
                      refine lv_aload_n F.1 F.2.1 dX5_readRun_142 rfl (lv_at hl 3 rfl) ?_
                      refine lv_iload_n F.1 F.2.1 dX5_readRun_143 rfl (lv_at hl 4 rfl) ?_
                      refine z_iconst F dX5_readRun_144 ?_
                      refine z_iadd F dX5_readRun_145 ?_
                      have hx146 : 0 ≤ (fr + 1) ∧ (fr + 1) < ((936 : Nat) : Int) ∧ (fr + 1) ≤ 2147483647 := ⟨by omega, by omega, by omega⟩
                      refine g_bald F hH ht hx146.1 hx146.2.1 hx146.2.2 dX5_readRun_146 ?_
                      refine z_name (fun v_120 ev_120 => ?_)
                      have zv_120 : zr v_120 := by rw [ev_120]; exact zr_t _
                      refine z_bipush F dX5_readRun_147 (by decide) ?_
                      refine z_isub F dX5_readRun_149 ?_
                      refine lv_lconst (v := 0) F.1 F.2.1 dX5_readRun_150 (by decide) ?_
                      have b_122 := gI_tk hv h5
                      refine g_callv (g_runV (As := [.int (iI 2), .int (iI fr), .int (iI (v_120 - 48)), .long 0]) (rest := []) (ci := 5) F hl.1 hH hS hz (c_X5_addToken l g gh I R J AI AJ AR a 2 fr (v_120 - 48) 0 ⟨by decide, by decide⟩ zfr ⟨by omega, by omega⟩ hv h5 (by omega) (by omega)) (cwV 4 F.2.2.2.2.1 gX5_readRun_X5_addToken rfl rfl rfl hdX5_addToken ⟨Nat.le_of_ble_eq_true rfl, Nat.le_of_ble_eq_true rfl⟩) h5 (by decide) rfl rfl rfl (Nat.le_of_ble_eq_true rfl) dX5_readRun_151 ⟨Nat.zero_le _, Nat.zero_le _⟩) hS (fun I_123 R_124 J_125 AI_126 AJ_127 AR_128 H locs hp_129 hH hS => ?_)
                      dsimp only at hp_129
                      obtain ⟨rfl, rfl, rfl, hv, q_130, q_131⟩ := hp_129
                      refine z_goto (tgt := 165) F dX5_readRun_154 (by decide) ?_
                      exact g_vret F hr hlk hH hS hz ⟨rfl, rfl, rfl, hv, fun b hb => q_130 b hb, by first | omega | rfl | (dsimp only; omega)⟩ dX5_readRun_165
            · refine lv_aload_n F.1 F.2.1 dX5_readRun_89 rfl (lv_at hl 2 rfl) ?_
              refine z_iconst F dX5_readRun_90 ?_
              refine lv_iload_n F.1 F.2.1 dX5_readRun_91 rfl (lv_at hl 4 rfl) ?_
              refine lv_aload_n F.1 F.2.1 dX5_readRun_92 rfl (lv_at hl 3 rfl) ?_
              refine lv_iload_n F.1 F.2.1 dX5_readRun_93 rfl (lv_at hl 4 rfl) ?_
              refine lv_iload_n F.1 F.2.1 dX5_readRun_94 rfl (lv_at hl 5 rfl) ?_
              refine g_calli (g_runS (As := [.ref t, .int (iI fr), .int (iI to_)]) (rest := [.int (iI fr), .int (iI 4), .ref a]) F hl.1 hH hS hz (c_X5_numberOf l g  I R J AI AJ AR t fr to_ zfr zto_ ht (by omega) (by omega) (by omega)) (va_cwS 3 F.2.2.2.2.1 gX5_readRun_X5_numberOf rfl rfl rfl hdX5_numberOf.2 ⟨Nat.le_of_ble_eq_true rfl, Nat.le_of_ble_eq_true rfl⟩) rfl rfl (Nat.le_of_ble_eq_true rfl) dX5_readRun_95 ⟨Nat.zero_le _, Nat.zero_le _⟩) hS (fun v_138 I_132 R_133 J_134 AI_135 AJ_136 AR_137 H locs zv_138 hp_139 hH hS => ?_)
              dsimp only at hp_139
              obtain ⟨rfl, rfl, rfl, rfl, rfl, rfl⟩ := hp_139
              refine lv_lconst (v := 0) F.1 F.2.1 dX5_readRun_98 (by decide) ?_
              have b_141 := gI_tk hv h5
              refine g_callv (g_runV (As := [.int (iI 4), .int (iI fr), .int (iI v_138), .long 0]) (rest := []) (ci := 5) F hl.1 hH hS hz (c_X5_addToken l g gh I R J AI AJ AR a 4 fr v_138 0 ⟨by decide, by decide⟩ zfr zv_138 hv h5 (by omega) (by omega)) (cwV 4 F.2.2.2.2.1 gX5_readRun_X5_addToken rfl rfl rfl hdX5_addToken ⟨Nat.le_of_ble_eq_true rfl, Nat.le_of_ble_eq_true rfl⟩) h5 (by decide) rfl rfl rfl (Nat.le_of_ble_eq_true rfl) dX5_readRun_99 ⟨Nat.zero_le _, Nat.zero_le _⟩) hS (fun I_142 R_143 J_144 AI_145 AJ_146 AR_147 H locs hp_148 hH hS => ?_)
              dsimp only at hp_148
              obtain ⟨rfl, rfl, rfl, hv, q_149, q_150⟩ := hp_148
              refine z_goto (tgt := 165) F dX5_readRun_102 (by decide) ?_
              exact g_vret F hr hlk hH hS hz ⟨rfl, rfl, rfl, hv, fun b hb => q_149 b hb, by first | omega | rfl | (dsimp only; omega)⟩ dX5_readRun_165
        · refine lv_iload F.1 F.2.1 dX5_readRun_48 (lv_at hl 0 rfl) ?_
          refine z_bipush F dX5_readRun_50 (by decide) ?_
          refine z_icmp_gt (tgt := 76) F dX5_readRun_52 (by decide) ⟨by omega, by omega⟩ ⟨by decide, by decide⟩ (fun c_151 => ?_) (fun c_151 => ?_)
          · refine lv_iload F.1 F.2.1 dX5_readRun_76 (lv_at hl 1 rfl) ?_
            refine lv_iload F.1 F.2.1 dX5_readRun_78 (lv_at hl 0 rfl) ?_
            refine z_icmp_ne (tgt := 105) F dX5_readRun_80 (by decide) zdg ⟨by omega, by omega⟩ (fun c_152 => ?_) (fun c_152 => ?_)
            · refine lv_iload F.1 F.2.1 dX5_readRun_105 (lv_at hl 0 rfl) ?_
              refine z_iconst F dX5_readRun_107 ?_
              refine z_icmp_ne (tgt := 157) F dX5_readRun_108 (by decide) ⟨by omega, by omega⟩ ⟨by decide, by decide⟩ (fun c_153 => ?_) (fun c_153 => ?_)
              · refine lv_aload_n F.1 F.2.1 dX5_readRun_157 rfl (lv_at hl 2 rfl) ?_
                refine z_iconst F dX5_readRun_158 ?_
                refine lv_iload_n F.1 F.2.1 dX5_readRun_159 rfl (lv_at hl 4 rfl) ?_
                refine z_iconst F dX5_readRun_160 ?_
                refine lv_lconst (v := 0) F.1 F.2.1 dX5_readRun_161 (by decide) ?_
                have b_155 := gI_tk hv h5
                refine g_callv (g_runV (As := [.int (iI 1), .int (iI fr), .int (iI 0), .long 0]) (rest := []) (ci := 5) F hl.1 hH hS hz (c_X5_addToken l g gh I R J AI AJ AR a 1 fr 0 0 ⟨by decide, by decide⟩ zfr ⟨by decide, by decide⟩ hv h5 (by omega) (by omega)) (cwV 4 F.2.2.2.2.1 gX5_readRun_X5_addToken rfl rfl rfl hdX5_addToken ⟨Nat.le_of_ble_eq_true rfl, Nat.le_of_ble_eq_true rfl⟩) h5 (by decide) rfl rfl rfl (Nat.le_of_ble_eq_true rfl) dX5_readRun_162 ⟨Nat.zero_le _, Nat.zero_le _⟩) hS (fun I_156 R_157 J_158 AI_159 AJ_160 AR_161 H locs hp_162 hH hS => ?_)
                dsimp only at hp_162
                obtain ⟨rfl, rfl, rfl, hv, q_163, q_164⟩ := hp_162
                exact g_vret F hr hlk hH hS hz ⟨rfl, rfl, rfl, hv, fun b hb => q_163 b hb, by first | omega | rfl | (dsimp only; omega)⟩ dX5_readRun_165
              · refine lv_aload_n F.1 F.2.1 dX5_readRun_111 rfl (lv_at hl 3 rfl) ?_
                refine lv_iload_n F.1 F.2.1 dX5_readRun_112 rfl (lv_at hl 4 rfl) ?_
                have hx113 : 0 ≤ fr ∧ fr < ((936 : Nat) : Int) ∧ fr ≤ 2147483647 := ⟨by omega, by omega, by omega⟩
                refine g_bald F hH ht hx113.1 hx113.2.1 hx113.2.2 dX5_readRun_113 ?_
                refine z_name (fun v_165 ev_165 => ?_)
                have zv_165 : zr v_165 := by rw [ev_165]; exact zr_t _
                refine z_bipush F dX5_readRun_114 (by decide) ?_
                refine z_icmp_ne (tgt := 157) F dX5_readRun_116 (by decide) zv_165 ⟨by decide, by decide⟩ (fun c_166 => ?_) (fun c_166 => ?_)
                · refine lv_aload_n F.1 F.2.1 dX5_readRun_157 rfl (lv_at hl 2 rfl) ?_
                  refine z_iconst F dX5_readRun_158 ?_
                  refine lv_iload_n F.1 F.2.1 dX5_readRun_159 rfl (lv_at hl 4 rfl) ?_
                  refine z_iconst F dX5_readRun_160 ?_
                  refine lv_lconst (v := 0) F.1 F.2.1 dX5_readRun_161 (by decide) ?_
                  have b_168 := gI_tk hv h5
                  refine g_callv (g_runV (As := [.int (iI 1), .int (iI fr), .int (iI 0), .long 0]) (rest := []) (ci := 5) F hl.1 hH hS hz (c_X5_addToken l g gh I R J AI AJ AR a 1 fr 0 0 ⟨by decide, by decide⟩ zfr ⟨by decide, by decide⟩ hv h5 (by omega) (by omega)) (cwV 4 F.2.2.2.2.1 gX5_readRun_X5_addToken rfl rfl rfl hdX5_addToken ⟨Nat.le_of_ble_eq_true rfl, Nat.le_of_ble_eq_true rfl⟩) h5 (by decide) rfl rfl rfl (Nat.le_of_ble_eq_true rfl) dX5_readRun_162 ⟨Nat.zero_le _, Nat.zero_le _⟩) hS (fun I_169 R_170 J_171 AI_172 AJ_173 AR_174 H locs hp_175 hH hS => ?_)
                  dsimp only at hp_175
                  obtain ⟨rfl, rfl, rfl, hv, q_176, q_177⟩ := hp_175
                  exact g_vret F hr hlk hH hS hz ⟨rfl, rfl, rfl, hv, fun b hb => q_176 b hb, by first | omega | rfl | (dsimp only; omega)⟩ dX5_readRun_165
                · refine lv_aload_n F.1 F.2.1 dX5_readRun_119 rfl (lv_at hl 3 rfl) ?_
                  refine lv_iload_n F.1 F.2.1 dX5_readRun_120 rfl (lv_at hl 4 rfl) ?_
                  refine z_iconst F dX5_readRun_121 ?_
                  refine z_iadd F dX5_readRun_122 ?_
                  have hx123 : 0 ≤ (fr + 1) ∧ (fr + 1) < ((936 : Nat) : Int) ∧ (fr + 1) ≤ 2147483647 := ⟨by omega, by omega, by omega⟩
                  refine g_bald F hH ht hx123.1 hx123.2.1 hx123.2.2 dX5_readRun_123 ?_
                  refine z_name (fun v_178 ev_178 => ?_)
                  have zv_178 : zr v_178 := by rw [ev_178]; exact zr_t _
                  refine z_bipush F dX5_readRun_124 (by decide) ?_
                  refine z_icmp_lt (tgt := 157) F dX5_readRun_126 (by decide) zv_178 ⟨by decide, by decide⟩ (fun c_179 => ?_) (fun c_179 => ?_)
                  · refine lv_aload_n F.1 F.2.1 dX5_readRun_157 rfl (lv_at hl 2 rfl) ?_
                    refine z_iconst F dX5_readRun_158 ?_
                    refine lv_iload_n F.1 F.2.1 dX5_readRun_159 rfl (lv_at hl 4 rfl) ?_
                    refine z_iconst F dX5_readRun_160 ?_
                    refine lv_lconst (v := 0) F.1 F.2.1 dX5_readRun_161 (by decide) ?_
                    have b_181 := gI_tk hv h5
                    refine g_callv (g_runV (As := [.int (iI 1), .int (iI fr), .int (iI 0), .long 0]) (rest := []) (ci := 5) F hl.1 hH hS hz (c_X5_addToken l g gh I R J AI AJ AR a 1 fr 0 0 ⟨by decide, by decide⟩ zfr ⟨by decide, by decide⟩ hv h5 (by omega) (by omega)) (cwV 4 F.2.2.2.2.1 gX5_readRun_X5_addToken rfl rfl rfl hdX5_addToken ⟨Nat.le_of_ble_eq_true rfl, Nat.le_of_ble_eq_true rfl⟩) h5 (by decide) rfl rfl rfl (Nat.le_of_ble_eq_true rfl) dX5_readRun_162 ⟨Nat.zero_le _, Nat.zero_le _⟩) hS (fun I_182 R_183 J_184 AI_185 AJ_186 AR_187 H locs hp_188 hH hS => ?_)
                    dsimp only at hp_188
                    obtain ⟨rfl, rfl, rfl, hv, q_189, q_190⟩ := hp_188
                    exact g_vret F hr hlk hH hS hz ⟨rfl, rfl, rfl, hv, fun b hb => q_189 b hb, by first | omega | rfl | (dsimp only; omega)⟩ dX5_readRun_165
                  · refine lv_aload_n F.1 F.2.1 dX5_readRun_129 rfl (lv_at hl 3 rfl) ?_
                    refine lv_iload_n F.1 F.2.1 dX5_readRun_130 rfl (lv_at hl 4 rfl) ?_
                    refine z_iconst F dX5_readRun_131 ?_
                    refine z_iadd F dX5_readRun_132 ?_
                    have hx133 : 0 ≤ (fr + 1) ∧ (fr + 1) < ((936 : Nat) : Int) ∧ (fr + 1) ≤ 2147483647 := ⟨by omega, by omega, by omega⟩
                    refine g_bald F hH ht hx133.1 hx133.2.1 hx133.2.2 dX5_readRun_133 ?_
                    refine z_name (fun v_191 ev_191 => ?_)
                    have zv_191 : zr v_191 := by rw [ev_191]; exact zr_t _
                    refine z_bipush F dX5_readRun_134 (by decide) ?_
                    refine z_icmp_gt (tgt := 157) F dX5_readRun_136 (by decide) zv_191 ⟨by decide, by decide⟩ (fun c_192 => ?_) (fun c_192 => ?_)
                    · refine lv_aload_n F.1 F.2.1 dX5_readRun_157 rfl (lv_at hl 2 rfl) ?_
                      refine z_iconst F dX5_readRun_158 ?_
                      refine lv_iload_n F.1 F.2.1 dX5_readRun_159 rfl (lv_at hl 4 rfl) ?_
                      refine z_iconst F dX5_readRun_160 ?_
                      refine lv_lconst (v := 0) F.1 F.2.1 dX5_readRun_161 (by decide) ?_
                      have b_194 := gI_tk hv h5
                      refine g_callv (g_runV (As := [.int (iI 1), .int (iI fr), .int (iI 0), .long 0]) (rest := []) (ci := 5) F hl.1 hH hS hz (c_X5_addToken l g gh I R J AI AJ AR a 1 fr 0 0 ⟨by decide, by decide⟩ zfr ⟨by decide, by decide⟩ hv h5 (by omega) (by omega)) (cwV 4 F.2.2.2.2.1 gX5_readRun_X5_addToken rfl rfl rfl hdX5_addToken ⟨Nat.le_of_ble_eq_true rfl, Nat.le_of_ble_eq_true rfl⟩) h5 (by decide) rfl rfl rfl (Nat.le_of_ble_eq_true rfl) dX5_readRun_162 ⟨Nat.zero_le _, Nat.zero_le _⟩) hS (fun I_195 R_196 J_197 AI_198 AJ_199 AR_200 H locs hp_201 hH hS => ?_)
                      dsimp only at hp_201
                      obtain ⟨rfl, rfl, rfl, hv, q_202, q_203⟩ := hp_201
                      exact g_vret F hr hlk hH hS hz ⟨rfl, rfl, rfl, hv, fun b hb => q_202 b hb, by first | omega | rfl | (dsimp only; omega)⟩ dX5_readRun_165
                    · refine lv_aload_n F.1 F.2.1 dX5_readRun_139 rfl (lv_at hl 2 rfl) ?_
                      refine z_iconst F dX5_readRun_140 ?_
                      refine lv_iload_n F.1 F.2.1 dX5_readRun_141 rfl (lv_at hl 4 rfl) ?_
                      refine lv_aload_n F.1 F.2.1 dX5_readRun_142 rfl (lv_at hl 3 rfl) ?_
                      refine lv_iload_n F.1 F.2.1 dX5_readRun_143 rfl (lv_at hl 4 rfl) ?_
                      refine z_iconst F dX5_readRun_144 ?_
                      refine z_iadd F dX5_readRun_145 ?_
                      have hx146 : 0 ≤ (fr + 1) ∧ (fr + 1) < ((936 : Nat) : Int) ∧ (fr + 1) ≤ 2147483647 := ⟨by omega, by omega, by omega⟩
                      refine g_bald F hH ht hx146.1 hx146.2.1 hx146.2.2 dX5_readRun_146 ?_
                      refine z_name (fun v_204 ev_204 => ?_)
                      have zv_204 : zr v_204 := by rw [ev_204]; exact zr_t _
                      refine z_bipush F dX5_readRun_147 (by decide) ?_
                      refine z_isub F dX5_readRun_149 ?_
                      refine lv_lconst (v := 0) F.1 F.2.1 dX5_readRun_150 (by decide) ?_
                      have b_206 := gI_tk hv h5
                      refine g_callv (g_runV (As := [.int (iI 2), .int (iI fr), .int (iI (v_204 - 48)), .long 0]) (rest := []) (ci := 5) F hl.1 hH hS hz (c_X5_addToken l g gh I R J AI AJ AR a 2 fr (v_204 - 48) 0 ⟨by decide, by decide⟩ zfr ⟨by omega, by omega⟩ hv h5 (by omega) (by omega)) (cwV 4 F.2.2.2.2.1 gX5_readRun_X5_addToken rfl rfl rfl hdX5_addToken ⟨Nat.le_of_ble_eq_true rfl, Nat.le_of_ble_eq_true rfl⟩) h5 (by decide) rfl rfl rfl (Nat.le_of_ble_eq_true rfl) dX5_readRun_151 ⟨Nat.zero_le _, Nat.zero_le _⟩) hS (fun I_207 R_208 J_209 AI_210 AJ_211 AR_212 H locs hp_213 hH hS => ?_)
                      dsimp only at hp_213
                      obtain ⟨rfl, rfl, rfl, hv, q_214, q_215⟩ := hp_213
                      refine z_goto (tgt := 165) F dX5_readRun_154 (by decide) ?_
                      exact g_vret F hr hlk hH hS hz ⟨rfl, rfl, rfl, hv, fun b hb => q_214 b hb, by first | omega | rfl | (dsimp only; omega)⟩ dX5_readRun_165
            · refine lv_iload F.1 F.2.1 dX5_readRun_83 (lv_at hl 0 rfl) ?_
              refine z_iconst F dX5_readRun_85 ?_
              refine z_icmp_gt (tgt := 105) F dX5_readRun_86 (by decide) ⟨by omega, by omega⟩ ⟨by decide, by decide⟩ (fun c_216 => ?_) (fun c_216 => ?_)
              · refine lv_iload F.1 F.2.1 dX5_readRun_105 (lv_at hl 0 rfl) ?_
                refine z_iconst F dX5_readRun_107 ?_
                refine z_icmp_ne (tgt := 157) F dX5_readRun_108 (by decide) ⟨by omega, by omega⟩ ⟨by decide, by decide⟩ (fun c_217 => ?_) (fun c_217 => ?_)
                · refine lv_aload_n F.1 F.2.1 dX5_readRun_157 rfl (lv_at hl 2 rfl) ?_
                  refine z_iconst F dX5_readRun_158 ?_
                  refine lv_iload_n F.1 F.2.1 dX5_readRun_159 rfl (lv_at hl 4 rfl) ?_
                  refine z_iconst F dX5_readRun_160 ?_
                  refine lv_lconst (v := 0) F.1 F.2.1 dX5_readRun_161 (by decide) ?_
                  have b_219 := gI_tk hv h5
                  refine g_callv (g_runV (As := [.int (iI 1), .int (iI fr), .int (iI 0), .long 0]) (rest := []) (ci := 5) F hl.1 hH hS hz (c_X5_addToken l g gh I R J AI AJ AR a 1 fr 0 0 ⟨by decide, by decide⟩ zfr ⟨by decide, by decide⟩ hv h5 (by omega) (by omega)) (cwV 4 F.2.2.2.2.1 gX5_readRun_X5_addToken rfl rfl rfl hdX5_addToken ⟨Nat.le_of_ble_eq_true rfl, Nat.le_of_ble_eq_true rfl⟩) h5 (by decide) rfl rfl rfl (Nat.le_of_ble_eq_true rfl) dX5_readRun_162 ⟨Nat.zero_le _, Nat.zero_le _⟩) hS (fun I_220 R_221 J_222 AI_223 AJ_224 AR_225 H locs hp_226 hH hS => ?_)
                  dsimp only at hp_226
                  obtain ⟨rfl, rfl, rfl, hv, q_227, q_228⟩ := hp_226
                  exact g_vret F hr hlk hH hS hz ⟨rfl, rfl, rfl, hv, fun b hb => q_227 b hb, by first | omega | rfl | (dsimp only; omega)⟩ dX5_readRun_165
                · refine lv_aload_n F.1 F.2.1 dX5_readRun_111 rfl (lv_at hl 3 rfl) ?_
                  refine lv_iload_n F.1 F.2.1 dX5_readRun_112 rfl (lv_at hl 4 rfl) ?_
                  have hx113 : 0 ≤ fr ∧ fr < ((936 : Nat) : Int) ∧ fr ≤ 2147483647 := ⟨by omega, by omega, by omega⟩
                  refine g_bald F hH ht hx113.1 hx113.2.1 hx113.2.2 dX5_readRun_113 ?_
                  refine z_name (fun v_229 ev_229 => ?_)
                  have zv_229 : zr v_229 := by rw [ev_229]; exact zr_t _
                  refine z_bipush F dX5_readRun_114 (by decide) ?_
                  refine z_icmp_ne (tgt := 157) F dX5_readRun_116 (by decide) zv_229 ⟨by decide, by decide⟩ (fun c_230 => ?_) (fun c_230 => ?_)
                  · refine lv_aload_n F.1 F.2.1 dX5_readRun_157 rfl (lv_at hl 2 rfl) ?_
                    refine z_iconst F dX5_readRun_158 ?_
                    refine lv_iload_n F.1 F.2.1 dX5_readRun_159 rfl (lv_at hl 4 rfl) ?_
                    refine z_iconst F dX5_readRun_160 ?_
                    refine lv_lconst (v := 0) F.1 F.2.1 dX5_readRun_161 (by decide) ?_
                    have b_232 := gI_tk hv h5
                    refine g_callv (g_runV (As := [.int (iI 1), .int (iI fr), .int (iI 0), .long 0]) (rest := []) (ci := 5) F hl.1 hH hS hz (c_X5_addToken l g gh I R J AI AJ AR a 1 fr 0 0 ⟨by decide, by decide⟩ zfr ⟨by decide, by decide⟩ hv h5 (by omega) (by omega)) (cwV 4 F.2.2.2.2.1 gX5_readRun_X5_addToken rfl rfl rfl hdX5_addToken ⟨Nat.le_of_ble_eq_true rfl, Nat.le_of_ble_eq_true rfl⟩) h5 (by decide) rfl rfl rfl (Nat.le_of_ble_eq_true rfl) dX5_readRun_162 ⟨Nat.zero_le _, Nat.zero_le _⟩) hS (fun I_233 R_234 J_235 AI_236 AJ_237 AR_238 H locs hp_239 hH hS => ?_)
                    dsimp only at hp_239
                    obtain ⟨rfl, rfl, rfl, hv, q_240, q_241⟩ := hp_239
                    exact g_vret F hr hlk hH hS hz ⟨rfl, rfl, rfl, hv, fun b hb => q_240 b hb, by first | omega | rfl | (dsimp only; omega)⟩ dX5_readRun_165
                  · refine lv_aload_n F.1 F.2.1 dX5_readRun_119 rfl (lv_at hl 3 rfl) ?_
                    refine lv_iload_n F.1 F.2.1 dX5_readRun_120 rfl (lv_at hl 4 rfl) ?_
                    refine z_iconst F dX5_readRun_121 ?_
                    refine z_iadd F dX5_readRun_122 ?_
                    have hx123 : 0 ≤ (fr + 1) ∧ (fr + 1) < ((936 : Nat) : Int) ∧ (fr + 1) ≤ 2147483647 := ⟨by omega, by omega, by omega⟩
                    refine g_bald F hH ht hx123.1 hx123.2.1 hx123.2.2 dX5_readRun_123 ?_
                    refine z_name (fun v_242 ev_242 => ?_)
                    have zv_242 : zr v_242 := by rw [ev_242]; exact zr_t _
                    refine z_bipush F dX5_readRun_124 (by decide) ?_
                    refine z_icmp_lt (tgt := 157) F dX5_readRun_126 (by decide) zv_242 ⟨by decide, by decide⟩ (fun c_243 => ?_) (fun c_243 => ?_)
                    · refine lv_aload_n F.1 F.2.1 dX5_readRun_157 rfl (lv_at hl 2 rfl) ?_
                      refine z_iconst F dX5_readRun_158 ?_
                      refine lv_iload_n F.1 F.2.1 dX5_readRun_159 rfl (lv_at hl 4 rfl) ?_
                      refine z_iconst F dX5_readRun_160 ?_
                      refine lv_lconst (v := 0) F.1 F.2.1 dX5_readRun_161 (by decide) ?_
                      have b_245 := gI_tk hv h5
                      refine g_callv (g_runV (As := [.int (iI 1), .int (iI fr), .int (iI 0), .long 0]) (rest := []) (ci := 5) F hl.1 hH hS hz (c_X5_addToken l g gh I R J AI AJ AR a 1 fr 0 0 ⟨by decide, by decide⟩ zfr ⟨by decide, by decide⟩ hv h5 (by omega) (by omega)) (cwV 4 F.2.2.2.2.1 gX5_readRun_X5_addToken rfl rfl rfl hdX5_addToken ⟨Nat.le_of_ble_eq_true rfl, Nat.le_of_ble_eq_true rfl⟩) h5 (by decide) rfl rfl rfl (Nat.le_of_ble_eq_true rfl) dX5_readRun_162 ⟨Nat.zero_le _, Nat.zero_le _⟩) hS (fun I_246 R_247 J_248 AI_249 AJ_250 AR_251 H locs hp_252 hH hS => ?_)
                      dsimp only at hp_252
                      obtain ⟨rfl, rfl, rfl, hv, q_253, q_254⟩ := hp_252
                      exact g_vret F hr hlk hH hS hz ⟨rfl, rfl, rfl, hv, fun b hb => q_253 b hb, by first | omega | rfl | (dsimp only; omega)⟩ dX5_readRun_165
                    · refine lv_aload_n F.1 F.2.1 dX5_readRun_129 rfl (lv_at hl 3 rfl) ?_
                      refine lv_iload_n F.1 F.2.1 dX5_readRun_130 rfl (lv_at hl 4 rfl) ?_
                      refine z_iconst F dX5_readRun_131 ?_
                      refine z_iadd F dX5_readRun_132 ?_
                      have hx133 : 0 ≤ (fr + 1) ∧ (fr + 1) < ((936 : Nat) : Int) ∧ (fr + 1) ≤ 2147483647 := ⟨by omega, by omega, by omega⟩
                      refine g_bald F hH ht hx133.1 hx133.2.1 hx133.2.2 dX5_readRun_133 ?_
                      refine z_name (fun v_255 ev_255 => ?_)
                      have zv_255 : zr v_255 := by rw [ev_255]; exact zr_t _
                      refine z_bipush F dX5_readRun_134 (by decide) ?_
                      refine z_icmp_gt (tgt := 157) F dX5_readRun_136 (by decide) zv_255 ⟨by decide, by decide⟩ (fun c_256 => ?_) (fun c_256 => ?_)
                      · refine lv_aload_n F.1 F.2.1 dX5_readRun_157 rfl (lv_at hl 2 rfl) ?_
                        refine z_iconst F dX5_readRun_158 ?_
                        refine lv_iload_n F.1 F.2.1 dX5_readRun_159 rfl (lv_at hl 4 rfl) ?_
                        refine z_iconst F dX5_readRun_160 ?_
                        refine lv_lconst (v := 0) F.1 F.2.1 dX5_readRun_161 (by decide) ?_
                        have b_258 := gI_tk hv h5
                        refine g_callv (g_runV (As := [.int (iI 1), .int (iI fr), .int (iI 0), .long 0]) (rest := []) (ci := 5) F hl.1 hH hS hz (c_X5_addToken l g gh I R J AI AJ AR a 1 fr 0 0 ⟨by decide, by decide⟩ zfr ⟨by decide, by decide⟩ hv h5 (by omega) (by omega)) (cwV 4 F.2.2.2.2.1 gX5_readRun_X5_addToken rfl rfl rfl hdX5_addToken ⟨Nat.le_of_ble_eq_true rfl, Nat.le_of_ble_eq_true rfl⟩) h5 (by decide) rfl rfl rfl (Nat.le_of_ble_eq_true rfl) dX5_readRun_162 ⟨Nat.zero_le _, Nat.zero_le _⟩) hS (fun I_259 R_260 J_261 AI_262 AJ_263 AR_264 H locs hp_265 hH hS => ?_)
                        dsimp only at hp_265
                        obtain ⟨rfl, rfl, rfl, hv, q_266, q_267⟩ := hp_265
                        exact g_vret F hr hlk hH hS hz ⟨rfl, rfl, rfl, hv, fun b hb => q_266 b hb, by first | omega | rfl | (dsimp only; omega)⟩ dX5_readRun_165
                      · refine lv_aload_n F.1 F.2.1 dX5_readRun_139 rfl (lv_at hl 2 rfl) ?_
                        refine z_iconst F dX5_readRun_140 ?_
                        refine lv_iload_n F.1 F.2.1 dX5_readRun_141 rfl (lv_at hl 4 rfl) ?_
                        refine lv_aload_n F.1 F.2.1 dX5_readRun_142 rfl (lv_at hl 3 rfl) ?_
                        refine lv_iload_n F.1 F.2.1 dX5_readRun_143 rfl (lv_at hl 4 rfl) ?_
                        refine z_iconst F dX5_readRun_144 ?_
                        refine z_iadd F dX5_readRun_145 ?_
                        have hx146 : 0 ≤ (fr + 1) ∧ (fr + 1) < ((936 : Nat) : Int) ∧ (fr + 1) ≤ 2147483647 := ⟨by omega, by omega, by omega⟩
                        refine g_bald F hH ht hx146.1 hx146.2.1 hx146.2.2 dX5_readRun_146 ?_
                        refine z_name (fun v_268 ev_268 => ?_)
                        have zv_268 : zr v_268 := by rw [ev_268]; exact zr_t _
                        refine z_bipush F dX5_readRun_147 (by decide) ?_
                        refine z_isub F dX5_readRun_149 ?_
                        refine lv_lconst (v := 0) F.1 F.2.1 dX5_readRun_150 (by decide) ?_
                        have b_270 := gI_tk hv h5
                        refine g_callv (g_runV (As := [.int (iI 2), .int (iI fr), .int (iI (v_268 - 48)), .long 0]) (rest := []) (ci := 5) F hl.1 hH hS hz (c_X5_addToken l g gh I R J AI AJ AR a 2 fr (v_268 - 48) 0 ⟨by decide, by decide⟩ zfr ⟨by omega, by omega⟩ hv h5 (by omega) (by omega)) (cwV 4 F.2.2.2.2.1 gX5_readRun_X5_addToken rfl rfl rfl hdX5_addToken ⟨Nat.le_of_ble_eq_true rfl, Nat.le_of_ble_eq_true rfl⟩) h5 (by decide) rfl rfl rfl (Nat.le_of_ble_eq_true rfl) dX5_readRun_151 ⟨Nat.zero_le _, Nat.zero_le _⟩) hS (fun I_271 R_272 J_273 AI_274 AJ_275 AR_276 H locs hp_277 hH hS => ?_)
                        dsimp only at hp_277
                        obtain ⟨rfl, rfl, rfl, hv, q_278, q_279⟩ := hp_277
                        refine z_goto (tgt := 165) F dX5_readRun_154 (by decide) ?_
                        exact g_vret F hr hlk hH hS hz ⟨rfl, rfl, rfl, hv, fun b hb => q_278 b hb, by first | omega | rfl | (dsimp only; omega)⟩ dX5_readRun_165
              · refine lv_aload_n F.1 F.2.1 dX5_readRun_89 rfl (lv_at hl 2 rfl) ?_
                refine z_iconst F dX5_readRun_90 ?_
                refine lv_iload_n F.1 F.2.1 dX5_readRun_91 rfl (lv_at hl 4 rfl) ?_
                refine lv_aload_n F.1 F.2.1 dX5_readRun_92 rfl (lv_at hl 3 rfl) ?_
                refine lv_iload_n F.1 F.2.1 dX5_readRun_93 rfl (lv_at hl 4 rfl) ?_
                refine lv_iload_n F.1 F.2.1 dX5_readRun_94 rfl (lv_at hl 5 rfl) ?_
                refine g_calli (g_runS (As := [.ref t, .int (iI fr), .int (iI to_)]) (rest := [.int (iI fr), .int (iI 4), .ref a]) F hl.1 hH hS hz (c_X5_numberOf l g  I R J AI AJ AR t fr to_ zfr zto_ ht (by omega) (by omega) (by omega)) (va_cwS 3 F.2.2.2.2.1 gX5_readRun_X5_numberOf rfl rfl rfl hdX5_numberOf.2 ⟨Nat.le_of_ble_eq_true rfl, Nat.le_of_ble_eq_true rfl⟩) rfl rfl (Nat.le_of_ble_eq_true rfl) dX5_readRun_95 ⟨Nat.zero_le _, Nat.zero_le _⟩) hS (fun v_286 I_280 R_281 J_282 AI_283 AJ_284 AR_285 H locs zv_286 hp_287 hH hS => ?_)
                dsimp only at hp_287
                obtain ⟨rfl, rfl, rfl, rfl, rfl, rfl⟩ := hp_287
                refine lv_lconst (v := 0) F.1 F.2.1 dX5_readRun_98 (by decide) ?_
                have b_289 := gI_tk hv h5
                refine g_callv (g_runV (As := [.int (iI 4), .int (iI fr), .int (iI v_286), .long 0]) (rest := []) (ci := 5) F hl.1 hH hS hz (c_X5_addToken l g gh I R J AI AJ AR a 4 fr v_286 0 ⟨by decide, by decide⟩ zfr zv_286 hv h5 (by omega) (by omega)) (cwV 4 F.2.2.2.2.1 gX5_readRun_X5_addToken rfl rfl rfl hdX5_addToken ⟨Nat.le_of_ble_eq_true rfl, Nat.le_of_ble_eq_true rfl⟩) h5 (by decide) rfl rfl rfl (Nat.le_of_ble_eq_true rfl) dX5_readRun_99 ⟨Nat.zero_le _, Nat.zero_le _⟩) hS (fun I_290 R_291 J_292 AI_293 AJ_294 AR_295 H locs hp_296 hH hS => ?_)
                dsimp only at hp_296
                obtain ⟨rfl, rfl, rfl, hv, q_297, q_298⟩ := hp_296
                refine z_goto (tgt := 165) F dX5_readRun_102 (by decide) ?_
                exact g_vret F hr hlk hH hS hz ⟨rfl, rfl, rfl, hv, fun b hb => q_297 b hb, by first | omega | rfl | (dsimp only; omega)⟩ dX5_readRun_165
          · refine lv_aload_n F.1 F.2.1 dX5_readRun_55 rfl (lv_at hl 2 rfl) ?_
            refine z_iconst F dX5_readRun_56 ?_
            refine lv_iload_n F.1 F.2.1 dX5_readRun_57 rfl (lv_at hl 4 rfl) ?_
            refine lv_aload_n F.1 F.2.1 dX5_readRun_58 rfl (lv_at hl 3 rfl) ?_
            refine lv_iload_n F.1 F.2.1 dX5_readRun_59 rfl (lv_at hl 4 rfl) ?_
            refine lv_iload_n F.1 F.2.1 dX5_readRun_60 rfl (lv_at hl 5 rfl) ?_
            refine g_calli (g_runS (As := [.ref t, .int (iI fr), .int (iI to_)]) (rest := [.int (iI fr), .int (iI 3), .ref a]) F hl.1 hH hS hz (c_X5_wordNumber l g  I R J AI AJ AR t fr to_ zfr zto_ ht (by omega) (by omega) (by omega)) (va_cwS 3 F.2.2.2.2.1 gX5_readRun_X5_wordNumber rfl rfl rfl hdX5_wordNumber.2 ⟨Nat.le_of_ble_eq_true rfl, Nat.le_of_ble_eq_true rfl⟩) rfl rfl (Nat.le_of_ble_eq_true rfl) dX5_readRun_61 ⟨Nat.zero_le _, Nat.zero_le _⟩) hS (fun v_305 I_299 R_300 J_301 AI_302 AJ_303 AR_304 H locs zv_305 hp_306 hH hS => ?_)
            dsimp only at hp_306
            obtain ⟨rfl, rfl, rfl, rfl, rfl, rfl, q_307⟩ := hp_306
            refine lv_aload_n F.1 F.2.1 dX5_readRun_64 rfl (lv_at hl 3 rfl) ?_
            refine lv_iload_n F.1 F.2.1 dX5_readRun_65 rfl (lv_at hl 4 rfl) ?_
            refine lv_iload_n F.1 F.2.1 dX5_readRun_66 rfl (lv_at hl 5 rfl) ?_
            refine g_calll (g_runS (As := [.ref t, .int (iI fr), .int (iI to_)]) (rest := [.int (iI v_305), .int (iI fr), .int (iI 3), .ref a]) F hl.1 hH hS hz (c_X5_nameOf l g  I R J AI AJ AR t fr to_ zfr zto_ ht (by omega) (by omega) (by omega)) (va_cwS 3 F.2.2.2.2.1 gX5_readRun_X5_nameOf rfl rfl rfl hdX5_nameOf.2 ⟨Nat.le_of_ble_eq_true rfl, Nat.le_of_ble_eq_true rfl⟩) rfl rfl (Nat.le_of_ble_eq_true rfl) dX5_readRun_67 ⟨Nat.zero_le _, Nat.zero_le _⟩) hS (fun v_314 I_308 R_309 J_310 AI_311 AJ_312 AR_313 H locs hp_315 hH hS => ?_)
            dsimp only at hp_315
            obtain ⟨rfl, rfl, rfl, rfl, rfl, rfl⟩ := hp_315
            have b_316 := gI_tk hv h5
            refine g_callv (g_runV (As := [.int (iI 3), .int (iI fr), .int (iI v_305), .long v_314]) (rest := []) (ci := 5) F hl.1 hH hS hz (c_X5_addToken l g gh I R J AI AJ AR a 3 fr v_305 v_314 ⟨by decide, by decide⟩ zfr zv_305 hv h5 (by omega) (by omega)) (cwV 4 F.2.2.2.2.1 gX5_readRun_X5_addToken rfl rfl rfl hdX5_addToken ⟨Nat.le_of_ble_eq_true rfl, Nat.le_of_ble_eq_true rfl⟩) h5 (by decide) rfl rfl rfl (Nat.le_of_ble_eq_true rfl) dX5_readRun_70 ⟨Nat.zero_le _, Nat.zero_le _⟩) hS (fun I_317 R_318 J_319 AI_320 AJ_321 AR_322 H locs hp_323 hH hS => ?_)
            dsimp only at hp_323
            obtain ⟨rfl, rfl, rfl, hv, q_324, q_325⟩ := hp_323
            refine z_goto (tgt := 165) F dX5_readRun_73 (by decide) ?_
            exact g_vret F hr hlk hH hS hz ⟨rfl, rfl, rfl, hv, fun b hb => q_324 b hb, by first | omega | rfl | (dsimp only; omega)⟩ dX5_readRun_165
      · refine lv_iload F.1 F.2.1 dX5_readRun_12 (lv_at hl 1 rfl) ?_
        refine lv_aload_n F.1 F.2.1 dX5_readRun_14 rfl (lv_at hl 3 rfl) ?_
        refine lv_iload F.1 F.2.1 dX5_readRun_15 (lv_at hl 0 rfl) ?_
        have hx17 : 0 ≤ i ∧ i < ((936 : Nat) : Int) ∧ i ≤ 2147483647 := ⟨by omega, by omega, by omega⟩
        refine g_bald F hH ht hx17.1 hx17.2.1 hx17.2.2 dX5_readRun_17 ?_
        refine z_name (fun v_326 ev_326 => ?_)
        have zv_326 : zr v_326 := by rw [ev_326]; exact zr_t _
        refine g_calli (g_runS (As := [.int (iI v_326)]) (rest := [.int (iI dg)]) F hl.1 hH hS hz (c_X5_isDigit l g  I R J AI AJ AR v_326 zv_326) (va_cwS 1 F.2.2.2.2.1 gX5_readRun_X5_isDigit rfl rfl rfl hdX5_isDigit.2 ⟨Nat.le_of_ble_eq_true rfl, Nat.le_of_ble_eq_true rfl⟩) rfl rfl (Nat.le_of_ble_eq_true rfl) dX5_readRun_18 ⟨Nat.zero_le _, Nat.zero_le _⟩) hS (fun v_333 I_327 R_328 J_329 AI_330 AJ_331 AR_332 H locs zv_333 hp_334 hH hS => ?_)
        dsimp only at hp_334
        obtain ⟨rfl, rfl, rfl, rfl, rfl, rfl, q_335⟩ := hp_334
        refine z_if_eq (tgt := 28) F dX5_readRun_21 (by decide) zv_333 (fun c_336 => ?_) (fun c_336 => ?_)
        · refine z_iconst F dX5_readRun_28 ?_
          refine z_iadd F dX5_readRun_29 ?_
          refine lv_istore (lv' := [(4, .int (iI (dg + 0))), (5, .int (iI i)), (0, .ref a), (1, .ref t), (2, .int (iI fr)), (3, .int (iI to_))]) F.1 F.2.1 dX5_readRun_30 hl (by decide) rfl (fun ls hl => ?_)
          refine z_iinc (lv' := [(5, .int (iI (i + 1))), (4, .int (iI (dg + 0))), (0, .ref a), (1, .ref t), (2, .int (iI fr)), (3, .int (iI to_))]) F dX5_readRun_32 hl (k := 1) rfl (by decide) rfl (fun ls hl => ?_)
          refine z_goto (tgt := 6) F dX5_readRun_35 (by decide) ?_
          exact ih6 (dg + 0) (i + 1) H locs ls ⟨by omega, by omega⟩ ⟨by omega, by omega⟩ (by omega) (by omega) hH hS (lv_sub hl [0, 1, 2, 3, 4, 5] rfl)
        · refine z_iconst F dX5_readRun_24 ?_
          refine z_goto (tgt := 29) F dX5_readRun_25 (by decide) ?_
          refine z_iadd F dX5_readRun_29 ?_
          refine lv_istore (lv' := [(4, .int (iI (dg + 1))), (5, .int (iI i)), (0, .ref a), (1, .ref t), (2, .int (iI fr)), (3, .int (iI to_))]) F.1 F.2.1 dX5_readRun_30 hl (by decide) rfl (fun ls hl => ?_)
          refine z_iinc (lv' := [(5, .int (iI (i + 1))), (4, .int (iI (dg + 1))), (0, .ref a), (1, .ref t), (2, .int (iI fr)), (3, .int (iI to_))]) F dX5_readRun_32 hl (k := 1) rfl (by decide) rfl (fun ls hl => ?_)
          refine z_goto (tgt := 6) F dX5_readRun_35 (by decide) ?_
          exact ih6 (dg + 1) (i + 1) H locs ls ⟨by omega, by omega⟩ ⟨by omega, by omega⟩ (by omega) (by omega) hH hS (lv_sub hl [0, 1, 2, 3, 4, 5] rfl)
  exact cut_6_0 (((to_ - fr) + 1 : Int).toNat) 0 fr H locs ls ⟨by decide, by decide⟩ zfr (by omega) (by omega) hH hS (lv_sub hl [0, 1, 2, 3, 4, 5] rfl)

def rmX5_read : Room := { frames := 7, cells := 0, slots := 0, locals := 159 }
theorem hdX5_read : yX5_read.cls = RX5 ∧ yX5_read.cls ≠ "java/lang/invoke/MethodHandle" ∧ yX5_read.cls ≠ "java/lang/invoke/VarHandle" ∧ (parseMethodDescriptor yX5_read.desc).map (fun d => d.parameters.length) = some 2 := by decide +kernel
set_option maxHeartbeats 4000000 in
set_option maxRecDepth 100000 in
/-- the tokens of a text -/
theorem c_X5_read (l : Launch) (g : gG) (gh : gGh) (I : gI) (R : gR) (J : gJ) (AI : gI) (AJ : gJ) (AR : gR) (a : Nat) (t : Nat) (n : Int) (zn : zr n) (hv : gInv g gh R AR I AI) (h5 : gO g a 5) (ht : gAr g t 8 936) (hn : 0 ≤ n ∧ n ≤ 900) : gMet l g yX5_read wsX5_read rmX5_read [.ref a, .ref t, .int (iI n)] (I, R, J, AI, AJ, AR) (gQv g (fun w : gS => R = w.2.1 ∧ J = w.2.2.1 ∧ AR = w.2.2.2.2.2 ∧ (gInv g gh R AR (w.1) (w.2.2.2.1)) ∧ (∀ b, b ≠ a → (w.1) b = I b) ∧ (1 ≤ ((w.1) a 4).toInt))) := by
  refine gStart (cc := cX5_read) (maxL := 6) (ret := none) (by decide) rfl (Nat.le_of_ble_eq_true rfl) ?_
  intro p e s m below meth c ls F hr hlk hH hz hS hl
  have hl : lv_has ls 6 [(0, .ref a), (1, .ref t), (2, .int (iI n))] := hl
  have hS : va_S (gA g) s.heap s.heap [] := hS
  obtain ⟨H, hHe⟩ : ∃ H : Heap, H = s.heap := ⟨_, rfl⟩
  obtain ⟨locs, hlo⟩ : ∃ k : List Loc, k = [] := ⟨_, rfl⟩
  have hH : gH g I R J AI AJ AR H := by rw [hHe]; exact hH
  have hS : va_S (gA g) s.heap H locs := by rw [hHe, hlo]; exact hS
  suffices hw : W p l e rmX5_read s m ([.ref a, .ref t, .int (iI n)] : List Value).toArray below meth c H locs 0 0 (MQ below (gQv g (fun w : gS => R = w.2.1 ∧ J = w.2.2.1 ∧ AR = w.2.2.2.2.2 ∧ (gInv g gh R AR (w.1) (w.2.2.2.1)) ∧ (∀ b, b ≠ a → (w.1) b = I b) ∧ (1 ≤ ((w.1) a 4).toInt))) ([.ref a, .ref t, .int (iI n)] : List Value).toArray s 0 0 (gA g)) (F0 m 0 ls []) by
    rw [hHe, hlo] at hw; exact hw
  clear hHe hlo
  have iX5 : ∀ w ∈ u_ws RX5 TX5 5, w ∈ wsX5_read := (by decide +kernel)
  have k25 : Cond.fieldLink RX5 25 (TX5 4).1 (TX5 4).2.1 (TX5 4).2.2.1 ∈ wsX5_read := List.mem_of_getElem? (i := 1) rfl
  refine lv_aload_n F.1 F.2.1 dX5_read_0 rfl (lv_at hl 0 rfl) ?_
  refine z_iconst F dX5_read_1 ?_
  refine g_putI (ci := 5) (k := 4) F hH hS rfl (by decide) iX5 h5 (by decide) tyX5 tyX5_ok nmX5 rfl rfl rfl k25 dX5_read_2 (fun H locs hH hS => ?_)
  obtain ⟨I_1, eI_1⟩ : ∃ qQ, qQ = gup2 I a 4 (iI (0)) := ⟨_, rfl⟩
  rw [← eI_1] at hH
  have kI_1 : ∀ b, b ≠ a → I_1 b = I b := fun b hb => by rw [eI_1]; exact funext fun j => gup2_a _ _ hb
  have e4 : (I_1 a 4).toInt = 0 := by rw [eI_1, gup2_s]; exact iI_val ⟨by decide, by decide⟩
  have hv : gInv g gh R AR I_1 AI := by rw [eI_1]; exact gInv_tokLen hv h5 (by decide) (by decide) (fun j hj => absurd hj (by omega))
  refine z_iconst F dX5_read_5 ?_
  refine lv_istore_n (lv' := [(3, .int (iI 0)), (0, .ref a), (1, .ref t), (2, .int (iI n))]) F.1 F.2.1 dX5_read_6 rfl hl (by decide) rfl (fun ls hl => ?_)
  have cut_7_4 : ∀ (NN : Nat) (i : Int) (I_2 : gI) (AI_3 : gI) (AJ_4 : gJ) (H : Heap) (locs : List Loc) (ls : Array Slot), zr i → (gInv g gh R AR I_2 AI_3) → (∀ b, b ≠ a → I_2 b = I b) → (0 ≤ i ∧ i ≤ n ∧ 0 ≤ (I_2 a 4).toInt ∧ (I_2 a 4).toInt ≤ i) → (n - i) < ((NN : Nat) : Int) → gH g I_2 R J AI_3 AJ_4 AR H → va_S (gA g) s.heap H locs → lv_has ls 6 [(3, .int (iI i)), (0, .ref a), (1, .ref t), (2, .int (iI n))] → W p l e rmX5_read s m ([.ref a, .ref t, .int (iI n)] : List Value).toArray below meth c H locs 0 0 (MQ below (gQv g (fun w : gS => R = w.2.1 ∧ J = w.2.2.1 ∧ AR = w.2.2.2.2.2 ∧ (gInv g gh R AR (w.1) (w.2.2.2.1)) ∧ (∀ b, b ≠ a → (w.1) b = I b) ∧ (1 ≤ ((w.1) a 4).toInt))) ([.ref a, .ref t, .int (iI n)] : List Value).toArray s 0 0 (gA g)) (F0 m 7 ls []) := by
    intro NN7
    induction NN7 with
    | zero =>
      intro i I_2 AI_3 AJ_4 H locs ls zi hv fI hi hm7 hH hS hl
      exact absurd hm7 (by omega)
    | succ NN7 ih7 =>
      intro i I_2 AI_3 AJ_4 H locs ls zi hv fI hi hm7 hH hS hl
      refine lv_iload_n F.1 F.2.1 dX5_read_7 rfl (lv_at hl 0 rfl) ?_
      refine lv_iload_n F.1 F.2.1 dX5_read_8 rfl (lv_at hl 3 rfl) ?_
      refine z_icmp_ge (tgt := 128) F dX5_read_9 (by decide) zi zn (fun c_6 => ?_) (fun c_6 => ?_)
      · refine lv_aload_n F.1 F.2.1 dX5_read_128 rfl (lv_at hl 1 rfl) ?_
        refine z_iconst F dX5_read_129 ?_
        refine lv_iload_n F.1 F.2.1 dX5_read_130 rfl (lv_at hl 3 rfl) ?_
        refine z_iconst F dX5_read_131 ?_
        refine lv_lconst (v := 0) F.1 F.2.1 dX5_read_132 (by decide) ?_
        have b_8 := gI_tk hv h5
        refine g_callv (g_runV (As := [.int (iI 0), .int (iI n), .int (iI 0), .long 0]) (rest := []) (ci := 5) F hl.1 hH hS hz (c_X5_addToken l g gh I_2 R J AI_3 AJ_4 AR a 0 n 0 0 ⟨by decide, by decide⟩ zn ⟨by decide, by decide⟩ hv h5 (by omega) (by omega)) (cwV 4 F.2.2.2.2.1 gX5_read_X5_addToken rfl rfl rfl hdX5_addToken ⟨Nat.le_of_ble_eq_true rfl, Nat.le_of_ble_eq_true rfl⟩) h5 (by decide) rfl rfl rfl (Nat.le_of_ble_eq_true rfl) dX5_read_133 ⟨Nat.zero_le _, Nat.zero_le _⟩) hS (fun I_9 R_10 J_11 AI_12 AJ_13 AR_14 H locs hp_15 hH hS => ?_)
        dsimp only at hp_15
        obtain ⟨rfl, rfl, rfl, hv, q_16, q_17⟩ := hp_15
        exact g_vret F hr hlk hH hS hz ⟨rfl, rfl, rfl, hv, fun b hb => (q_16 b hb).trans (fI b hb), by first | omega | rfl | (dsimp only; omega)⟩ dX5_read_136
      · refine lv_iload_n F.1 F.2.1 dX5_read_12 rfl (lv_at hl 0 rfl) ?_
        refine lv_istore (lv' := [(4, .int (iI i)), (3, .int (iI i)), (0, .ref a), (1, .ref t), (2, .int (iI n))]) F.1 F.2.1 dX5_read_13 hl (by decide) rfl (fun ls hl => ?_)
        refine z_iinc (lv' := [(3, .int (iI (i + 1))), (4, .int (iI i)), (0, .ref a), (1, .ref t), (2, .int (iI n))]) F dX5_read_15 hl (k := 1) rfl (by decide) rfl (fun ls hl => ?_)
        refine lv_aload_n F.1 F.2.1 dX5_read_18 rfl (lv_at hl 3 rfl) ?_
        refine lv_iload F.1 F.2.1 dX5_read_19 (lv_at hl 1 rfl) ?_
        have hx21 : 0 ≤ i ∧ i < ((936 : Nat) : Int) ∧ i ≤ 2147483647 := ⟨by omega, by omega, by omega⟩
        refine g_bald F hH ht hx21.1 hx21.2.1 hx21.2.2 dX5_read_21 ?_
        refine z_name (fun v_18 ev_18 => ?_)
        have zv_18 : zr v_18 := by rw [ev_18]; exact zr_t _
        refine g_calli (g_runS (As := [.int (iI v_18)]) (rest := []) F hl.1 hH hS hz (c_X5_isRunSign l g  I_2 R J AI_3 AJ_4 AR v_18 zv_18) (va_cwS 1 F.2.2.2.2.1 gX5_read_X5_isRunSign rfl rfl rfl hdX5_isRunSign.2 ⟨Nat.le_of_ble_eq_true rfl, Nat.le_of_ble_eq_true rfl⟩) rfl rfl (Nat.le_of_ble_eq_true rfl) dX5_read_22 ⟨Nat.zero_le _, Nat.zero_le _⟩) hS (fun v_25 I_19 R_20 J_21 AI_22 AJ_23 AR_24 H locs zv_25 hp_26 hH hS => ?_)
        dsimp only at hp_26
        obtain ⟨rfl, rfl, rfl, rfl, rfl, rfl, q_27⟩ := hp_26
        refine z_if_eq (tgt := 59) F dX5_read_25 (by decide) zv_25 (fun c_28 => ?_) (fun c_28 => ?_)
        · refine lv_aload_n F.1 F.2.1 dX5_read_59 rfl (lv_at hl 3 rfl) ?_
          refine lv_iload F.1 F.2.1 dX5_read_60 (lv_at hl 1 rfl) ?_
          have hx62 : 0 ≤ i ∧ i < ((936 : Nat) : Int) ∧ i ≤ 2147483647 := ⟨by omega, by omega, by omega⟩
          refine g_bald F hH ht hx62.1 hx62.2.1 hx62.2.2 dX5_read_62 ?_
          refine z_name (fun v_29 ev_29 => ?_)
          have zv_29 : zr v_29 := by rw [ev_29]; exact zr_t _
          refine z_bipush F dX5_read_63 (by decide) ?_
          refine z_icmp_eq (tgt := 125) F dX5_read_65 (by decide) zv_29 ⟨by decide, by decide⟩ (fun c_30 => ?_) (fun c_30 => ?_)
          · refine z_goto (tgt := 7) F dX5_read_125 (by decide) ?_
            exact ih7 (i + 1) I_2 AI_3 AJ_4 H locs ls ⟨by omega, by omega⟩ hv (fun b hb => fI b hb) (by omega) (by omega) hH hS (lv_sub hl [0, 2, 3, 4] rfl)
          · refine lv_aload_n F.1 F.2.1 dX5_read_68 rfl (lv_at hl 3 rfl) ?_
            refine lv_iload F.1 F.2.1 dX5_read_69 (lv_at hl 1 rfl) ?_
            have hx71 : 0 ≤ i ∧ i < ((936 : Nat) : Int) ∧ i ≤ 2147483647 := ⟨by omega, by omega, by omega⟩
            refine g_bald F hH ht hx71.1 hx71.2.1 hx71.2.2 dX5_read_71 ?_
            refine z_name (fun v_31 ev_31 => ?_)
            have zv_31 : zr v_31 := by rw [ev_31]; exact zr_t _
            refine z_bipush F dX5_read_72 (by decide) ?_
            refine z_icmp_eq (tgt := 125) F dX5_read_74 (by decide) zv_31 ⟨by decide, by decide⟩ (fun c_32 => ?_) (fun c_32 => ?_)
            · refine z_goto (tgt := 7) F dX5_read_125 (by decide) ?_
              exact ih7 (i + 1) I_2 AI_3 AJ_4 H locs ls ⟨by omega, by omega⟩ hv (fun b hb => fI b hb) (by omega) (by omega) hH hS (lv_sub hl [0, 2, 3, 4] rfl)
            · refine lv_aload_n F.1 F.2.1 dX5_read_77 rfl (lv_at hl 3 rfl) ?_
              refine lv_iload F.1 F.2.1 dX5_read_78 (lv_at hl 1 rfl) ?_
              have hx80 : 0 ≤ i ∧ i < ((936 : Nat) : Int) ∧ i ≤ 2147483647 := ⟨by omega, by omega, by omega⟩
              refine g_bald F hH ht hx80.1 hx80.2.1 hx80.2.2 dX5_read_80 ?_
              refine z_name (fun v_33 ev_33 => ?_)
              have zv_33 : zr v_33 := by rw [ev_33]; exact zr_t _
              refine z_if_le (tgt := 101) F dX5_read_81 (by decide) zv_33 (fun c_34 => ?_) (fun c_34 => ?_)
              · refine z_iconst F dX5_read_101 ?_
                refine lv_istore (lv' := [(5, .int (iI 0)), (3, .int (iI (i + 1))), (4, .int (iI i)), (0, .ref a), (1, .ref t), (2, .int (iI n))]) F.1 F.2.1 dX5_read_102 hl (by decide) rfl (fun ls hl => ?_)
                refine lv_aload_n F.1 F.2.1 dX5_read_104 rfl (lv_at hl 3 rfl) ?_
                refine lv_iload F.1 F.2.1 dX5_read_105 (lv_at hl 0 rfl) ?_
                refine z_if_eq (tgt := 117) F dX5_read_107 (by decide) ⟨by decide, by decide⟩ (fun c_35 => ?_) (fun c_35 => ?_)
                · refine z_iconst F dX5_read_117 ?_
                  refine lv_iload F.1 F.2.1 dX5_read_118 (lv_at hl 2 rfl) ?_
                  refine z_iconst F dX5_read_120 ?_
                  refine lv_lconst (v := 0) F.1 F.2.1 dX5_read_121 (by decide) ?_
                  have b_37 := gI_tk hv h5
                  refine g_callv (g_runV (As := [.int (iI 1), .int (iI i), .int (iI 0), .long 0]) (rest := []) (ci := 5) F hl.1 hH hS hz (c_X5_addToken l g gh I_2 R J AI_3 AJ_4 AR a 1 i 0 0 ⟨by decide, by decide⟩ zi ⟨by decide, by decide⟩ hv h5 (by omega) (by omega)) (cwV 4 F.2.2.2.2.1 gX5_read_X5_addToken rfl rfl rfl hdX5_addToken ⟨Nat.le_of_ble_eq_true rfl, Nat.le_of_ble_eq_true rfl⟩) h5 (by decide) rfl rfl rfl (Nat.le_of_ble_eq_true rfl) dX5_read_122 ⟨Nat.zero_le _, Nat.zero_le _⟩) hS (fun I_38 R_39 J_40 AI_41 AJ_42 AR_43 H locs hp_44 hH hS => ?_)
                  dsimp only at hp_44
                  obtain ⟨rfl, rfl, rfl, hv, q_45, q_46⟩ := hp_44
                  refine z_goto (tgt := 7) F dX5_read_125 (by decide) ?_
                  exact ih7 (i + 1) I_38 AI_41 AJ_42 H locs ls ⟨by omega, by omega⟩ hv (fun b hb => (q_45 b hb).trans (fI b hb)) (by omega) (by omega) hH hS (lv_sub hl [1, 3, 4, 5] rfl)
                · exact absurd trivial (by omega)
              · refine va_ldcS F.1 F.2.1 F.2.2.2.1 (F.2.2.2.2.2.2.1 1 _ rfl).1 dX5_read_84 ?_
                refine lv_aload_n F.1 F.2.1 dX5_read_86 rfl (lv_at hl 3 rfl) ?_
                refine lv_iload F.1 F.2.1 dX5_read_87 (lv_at hl 1 rfl) ?_
                have hx89 : 0 ≤ i ∧ i < ((936 : Nat) : Int) ∧ i ≤ 2147483647 := ⟨by omega, by omega, by omega⟩
                refine g_bald F hH ht hx89.1 hx89.2.1 hx89.2.2 dX5_read_89 ?_
                refine z_name (fun v_47 ev_47 => ?_)
                have zv_47 : zr v_47 := by rw [ev_47]; exact zr_t _
                refine lv_i2c F.1 F.2.1 dX5_read_90 rfl ?_
                refine z_top (fun v_48 zv_48 ev_48 => ?_)
                refine g_calli (g_runVS (As := [.int (iI v_48)]) (rest := []) F hl.1 hH hS hz (rfl : sTab[1]? = some _) (c_J0_indexOf_0f7a4 l g 1 _ I_2 R J AI_3 AJ_4 AR v_48 zv_48 (rfl : sTab[1]? = some _)) (cwV 1 F.2.2.2.2.1 gX5_read_J0_indexOf_0f7a4 rfl rfl rfl hdJ0_indexOf_0f7a4 ⟨Nat.le_of_ble_eq_true rfl, Nat.le_of_ble_eq_true rfl⟩) rfl rfl (Nat.le_of_ble_eq_true rfl) dX5_read_91 ⟨Nat.zero_le _, Nat.zero_le _⟩) hS (fun v_55 I_49 R_50 J_51 AI_52 AJ_53 AR_54 H locs zv_55 hp_56 hH hS => ?_)
                dsimp only at hp_56
                obtain ⟨rfl, rfl, rfl, rfl, rfl, rfl, q_57⟩ := hp_56
                refine z_if_lt (tgt := 101) F dX5_read_94 (by decide) zv_55 (fun c_58 => ?_) (fun c_58 => ?_)
                · refine z_iconst F dX5_read_101 ?_
                  refine lv_istore (lv' := [(5, .int (iI 0)), (3, .int (iI (i + 1))), (4, .int (iI i)), (0, .ref a), (1, .ref t), (2, .int (iI n))]) F.1 F.2.1 dX5_read_102 hl (by decide) rfl (fun ls hl => ?_)
                  refine lv_aload_n F.1 F.2.1 dX5_read_104 rfl (lv_at hl 3 rfl) ?_
                  refine lv_iload F.1 F.2.1 dX5_read_105 (lv_at hl 0 rfl) ?_
                  refine z_if_eq (tgt := 117) F dX5_read_107 (by decide) ⟨by decide, by decide⟩ (fun c_59 => ?_) (fun c_59 => ?_)
                  · refine z_iconst F dX5_read_117 ?_
                    refine lv_iload F.1 F.2.1 dX5_read_118 (lv_at hl 2 rfl) ?_
                    refine z_iconst F dX5_read_120 ?_
                    refine lv_lconst (v := 0) F.1 F.2.1 dX5_read_121 (by decide) ?_
                    have b_61 := gI_tk hv h5
                    refine g_callv (g_runV (As := [.int (iI 1), .int (iI i), .int (iI 0), .long 0]) (rest := []) (ci := 5) F hl.1 hH hS hz (c_X5_addToken l g gh I_2 R J AI_3 AJ_4 AR a 1 i 0 0 ⟨by decide, by decide⟩ zi ⟨by decide, by decide⟩ hv h5 (by omega) (by omega)) (cwV 4 F.2.2.2.2.1 gX5_read_X5_addToken rfl rfl rfl hdX5_addToken ⟨Nat.le_of_ble_eq_true rfl, Nat.le_of_ble_eq_true rfl⟩) h5 (by decide) rfl rfl rfl (Nat.le_of_ble_eq_true rfl) dX5_read_122 ⟨Nat.zero_le _, Nat.zero_le _⟩) hS (fun I_62 R_63 J_64 AI_65 AJ_66 AR_67 H locs hp_68 hH hS => ?_)
                    dsimp only at hp_68
                    obtain ⟨rfl, rfl, rfl, hv, q_69, q_70⟩ := hp_68
                    refine z_goto (tgt := 7) F dX5_read_125 (by decide) ?_
                    exact ih7 (i + 1) I_62 AI_65 AJ_66 H locs ls ⟨by omega, by omega⟩ hv (fun b hb => (q_69 b hb).trans (fI b hb)) (by omega) (by omega) hH hS (lv_sub hl [1, 3, 4, 5] rfl)
                  · exact absurd trivial (by omega)
                · refine z_iconst F dX5_read_97 ?_
                  refine z_goto (tgt := 102) F dX5_read_98 (by decide) ?_
                  refine lv_istore (lv' := [(5, .int (iI 1)), (3, .int (iI (i + 1))), (4, .int (iI i)), (0, .ref a), (1, .ref t), (2, .int (iI n))]) F.1 F.2.1 dX5_read_102 hl (by decide) rfl (fun ls hl => ?_)
                  refine lv_aload_n F.1 F.2.1 dX5_read_104 rfl (lv_at hl 3 rfl) ?_
                  refine lv_iload F.1 F.2.1 dX5_read_105 (lv_at hl 0 rfl) ?_
                  refine z_if_eq (tgt := 117) F dX5_read_107 (by decide) ⟨by decide, by decide⟩ (fun c_71 => ?_) (fun c_71 => ?_)
                  · exact absurd trivial (by omega)
                  · refine lv_aload_n F.1 F.2.1 dX5_read_110 rfl (lv_at hl 4 rfl) ?_
                    refine lv_iload F.1 F.2.1 dX5_read_111 (lv_at hl 2 rfl) ?_
                    have hx113 : 0 ≤ i ∧ i < ((936 : Nat) : Int) ∧ i ≤ 2147483647 := ⟨by omega, by omega, by omega⟩
                    refine g_bald F hH ht hx113.1 hx113.2.1 hx113.2.2 dX5_read_113 ?_
                    refine z_name (fun v_72 ev_72 => ?_)
                    have zv_72 : zr v_72 := by rw [ev_72]; exact zr_t _
                    refine z_goto (tgt := 118) F dX5_read_114 (by decide) ?_
                    refine lv_iload F.1 F.2.1 dX5_read_118 (lv_at hl 2 rfl) ?_
                    refine z_iconst F dX5_read_120 ?_
                    refine lv_lconst (v := 0) F.1 F.2.1 dX5_read_121 (by decide) ?_
                    have b_74 := gI_tk hv h5
                    refine g_callv (g_runV (As := [.int (iI v_72), .int (iI i), .int (iI 0), .long 0]) (rest := []) (ci := 5) F hl.1 hH hS hz (c_X5_addToken l g gh I_2 R J AI_3 AJ_4 AR a v_72 i 0 0 zv_72 zi ⟨by decide, by decide⟩ hv h5 (by omega) (by omega)) (cwV 4 F.2.2.2.2.1 gX5_read_X5_addToken rfl rfl rfl hdX5_addToken ⟨Nat.le_of_ble_eq_true rfl, Nat.le_of_ble_eq_true rfl⟩) h5 (by decide) rfl rfl rfl (Nat.le_of_ble_eq_true rfl) dX5_read_122 ⟨Nat.zero_le _, Nat.zero_le _⟩) hS (fun I_75 R_76 J_77 AI_78 AJ_79 AR_80 H locs hp_81 hH hS => ?_)
                    dsimp only at hp_81
                    obtain ⟨rfl, rfl, rfl, hv, q_82, q_83⟩ := hp_81
                    refine z_goto (tgt := 7) F dX5_read_125 (by decide) ?_
                    exact ih7 (i + 1) I_75 AI_78 AJ_79 H locs ls ⟨by omega, by omega⟩ hv (fun b hb => (q_82 b hb).trans (fI b hb)) (by omega) (by omega) hH hS (lv_sub hl [1, 3, 4, 5] rfl)
        · have cut_28_83 : ∀ (NN : Nat) (i2 : Int) (H : Heap) (locs : List Loc) (ls : Array Slot), zr i2 → (i < i2 ∧ i2 ≤ n) → (n - i2) < ((NN : Nat) : Int) → gH g I_2 R J AI_3 AJ_4 AR H → va_S (gA g) s.heap H locs → lv_has ls 6 [(3, .int (iI i2)), (4, .int (iI i)), (0, .ref a), (1, .ref t), (2, .int (iI n))] → W p l e rmX5_read s m ([.ref a, .ref t, .int (iI n)] : List Value).toArray below meth c H locs 0 0 (MQ below (gQv g (fun w : gS => R = w.2.1 ∧ J = w.2.2.1 ∧ AR = w.2.2.2.2.2 ∧ (gInv g gh R AR (w.1) (w.2.2.2.1)) ∧ (∀ b, b ≠ a → (w.1) b = I b) ∧ (1 ≤ ((w.1) a 4).toInt))) ([.ref a, .ref t, .int (iI n)] : List Value).toArray s 0 0 (gA g)) (F0 m 28 ls []) := by
            intro NN28
            induction NN28 with
            | zero =>
              intro i2 H locs ls zi2 hi2 hm28 hH hS hl
              exact absurd hm28 (by omega)
            | succ NN28 ih28 =>
              intro i2 H locs ls zi2 hi2 hm28 hH hS hl
              refine lv_iload_n F.1 F.2.1 dX5_read_28 rfl (lv_at hl 0 rfl) ?_
              refine lv_iload_n F.1 F.2.1 dX5_read_29 rfl (lv_at hl 4 rfl) ?_
              refine z_icmp_ge (tgt := 48) F dX5_read_30 (by decide) zi2 zn (fun c_85 => ?_) (fun c_85 => ?_)
              · refine lv_aload_n F.1 F.2.1 dX5_read_48 rfl (lv_at hl 2 rfl) ?_
                refine lv_aload_n F.1 F.2.1 dX5_read_49 rfl (lv_at hl 3 rfl) ?_
                refine lv_iload F.1 F.2.1 dX5_read_50 (lv_at hl 1 rfl) ?_
                refine lv_iload_n F.1 F.2.1 dX5_read_52 rfl (lv_at hl 0 rfl) ?_
                have b_86 := gI_tk hv h5
                refine g_callv (g_runV (As := [.ref t, .int (iI i), .int (iI i2)]) (rest := []) (ci := 5) F hl.1 hH hS hz (c_X5_readRun l g gh I_2 R J AI_3 AJ_4 AR a t i i2 zi zi2 hv h5 (by omega) ht (by omega) (by omega) (by omega) (by omega)) (cwV 3 F.2.2.2.2.1 gX5_read_X5_readRun rfl rfl rfl hdX5_readRun ⟨Nat.le_of_ble_eq_true rfl, Nat.le_of_ble_eq_true rfl⟩) h5 (by decide) rfl rfl rfl (Nat.le_of_ble_eq_true rfl) dX5_read_53 ⟨Nat.zero_le _, Nat.zero_le _⟩) hS (fun I_87 R_88 J_89 AI_90 AJ_91 AR_92 H locs hp_93 hH hS => ?_)
                dsimp only at hp_93
                obtain ⟨rfl, rfl, rfl, hv, q_94, q_95⟩ := hp_93
                refine z_goto (tgt := 125) F dX5_read_56 (by decide) ?_
                refine z_goto (tgt := 7) F dX5_read_125 (by decide) ?_
                exact ih7 i2 I_87 AI_90 AJ_91 H locs ls zi2 hv (fun b hb => (q_94 b hb).trans (fI b hb)) (by omega) (by omega) hH hS (lv_sub hl [0, 2, 3, 4] rfl)
              · refine lv_aload_n F.1 F.2.1 dX5_read_33 rfl (lv_at hl 3 rfl) ?_
                refine lv_iload_n F.1 F.2.1 dX5_read_34 rfl (lv_at hl 0 rfl) ?_
                have hx35 : 0 ≤ i2 ∧ i2 < ((936 : Nat) : Int) ∧ i2 ≤ 2147483647 := ⟨by omega, by omega, by omega⟩
                refine g_bald F hH ht hx35.1 hx35.2.1 hx35.2.2 dX5_read_35 ?_
                refine z_name (fun v_96 ev_96 => ?_)
                have zv_96 : zr v_96 := by rw [ev_96]; exact zr_t _
                refine g_calli (g_runS (As := [.int (iI v_96)]) (rest := []) F hl.1 hH hS hz (c_X5_isRunSign l g  I_2 R J AI_3 AJ_4 AR v_96 zv_96) (va_cwS 1 F.2.2.2.2.1 gX5_read_X5_isRunSign rfl rfl rfl hdX5_isRunSign.2 ⟨Nat.le_of_ble_eq_true rfl, Nat.le_of_ble_eq_true rfl⟩) rfl rfl (Nat.le_of_ble_eq_true rfl) dX5_read_36 ⟨Nat.zero_le _, Nat.zero_le _⟩) hS (fun v_103 I_97 R_98 J_99 AI_100 AJ_101 AR_102 H locs zv_103 hp_104 hH hS => ?_)
                dsimp only at hp_104
                obtain ⟨rfl, rfl, rfl, rfl, rfl, rfl, q_105⟩ := hp_104
                refine z_if_eq (tgt := 48) F dX5_read_39 (by decide) zv_103 (fun c_106 => ?_) (fun c_106 => ?_)
                · refine lv_aload_n F.1 F.2.1 dX5_read_48 rfl (lv_at hl 2 rfl) ?_
                  refine lv_aload_n F.1 F.2.1 dX5_read_49 rfl (lv_at hl 3 rfl) ?_
                  refine lv_iload F.1 F.2.1 dX5_read_50 (lv_at hl 1 rfl) ?_
                  refine lv_iload_n F.1 F.2.1 dX5_read_52 rfl (lv_at hl 0 rfl) ?_
                  have b_107 := gI_tk hv h5
                  refine g_callv (g_runV (As := [.ref t, .int (iI i), .int (iI i2)]) (rest := []) (ci := 5) F hl.1 hH hS hz (c_X5_readRun l g gh I_2 R J AI_3 AJ_4 AR a t i i2 zi zi2 hv h5 (by omega) ht (by omega) (by omega) (by omega) (by omega)) (cwV 3 F.2.2.2.2.1 gX5_read_X5_readRun rfl rfl rfl hdX5_readRun ⟨Nat.le_of_ble_eq_true rfl, Nat.le_of_ble_eq_true rfl⟩) h5 (by decide) rfl rfl rfl (Nat.le_of_ble_eq_true rfl) dX5_read_53 ⟨Nat.zero_le _, Nat.zero_le _⟩) hS (fun I_108 R_109 J_110 AI_111 AJ_112 AR_113 H locs hp_114 hH hS => ?_)
                  dsimp only at hp_114
                  obtain ⟨rfl, rfl, rfl, hv, q_115, q_116⟩ := hp_114
                  refine z_goto (tgt := 125) F dX5_read_56 (by decide) ?_
                  refine z_goto (tgt := 7) F dX5_read_125 (by decide) ?_
                  exact ih7 i2 I_108 AI_111 AJ_112 H locs ls zi2 hv (fun b hb => (q_115 b hb).trans (fI b hb)) (by omega) (by omega) hH hS (lv_sub hl [0, 2, 3, 4] rfl)
                · refine z_iinc (lv' := [(3, .int (iI (i2 + 1))), (4, .int (iI i)), (0, .ref a), (1, .ref t), (2, .int (iI n))]) F dX5_read_42 hl (k := 0) rfl (by decide) rfl (fun ls hl => ?_)
                  refine z_goto (tgt := 28) F dX5_read_45 (by decide) ?_
                  exact ih28 (i2 + 1) H locs ls ⟨by omega, by omega⟩ (by omega) (by omega) hH hS (lv_sub hl [0, 1, 2, 3, 4] rfl)
          exact cut_28_83 (((n - (i + 1)) + 1 : Int).toNat) (i + 1) H locs ls ⟨by omega, by omega⟩ (by omega) (by omega) hH hS (lv_sub hl [0, 1, 2, 3, 4] rfl)
  exact cut_7_4 (((n - 0) + 1 : Int).toNat) 0 I_1 AI AJ H locs ls ⟨by decide, by decide⟩ hv (fun b hb => kI_1 b hb) (by omega) (by omega) hH hS (lv_sub hl [0, 1, 2, 3] rfl)
