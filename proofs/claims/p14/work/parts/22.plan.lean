section
theorem hdX4_copyFrom : yX4_copyFrom.cls = RX4 ∧ yX4_copyFrom.cls ≠ "java/lang/invoke/MethodHandle" ∧ yX4_copyFrom.cls ≠ "java/lang/invoke/VarHandle" ∧ (parseMethodDescriptor yX4_copyFrom.desc).map (fun d => d.parameters.length) = some 1 := by decide +kernel
def rmX2_relationOf : Room := { frames := 0, cells := 0, slots := 0, locals := 0 }
theorem hdX2_relationOf : yX2_relationOf.cls = RX2 ∧ yX2_relationOf.cls ≠ "java/lang/invoke/MethodHandle" ∧ yX2_relationOf.cls ≠ "java/lang/invoke/VarHandle" ∧ (parseMethodDescriptor yX2_relationOf.desc).map (fun d => d.parameters.length) = some 1 := by decide +kernel
set_option maxHeartbeats 4000000 in
set_option maxRecDepth 100000 in
/-- the relation of a name -/
theorem c_X2_relationOf (l : Launch) (g : gG) (gh : gGh) (I : gI) (R : gR) (J : gJ) (AI : gI) (AJ : gJ) (AR : gR) (a : Nat) (nm : Int64) (hv : gInv g gh R AR I AI) (ha : gO g a 2) : gMet l g yX2_relationOf wsX2_relationOf rmX2_relationOf [.ref a, .long nm] (I, R, J, AI, AJ, AR) (gQi g (fun (z : Int) (w : gS) => I = w.1 ∧ R = w.2.1 ∧ J = w.2.2.1 ∧ AI = w.2.2.2.1 ∧ AJ = w.2.2.2.2.1 ∧ AR = w.2.2.2.2.2 ∧ ((z = -1 ∧ ∀ j : Nat, (j : Int) < (I a 1).toInt → ∀ b, AR (gh 6 a) j = some b → J b 1 ≠ nm) ∨ (0 ≤ z ∧ z < (I a 1).toInt ∧ ∃ b, AR (gh 6 a) z.toNat = some b ∧ J b 1 = nm)))) := by
  refine gStart (cc := cX2_relationOf) (maxL := 4) (ret := (some (.int))) (by decide) rfl (Nat.le_of_ble_eq_true rfl) ?_
  intro p e s m below meth c ls F hr hlk hH hz hS hl
  have hl : lv_has ls 4 [(0, .ref a), (1, .long nm)] := hl
  have hS : va_S (gA g) s.heap s.heap [] := hS
  obtain ⟨H, hHe⟩ : ∃ H : Heap, H = s.heap := ⟨_, rfl⟩
  obtain ⟨locs, hlo⟩ : ∃ k : List Loc, k = [] := ⟨_, rfl⟩
  have hH : gH g I R J AI AJ AR H := by rw [hHe]; exact hH
  have hS : va_S (gA g) s.heap H locs := by rw [hHe, hlo]; exact hS
  suffices hw : W p l e rmX2_relationOf s m ([.ref a, .long nm] : List Value).toArray below meth c H locs 0 0 (MQ below (gQi g (fun (z : Int) (w : gS) => I = w.1 ∧ R = w.2.1 ∧ J = w.2.2.1 ∧ AI = w.2.2.2.1 ∧ AJ = w.2.2.2.2.1 ∧ AR = w.2.2.2.2.2 ∧ ((z = -1 ∧ ∀ j : Nat, (j : Int) < (I a 1).toInt → ∀ b, AR (gh 6 a) j = some b → J b 1 ≠ nm) ∨ (0 ≤ z ∧ z < (I a 1).toInt ∧ ∃ b, AR (gh 6 a) z.toNat = some b ∧ J b 1 = nm)))) ([.ref a, .long nm] : List Value).toArray s 0 0 (gA g)) (F0 m 0 ls []) by
    rw [hHe, hlo] at hw; exact hw
  clear hHe hlo
  have iX2 : ∀ w ∈ u_ws RX2 TX2 3, w ∈ wsX2_relationOf := (by decide +kernel)
  have iX0 : ∀ w ∈ u_ws RX0 TX0 15, w ∈ wsX2_relationOf := (by decide +kernel)
  have k18 : Cond.fieldLink RX2 18 (TX2 1).1 (TX2 1).2.1 (TX2 1).2.2.1 ∈ wsX2_relationOf := List.mem_of_getElem? (i := 1) rfl
  have k11 : Cond.fieldLink RX2 11 (TX2 0).1 (TX2 0).2.1 (TX2 0).2.2.1 ∈ wsX2_relationOf := List.mem_of_getElem? (i := 2) rfl
  have k22 : Cond.fieldLink RX2 22 (TX0 1).1 (TX0 1).2.1 (TX0 1).2.2.1 ∈ wsX2_relationOf := List.mem_of_getElem? (i := 3) rfl
  refine z_iconst F dX2_relationOf_0 ?_
  refine lv_istore_n (lv' := [(3, .int (iI 0)), (0, .ref a), (1, .long nm)]) F.1 F.2.1 dX2_relationOf_1 rfl hl (by decide) rfl (fun ls hl => ?_)
  have cut_2_0 : ∀ (NN : Nat) (i : Int) (H : Heap) (locs : List Loc) (ls : Array Slot), zr i → (0 ≤ i ∧ i ≤ 16) → (∀ j : Nat, (j : Int) < i → ∀ b, AR (gh 6 a) j = some b → J b 1 ≠ nm) → (16 - i) < ((NN : Nat) : Int) → gH g I R J AI AJ AR H → va_S (gA g) s.heap H locs → lv_has ls 4 [(3, .int (iI i)), (0, .ref a), (1, .long nm)] → W p l e rmX2_relationOf s m ([.ref a, .long nm] : List Value).toArray below meth c H locs 0 0 (MQ below (gQi g (fun (z : Int) (w : gS) => I = w.1 ∧ R = w.2.1 ∧ J = w.2.2.1 ∧ AI = w.2.2.2.1 ∧ AJ = w.2.2.2.2.1 ∧ AR = w.2.2.2.2.2 ∧ ((z = -1 ∧ ∀ j : Nat, (j : Int) < (I a 1).toInt → ∀ b, AR (gh 6 a) j = some b → J b 1 ≠ nm) ∨ (0 ≤ z ∧ z < (I a 1).toInt ∧ ∃ b, AR (gh 6 a) z.toNat = some b ∧ J b 1 = nm)))) ([.ref a, .long nm] : List Value).toArray s 0 0 (gA g)) (F0 m 2 ls []) := by
    intro NN2
    induction NN2 with
    | zero =>
      intro i H locs ls zi hi hn hm2 hH hS hl
      exact absurd hm2 (by omega)
    | succ NN2 ih2 =>
      intro i H locs ls zi hi hn hm2 hH hS hl
      refine lv_iload_n F.1 F.2.1 dX2_relationOf_2 rfl (lv_at hl 0 rfl) ?_
      refine lv_aload_n F.1 F.2.1 dX2_relationOf_3 rfl (lv_at hl 1 rfl) ?_
      refine g_getI (ci := 2) (k := 1) F hH rfl (by decide) iX2 ha (by decide) rfl k18 dX2_relationOf_4 ?_
      have b_2 := gI_plan hv ha
      refine z_icmp_ge (tgt := 32) F dX2_relationOf_7 (by decide) zi (zr_t _) (fun c_3 => ?_) (fun c_3 => ?_)
      · refine z_iconst F dX2_relationOf_32 ?_
        exact g_iret F hr hlk hH hS hz ⟨by decide, by decide⟩ ⟨rfl, rfl, rfl, rfl, rfl, rfl, Or.inl ⟨rfl, fun j hj => hn j (by omega)⟩⟩ dX2_relationOf_33
      · refine lv_aload_n F.1 F.2.1 dX2_relationOf_10 rfl (lv_at hl 1 rfl) ?_
        obtain ⟨r_4a, r_4b⟩ := gR_lines hv ha
        refine g_getR (ci := 2) (k := 0) F hH rfl (by decide) iX2 ha (by decide) rfl (b := gh 6 a) r_4a k11 dX2_relationOf_11 ?_
        refine lv_iload_n F.1 F.2.1 dX2_relationOf_14 rfl (lv_at hl 0 rfl) ?_
        have hx15 : 0 ≤ i ∧ i < ((16 : Nat) : Int) ∧ i ≤ 2147483647 := ⟨by omega, by omega, by omega⟩
        obtain ⟨y_5, y_5a, y_5b, y_5c, y_5d⟩ := gA_lines hv ha (z := i) (by omega) (by omega)
        refine g_aldL F hH r_4b hx15.1 hx15.2.1 hx15.2.2 (b := y_5) y_5a dX2_relationOf_15 ?_
        refine g_getJ (ci := 0) (k := 1) F hH rfl (by decide) iX0 y_5b (by decide) rfl k22 dX2_relationOf_16 ?_
        refine lv_topl (fun j_6 ej_6 => ?_)
        refine lv_lload_n F.1 F.2.1 dX2_relationOf_19 rfl (lv_at hl 2 rfl) ?_
        refine W.lcmp F.1 F.2.1 dX2_relationOf_20 ?_
        refine z_top (fun v_7 zv_7 ev_7 => ?_)
        have lv_7 : v_7 = 0 ↔ j_6 = nm := by rw [ev_7]; exact z_lcmp
        refine z_if_ne (tgt := 26) F dX2_relationOf_21 (by decide) zv_7 (fun c_8 => ?_) (fun c_8 => ?_)
        · have hn : ∀ j : Nat, (j : Int) < i + 1 → ∀ b, AR (gh 6 a) j = some b → J b 1 ≠ nm := fun j hj b hb => by
            by_cases hq : (j : Int) < i
            · exact hn j hq b hb
            · have ej : j = i.toNat := by omega
              rw [ej, y_5a] at hb
              rw [← Option.some.inj hb]
              intro hc; exact absurd (lv_7.mpr (by rw [ej_6]; exact hc)) (by omega)
          refine z_iinc (lv' := [(3, .int (iI (i + 1))), (0, .ref a), (1, .long nm)]) F dX2_relationOf_26 hl (k := 0) rfl (by decide) rfl (fun ls hl => ?_)
          refine z_goto (tgt := 2) F dX2_relationOf_29 (by decide) ?_
          exact ih2 (i + 1) H locs ls ⟨by omega, by omega⟩ (by omega) hn (by omega) hH hS (lv_sub hl [0, 1, 2] rfl)
        · refine lv_iload_n F.1 F.2.1 dX2_relationOf_24 rfl (lv_at hl 0 rfl) ?_
          exact g_iret F hr hlk hH hS hz zi ⟨rfl, rfl, rfl, rfl, rfl, rfl, Or.inr ⟨by omega, by omega, y_5, y_5a, by rw [← ej_6]; exact lv_7.mp (by omega)⟩⟩ dX2_relationOf_25
  exact cut_2_0 (((16 - 0) + 1 : Int).toNat) 0 H locs ls ⟨by decide, by decide⟩ (by omega) (fun j hj => absurd hj (by omega)) (by omega) hH hS (lv_sub hl [0, 1, 2] rfl)

def rmX2_hangingOn : Room := { frames := 0, cells := 0, slots := 0, locals := 0 }
theorem hdX2_hangingOn : yX2_hangingOn.cls = RX2 ∧ yX2_hangingOn.cls ≠ "java/lang/invoke/MethodHandle" ∧ yX2_hangingOn.cls ≠ "java/lang/invoke/VarHandle" ∧ (parseMethodDescriptor yX2_hangingOn.desc).map (fun d => d.parameters.length) = some 1 := by decide +kernel
set_option maxHeartbeats 4000000 in
set_option maxRecDepth 100000 in
/-- what hangs on a relation -/
theorem c_X2_hangingOn (l : Launch) (g : gG) (gh : gGh) (I : gI) (R : gR) (J : gJ) (AI : gI) (AJ : gJ) (AR : gR) (a : Nat) (rel : Int) (zrel : zr rel) (hv : gInv g gh R AR I AI) (ha : gO g a 2) : gMet l g yX2_hangingOn wsX2_hangingOn rmX2_hangingOn [.ref a, .int (iI rel)] (I, R, J, AI, AJ, AR) (gQi g (fun (z : Int) (w : gS) => I = w.1 ∧ R = w.2.1 ∧ J = w.2.2.1 ∧ AI = w.2.2.2.1 ∧ AJ = w.2.2.2.2.1 ∧ AR = w.2.2.2.2.2)) := by
  refine gStart (cc := cX2_hangingOn) (maxL := 4) (ret := (some (.int))) (by decide) rfl (Nat.le_of_ble_eq_true rfl) ?_
  intro p e s m below meth c ls F hr hlk hH hz hS hl
  have hl : lv_has ls 4 [(0, .ref a), (1, .int (iI rel))] := hl
  have hS : va_S (gA g) s.heap s.heap [] := hS
  obtain ⟨H, hHe⟩ : ∃ H : Heap, H = s.heap := ⟨_, rfl⟩
  obtain ⟨locs, hlo⟩ : ∃ k : List Loc, k = [] := ⟨_, rfl⟩
  have hH : gH g I R J AI AJ AR H := by rw [hHe]; exact hH
  have hS : va_S (gA g) s.heap H locs := by rw [hHe, hlo]; exact hS
  suffices hw : W p l e rmX2_hangingOn s m ([.ref a, .int (iI rel)] : List Value).toArray below meth c H locs 0 0 (MQ below (gQi g (fun (z : Int) (w : gS) => I = w.1 ∧ R = w.2.1 ∧ J = w.2.2.1 ∧ AI = w.2.2.2.1 ∧ AJ = w.2.2.2.2.1 ∧ AR = w.2.2.2.2.2)) ([.ref a, .int (iI rel)] : List Value).toArray s 0 0 (gA g)) (F0 m 0 ls []) by
    rw [hHe, hlo] at hw; exact hw
  clear hHe hlo
  have iX2 : ∀ w ∈ u_ws RX2 TX2 3, w ∈ wsX2_hangingOn := (by decide +kernel)
  have iX0 : ∀ w ∈ u_ws RX0 TX0 15, w ∈ wsX2_hangingOn := (by decide +kernel)
  have k18 : Cond.fieldLink RX2 18 (TX2 1).1 (TX2 1).2.1 (TX2 1).2.2.1 ∈ wsX2_hangingOn := List.mem_of_getElem? (i := 1) rfl
  have k11 : Cond.fieldLink RX2 11 (TX2 0).1 (TX2 0).2.1 (TX2 0).2.2.1 ∈ wsX2_hangingOn := List.mem_of_getElem? (i := 2) rfl
  have k26 : Cond.fieldLink RX2 26 (TX0 13).1 (TX0 13).2.1 (TX0 13).2.2.1 ∈ wsX2_hangingOn := List.mem_of_getElem? (i := 3) rfl
  refine z_iconst F dX2_hangingOn_0 ?_
  refine lv_istore_n (lv' := [(2, .int (iI 0)), (0, .ref a), (1, .int (iI rel))]) F.1 F.2.1 dX2_hangingOn_1 rfl hl (by decide) rfl (fun ls hl => ?_)
  refine z_iconst F dX2_hangingOn_2 ?_
  refine lv_istore_n (lv' := [(3, .int (iI 0)), (2, .int (iI 0)), (0, .ref a), (1, .int (iI rel))]) F.1 F.2.1 dX2_hangingOn_3 rfl hl (by decide) rfl (fun ls hl => ?_)
  have cut_4_0 : ∀ (NN : Nat) (bits i : Int) (H : Heap) (locs : List Loc) (ls : Array Slot), zr bits → zr i → (0 ≤ i ∧ i ≤ 16) → (16 - i) < ((NN : Nat) : Int) → gH g I R J AI AJ AR H → va_S (gA g) s.heap H locs → lv_has ls 4 [(3, .int (iI i)), (2, .int (iI bits)), (0, .ref a), (1, .int (iI rel))] → W p l e rmX2_hangingOn s m ([.ref a, .int (iI rel)] : List Value).toArray below meth c H locs 0 0 (MQ below (gQi g (fun (z : Int) (w : gS) => I = w.1 ∧ R = w.2.1 ∧ J = w.2.2.1 ∧ AI = w.2.2.2.1 ∧ AJ = w.2.2.2.2.1 ∧ AR = w.2.2.2.2.2)) ([.ref a, .int (iI rel)] : List Value).toArray s 0 0 (gA g)) (F0 m 4 ls []) := by
    intro NN4
    induction NN4 with
    | zero =>
      intro bits i H locs ls zbits zi hi hm4 hH hS hl
      exact absurd hm4 (by omega)
    | succ NN4 ih4 =>
      intro bits i H locs ls zbits zi hi hm4 hH hS hl
      refine lv_iload_n F.1 F.2.1 dX2_hangingOn_4 rfl (lv_at hl 0 rfl) ?_
      refine lv_aload_n F.1 F.2.1 dX2_hangingOn_5 rfl (lv_at hl 2 rfl) ?_
      refine g_getI (ci := 2) (k := 1) F hH rfl (by decide) iX2 ha (by decide) rfl k18 dX2_hangingOn_6 ?_
      have b_2 := gI_plan hv ha
      refine z_icmp_ge (tgt := 36) F dX2_hangingOn_9 (by decide) zi (zr_t _) (fun c_3 => ?_) (fun c_3 => ?_)
      · refine lv_iload_n F.1 F.2.1 dX2_hangingOn_36 rfl (lv_at hl 1 rfl) ?_
        exact g_iret F hr hlk hH hS hz zbits ⟨rfl, rfl, rfl, rfl, rfl, rfl⟩ dX2_hangingOn_37
      · refine lv_iload_n F.1 F.2.1 dX2_hangingOn_12 rfl (lv_at hl 1 rfl) ?_
        refine lv_aload_n F.1 F.2.1 dX2_hangingOn_13 rfl (lv_at hl 2 rfl) ?_
        obtain ⟨r_4a, r_4b⟩ := gR_lines hv ha
        refine g_getR (ci := 2) (k := 0) F hH rfl (by decide) iX2 ha (by decide) rfl (b := gh 6 a) r_4a k11 dX2_hangingOn_14 ?_
        refine lv_iload_n F.1 F.2.1 dX2_hangingOn_17 rfl (lv_at hl 0 rfl) ?_
        have hx18 : 0 ≤ i ∧ i < ((16 : Nat) : Int) ∧ i ≤ 2147483647 := ⟨by omega, by omega, by omega⟩
        obtain ⟨y_5, y_5a, y_5b, y_5c, y_5d⟩ := gA_lines hv ha (z := i) (by omega) (by omega)
        refine g_aldL F hH r_4b hx18.1 hx18.2.1 hx18.2.2 (b := y_5) y_5a dX2_hangingOn_18 ?_
        refine g_getI (ci := 0) (k := 13) F hH rfl (by decide) iX0 y_5b (by decide) rfl k26 dX2_hangingOn_19 ?_
        refine lv_iload_n F.1 F.2.1 dX2_hangingOn_22 rfl (lv_at hl 3 rfl) ?_
        refine lv_iushr F.1 F.2.1 dX2_hangingOn_23 rfl ?_
        refine z_top (fun v_6 zv_6 ev_6 => ?_)
        refine z_iconst F dX2_hangingOn_24 ?_
        refine lv_iand F.1 F.2.1 dX2_hangingOn_25 ?_
        refine z_top (fun v_7 zv_7 ev_7 => ?_)
        refine lv_iload_n F.1 F.2.1 dX2_hangingOn_26 rfl (lv_at hl 0 rfl) ?_
        refine lv_ishl F.1 F.2.1 dX2_hangingOn_27 ?_
        refine z_top (fun v_8 zv_8 ev_8 => ?_)
        refine lv_ior F.1 F.2.1 dX2_hangingOn_28 ?_
        refine z_top (fun v_9 zv_9 ev_9 => ?_)
        refine lv_istore_n (lv' := [(2, .int (iI v_9)), (3, .int (iI i)), (0, .ref a), (1, .int (iI rel))]) F.1 F.2.1 dX2_hangingOn_29 rfl hl (by decide) rfl (fun ls hl => ?_)
        refine z_iinc (lv' := [(3, .int (iI (i + 1))), (2, .int (iI v_9)), (0, .ref a), (1, .int (iI rel))]) F dX2_hangingOn_30 hl (k := 1) rfl (by decide) rfl (fun ls hl => ?_)
        refine z_goto (tgt := 4) F dX2_hangingOn_33 (by decide) ?_
        exact ih4 v_9 (i + 1) H locs ls zv_9 ⟨by omega, by omega⟩ (by omega) (by omega) hH hS (lv_sub hl [0, 1, 2, 3] rfl)
  exact cut_4_0 (((16 - 0) + 1 : Int).toNat) 0 0 H locs ls ⟨by decide, by decide⟩ ⟨by decide, by decide⟩ (by omega) (by omega) hH hS (lv_sub hl [0, 1, 2, 3] rfl)

def rmX2_hang : Room := { frames := 1, cells := 0, slots := 0, locals := 40 }
theorem hdX2_hang : yX2_hang.cls = RX2 ∧ yX2_hang.cls ≠ "java/lang/invoke/MethodHandle" ∧ yX2_hang.cls ≠ "java/lang/invoke/VarHandle" ∧ (parseMethodDescriptor yX2_hang.desc).map (fun d => d.parameters.length) = some 2 := by decide +kernel
set_option maxHeartbeats 4000000 in
set_option maxRecDepth 100000 in
/-- a line hangs on a relation -/
theorem c_X2_hang (l : Launch) (g : gG) (gh : gGh) (I : gI) (R : gR) (J : gJ) (AI : gI) (AJ : gJ) (AR : gR) (a : Nat) (ln : Nat) (rel : Int) (zrel : zr rel) (hv : gInv g gh R AR I AI) (ha : gO g a 2) (hln : gO g ln 0) (h0 : -1 ≤ rel ∧ rel ≤ 15) : gMet l g yX2_hang wsX2_hang rmX2_hang [.ref a, .ref ln, .int (iI rel)] (I, R, J, AI, AJ, AR) (gQv g (fun w : gS => R = w.2.1 ∧ J = w.2.2.1 ∧ AI = w.2.2.2.1 ∧ AJ = w.2.2.2.2.1 ∧ AR = w.2.2.2.2.2 ∧ (gInv g gh R AR (w.1) AI) ∧ (∀ b j, j ≠ 13 → j ≠ 14 → (w.1) b j = I b j) ∧ (∀ q, q ≠ ln → (w.1) q = I q))) := by
  refine gStart (cc := cX2_hang) (maxL := 3) (ret := none) (by decide) rfl (Nat.le_of_ble_eq_true rfl) ?_
  intro p e s m below meth c ls F hr hlk hH hz hS hl
  have hl : lv_has ls 3 [(0, .ref a), (1, .ref ln), (2, .int (iI rel))] := hl
  have hS : va_S (gA g) s.heap s.heap [] := hS
  obtain ⟨H, hHe⟩ : ∃ H : Heap, H = s.heap := ⟨_, rfl⟩
  obtain ⟨locs, hlo⟩ : ∃ k : List Loc, k = [] := ⟨_, rfl⟩
  have hH : gH g I R J AI AJ AR H := by rw [hHe]; exact hH
  have hS : va_S (gA g) s.heap H locs := by rw [hHe, hlo]; exact hS
  suffices hw : W p l e rmX2_hang s m ([.ref a, .ref ln, .int (iI rel)] : List Value).toArray below meth c H locs 0 0 (MQ below (gQv g (fun w : gS => R = w.2.1 ∧ J = w.2.2.1 ∧ AI = w.2.2.2.1 ∧ AJ = w.2.2.2.2.1 ∧ AR = w.2.2.2.2.2 ∧ (gInv g gh R AR (w.1) AI) ∧ (∀ b j, j ≠ 13 → j ≠ 14 → (w.1) b j = I b j) ∧ (∀ q, q ≠ ln → (w.1) q = I q))) ([.ref a, .ref ln, .int (iI rel)] : List Value).toArray s 0 0 (gA g)) (F0 m 0 ls []) by
    rw [hHe, hlo] at hw; exact hw
  clear hHe hlo
  have iX2 : ∀ w ∈ u_ws RX2 TX2 3, w ∈ wsX2_hang := (by decide +kernel)
  have iX0 : ∀ w ∈ u_ws RX0 TX0 15, w ∈ wsX2_hang := (by decide +kernel)
  have k26 : Cond.fieldLink RX2 26 (TX0 13).1 (TX0 13).2.1 (TX0 13).2.2.1 ∈ wsX2_hang := List.mem_of_getElem? (i := 1) rfl
  have k11 : Cond.fieldLink RX2 11 (TX2 0).1 (TX2 0).2.1 (TX2 0).2.2.1 ∈ wsX2_hang := List.mem_of_getElem? (i := 2) rfl
  have k45 : Cond.fieldLink RX2 45 (TX0 14).1 (TX0 14).2.1 (TX0 14).2.2.1 ∈ wsX2_hang := List.mem_of_getElem? (i := 3) rfl
  refine lv_iload_n F.1 F.2.1 dX2_hang_0 rfl (lv_at hl 2 rfl) ?_
  refine z_iconst F dX2_hang_1 ?_
  refine z_icmp_eq (tgt := 49) F dX2_hang_2 (by decide) zrel ⟨by decide, by decide⟩ (fun c_1 => ?_) (fun c_1 => ?_)
  · exact g_vret F hr hlk hH hS hz ⟨rfl, rfl, rfl, rfl, rfl, hv, fun _ _ _ _ => rfl, fun _ _ => rfl⟩ dX2_hang_49
  · refine lv_aload_n F.1 F.2.1 dX2_hang_5 rfl (lv_at hl 1 rfl) ?_
    refine lv_dup F.1 F.2.1 dX2_hang_6 rfl ?_
    refine g_getI (ci := 0) (k := 13) F hH rfl (by decide) iX0 hln (by decide) rfl k26 dX2_hang_7 ?_
    refine lv_aload_n F.1 F.2.1 dX2_hang_10 rfl (lv_at hl 0 rfl) ?_
    obtain ⟨r_2a, r_2b⟩ := gR_lines hv ha
    refine g_getR (ci := 2) (k := 0) F hH rfl (by decide) iX2 ha (by decide) rfl (b := gh 6 a) r_2a k11 dX2_hang_11 ?_
    refine lv_iload_n F.1 F.2.1 dX2_hang_14 rfl (lv_at hl 2 rfl) ?_
    have hx15 : 0 ≤ rel ∧ rel < ((16 : Nat) : Int) ∧ rel ≤ 2147483647 := ⟨by omega, by omega, by omega⟩
    obtain ⟨y_3, y_3a, y_3b, y_3c, y_3d⟩ := gA_lines hv ha (z := rel) (by omega) (by omega)
    refine g_aldL F hH r_2b hx15.1 hx15.2.1 hx15.2.2 (b := y_3) y_3a dX2_hang_15 ?_
    refine g_getI (ci := 0) (k := 13) F hH rfl (by decide) iX0 y_3b (by decide) rfl k26 dX2_hang_16 ?_
    refine z_iconst F dX2_hang_19 ?_
    refine lv_iload_n F.1 F.2.1 dX2_hang_20 rfl (lv_at hl 2 rfl) ?_
    refine lv_ishl F.1 F.2.1 dX2_hang_21 ?_
    refine z_top (fun v_4 zv_4 ev_4 => ?_)
    refine lv_ior F.1 F.2.1 dX2_hang_22 ?_
    refine z_top (fun v_5 zv_5 ev_5 => ?_)
    refine lv_ior F.1 F.2.1 dX2_hang_23 ?_
    refine z_top (fun v_6 zv_6 ev_6 => ?_)
    refine g_putI (ci := 0) (k := 13) F hH hS rfl (by decide) iX0 hln (by decide) tyX0 tyX0_ok nmX0 rfl rfl rfl k26 dX2_hang_24 (fun H locs hH hS => ?_)
    obtain ⟨I_7, eI_7⟩ : ∃ qQ, qQ = gup2 I ln 13 (iI (v_6)) := ⟨_, rfl⟩
    rw [← eI_7] at hH
    have kI_7 : ∀ b, b ≠ ln → I_7 b = I b := fun b hb => by rw [eI_7]; exact funext fun j => gup2_a _ _ hb
    have hv : gInv g gh R AR I_7 AI := by rw [eI_7]; exact gInv_line13 hv hln
    have f1 : ∀ b j, j ≠ 13 → j ≠ 14 → I_7 b j = I b j := fun b j h _ => by rw [eI_7]; exact gup2_k _ _ h
    refine lv_aload_n F.1 F.2.1 dX2_hang_27 rfl (lv_at hl 1 rfl) ?_
    refine lv_aload_n F.1 F.2.1 dX2_hang_28 rfl (lv_at hl 1 rfl) ?_
    refine g_getI (ci := 0) (k := 14) F hH rfl (by decide) iX0 hln (by decide) rfl k45 dX2_hang_29 ?_
    refine lv_aload_n F.1 F.2.1 dX2_hang_32 rfl (lv_at hl 0 rfl) ?_
    refine g_getR (ci := 2) (k := 0) F hH rfl (by decide) iX2 ha (by decide) rfl (b := gh 6 a) r_2a k11 dX2_hang_33 ?_
    refine lv_iload_n F.1 F.2.1 dX2_hang_36 rfl (lv_at hl 2 rfl) ?_
    have hx37 : 0 ≤ rel ∧ rel < ((16 : Nat) : Int) ∧ rel ≤ 2147483647 := ⟨by omega, by omega, by omega⟩
    obtain ⟨y_9, y_9a, y_9b, y_9c, y_9d⟩ := gA_lines hv ha (z := rel) (by omega) (by omega)
    refine g_aldL F hH r_2b hx37.1 hx37.2.1 hx37.2.2 (b := y_9) y_9a dX2_hang_37 ?_
    refine g_getI (ci := 0) (k := 14) F hH rfl (by decide) iX0 y_9b (by decide) rfl k45 dX2_hang_38 ?_
    refine z_iconst F dX2_hang_41 ?_
    refine z_iadd F dX2_hang_42 ?_
    refine z_norm (fun v_10 zv_10 ev_10 => ?_)
    refine z_mmax (rest := [.ref ln]) F hl.1 (List.mem_of_getElem? (i := 4) rfl) (List.mem_of_getElem? (i := 5) rfl) (List.mem_of_getElem? (i := 6) rfl) (List.mem_of_getElem? (i := 7) rfl) (Nat.le_of_ble_eq_true rfl) (Nat.le_of_ble_eq_true rfl) (Nat.zero_le _) (Nat.zero_le _) (zr_t _) zv_10 dX2_hang_43 (fun v_11 zv_11 qv_11 => ?_)
    refine g_putI (ci := 0) (k := 14) F hH hS rfl (by decide) iX0 hln (by decide) tyX0 tyX0_ok nmX0 rfl rfl rfl k45 dX2_hang_46 (fun H locs hH hS => ?_)
    obtain ⟨I_12, eI_12⟩ : ∃ qQ, qQ = gup2 I_7 ln 14 (iI (v_11)) := ⟨_, rfl⟩
    rw [← eI_12] at hH
    have kI_12 : ∀ b, b ≠ ln → I_12 b = I_7 b := fun b hb => by rw [eI_12]; exact funext fun j => gup2_a _ _ hb
    have hv : gInv g gh R AR I_12 AI := by rw [eI_12]; exact gInv_line14 hv hln
    have f2 : ∀ b j, j ≠ 13 → j ≠ 14 → I_12 b j = I b j := fun b j h h' => by rw [eI_12, gup2_k _ _ h']; exact f1 b j h h'
    exact g_vret F hr hlk hH hS hz ⟨rfl, rfl, rfl, rfl, rfl, hv, f2, fun b hb => (kI_12 b hb).trans (kI_7 b hb)⟩ dX2_hang_49

theorem hdX2_keepLine : yX2_keepLine.cls = RX2 ∧ yX2_keepLine.cls ≠ "java/lang/invoke/MethodHandle" ∧ yX2_keepLine.cls ≠ "java/lang/invoke/VarHandle" ∧ (parseMethodDescriptor yX2_keepLine.desc).map (fun d => d.parameters.length) = some 0 := by decide +kernel
end
section
theorem hdX1_isKind : yX1_isKind.cls = RX1 ∧ yX1_isKind.cls ≠ "java/lang/invoke/MethodHandle" ∧ yX1_isKind.cls ≠ "java/lang/invoke/VarHandle" ∧ (parseMethodDescriptor yX1_isKind.desc).map (fun d => d.parameters.length) = some 1 := by decide +kernel
theorem hdX1_isWord : yX1_isWord.cls = RX1 ∧ yX1_isWord.cls ≠ "java/lang/invoke/MethodHandle" ∧ yX1_isWord.cls ≠ "java/lang/invoke/VarHandle" ∧ (parseMethodDescriptor yX1_isWord.desc).map (fun d => d.parameters.length) = some 1 := by decide +kernel
theorem hdX1_step : yX1_step.cls = RX1 ∧ yX1_step.cls ≠ "java/lang/invoke/MethodHandle" ∧ yX1_step.cls ≠ "java/lang/invoke/VarHandle" ∧ (parseMethodDescriptor yX1_step.desc).map (fun d => d.parameters.length) = some 0 := by decide +kernel
theorem hdX1_seeColumn : yX1_seeColumn.cls = RX1 ∧ yX1_seeColumn.cls ≠ "java/lang/invoke/MethodHandle" ∧ yX1_seeColumn.cls ≠ "java/lang/invoke/VarHandle" ∧ (parseMethodDescriptor yX1_seeColumn.desc).map (fun d => d.parameters.length) = some 1 := by decide +kernel
theorem hdX1_takeKind : yX1_takeKind.cls = RX1 ∧ yX1_takeKind.cls ≠ "java/lang/invoke/MethodHandle" ∧ yX1_takeKind.cls ≠ "java/lang/invoke/VarHandle" ∧ (parseMethodDescriptor yX1_takeKind.desc).map (fun d => d.parameters.length) = some 1 := by decide +kernel
theorem hdX1_takeWord : yX1_takeWord.cls = RX1 ∧ yX1_takeWord.cls ≠ "java/lang/invoke/MethodHandle" ∧ yX1_takeWord.cls ≠ "java/lang/invoke/VarHandle" ∧ (parseMethodDescriptor yX1_takeWord.desc).map (fun d => d.parameters.length) = some 1 := by decide +kernel
theorem hdX1_seeRelation : yX1_seeRelation.cls = RX1 ∧ yX1_seeRelation.cls ≠ "java/lang/invoke/MethodHandle" ∧ yX1_seeRelation.cls ≠ "java/lang/invoke/VarHandle" ∧ (parseMethodDescriptor yX1_seeRelation.desc).map (fun d => d.parameters.length) = some 0 := by decide +kernel
theorem hdX1_readFirst : yX1_readFirst.cls = RX1 ∧ yX1_readFirst.cls ≠ "java/lang/invoke/MethodHandle" ∧ yX1_readFirst.cls ≠ "java/lang/invoke/VarHandle" ∧ (parseMethodDescriptor yX1_readFirst.desc).map (fun d => d.parameters.length) = some 0 := by decide +kernel
theorem hdX1_readSecond : yX1_readSecond.cls = RX1 ∧ yX1_readSecond.cls ≠ "java/lang/invoke/MethodHandle" ∧ yX1_readSecond.cls ≠ "java/lang/invoke/VarHandle" ∧ (parseMethodDescriptor yX1_readSecond.desc).map (fun d => d.parameters.length) = some 0 := by decide +kernel
theorem hdX1_readTest : yX1_readTest.cls = RX1 ∧ yX1_readTest.cls ≠ "java/lang/invoke/MethodHandle" ∧ yX1_readTest.cls ≠ "java/lang/invoke/VarHandle" ∧ (parseMethodDescriptor yX1_readTest.desc).map (fun d => d.parameters.length) = some 0 := by decide +kernel
theorem hdX1_readTests : yX1_readTests.cls = RX1 ∧ yX1_readTests.cls ≠ "java/lang/invoke/MethodHandle" ∧ yX1_readTests.cls ≠ "java/lang/invoke/VarHandle" ∧ (parseMethodDescriptor yX1_readTests.desc).map (fun d => d.parameters.length) = some 0 := by decide +kernel
theorem hdX1_readTerm : yX1_readTerm.cls = RX1 ∧ yX1_readTerm.cls ≠ "java/lang/invoke/MethodHandle" ∧ yX1_readTerm.cls ≠ "java/lang/invoke/VarHandle" ∧ (parseMethodDescriptor yX1_readTerm.desc).map (fun d => d.parameters.length) = some 1 := by decide +kernel
theorem hdX1_readTerms : yX1_readTerms.cls = RX1 ∧ yX1_readTerms.cls ≠ "java/lang/invoke/MethodHandle" ∧ yX1_readTerms.cls ≠ "java/lang/invoke/VarHandle" ∧ (parseMethodDescriptor yX1_readTerms.desc).map (fun d => d.parameters.length) = some 1 := by decide +kernel
theorem hdX1_readPair : yX1_readPair.cls = RX1 ∧ yX1_readPair.cls ≠ "java/lang/invoke/MethodHandle" ∧ yX1_readPair.cls ≠ "java/lang/invoke/VarHandle" ∧ (parseMethodDescriptor yX1_readPair.desc).map (fun d => d.parameters.length) = some 1 := by decide +kernel
theorem hdX1_readPairs : yX1_readPairs.cls = RX1 ∧ yX1_readPairs.cls ≠ "java/lang/invoke/MethodHandle" ∧ yX1_readPairs.cls ≠ "java/lang/invoke/VarHandle" ∧ (parseMethodDescriptor yX1_readPairs.desc).map (fun d => d.parameters.length) = some 0 := by decide +kernel
theorem hdX1_readSelect : yX1_readSelect.cls = RX1 ∧ yX1_readSelect.cls ≠ "java/lang/invoke/MethodHandle" ∧ yX1_readSelect.cls ≠ "java/lang/invoke/VarHandle" ∧ (parseMethodDescriptor yX1_readSelect.desc).map (fun d => d.parameters.length) = some 0 := by decide +kernel
theorem hdX1_readProject : yX1_readProject.cls = RX1 ∧ yX1_readProject.cls ≠ "java/lang/invoke/MethodHandle" ∧ yX1_readProject.cls ≠ "java/lang/invoke/VarHandle" ∧ (parseMethodDescriptor yX1_readProject.desc).map (fun d => d.parameters.length) = some 0 := by decide +kernel
theorem hdX1_readJoin : yX1_readJoin.cls = RX1 ∧ yX1_readJoin.cls ≠ "java/lang/invoke/MethodHandle" ∧ yX1_readJoin.cls ≠ "java/lang/invoke/VarHandle" ∧ (parseMethodDescriptor yX1_readJoin.desc).map (fun d => d.parameters.length) = some 0 := by decide +kernel
theorem hdX1_readDistinct : yX1_readDistinct.cls = RX1 ∧ yX1_readDistinct.cls ≠ "java/lang/invoke/MethodHandle" ∧ yX1_readDistinct.cls ≠ "java/lang/invoke/VarHandle" ∧ (parseMethodDescriptor yX1_readDistinct.desc).map (fun d => d.parameters.length) = some 0 := by decide +kernel
theorem hdX1_readTwoAlike : yX1_readTwoAlike.cls = RX1 ∧ yX1_readTwoAlike.cls ≠ "java/lang/invoke/MethodHandle" ∧ yX1_readTwoAlike.cls ≠ "java/lang/invoke/VarHandle" ∧ (parseMethodDescriptor yX1_readTwoAlike.desc).map (fun d => d.parameters.length) = some 0 := by decide +kernel
theorem hdX1_readByColumn : yX1_readByColumn.cls = RX1 ∧ yX1_readByColumn.cls ≠ "java/lang/invoke/MethodHandle" ∧ yX1_readByColumn.cls ≠ "java/lang/invoke/VarHandle" ∧ (parseMethodDescriptor yX1_readByColumn.desc).map (fun d => d.parameters.length) = some 0 := by decide +kernel
theorem hdX1_readByColumns : yX1_readByColumns.cls = RX1 ∧ yX1_readByColumns.cls ≠ "java/lang/invoke/MethodHandle" ∧ yX1_readByColumns.cls ≠ "java/lang/invoke/VarHandle" ∧ (parseMethodDescriptor yX1_readByColumns.desc).map (fun d => d.parameters.length) = some 0 := by decide +kernel
theorem hdX1_readFold : yX1_readFold.cls = RX1 ∧ yX1_readFold.cls ≠ "java/lang/invoke/MethodHandle" ∧ yX1_readFold.cls ≠ "java/lang/invoke/VarHandle" ∧ (parseMethodDescriptor yX1_readFold.desc).map (fun d => d.parameters.length) = some 0 := by decide +kernel
theorem hdX1_readGroup : yX1_readGroup.cls = RX1 ∧ yX1_readGroup.cls ≠ "java/lang/invoke/MethodHandle" ∧ yX1_readGroup.cls ≠ "java/lang/invoke/VarHandle" ∧ (parseMethodDescriptor yX1_readGroup.desc).map (fun d => d.parameters.length) = some 0 := by decide +kernel
theorem hdX1_readRing : yX1_readRing.cls = RX1 ∧ yX1_readRing.cls ≠ "java/lang/invoke/MethodHandle" ∧ yX1_readRing.cls ≠ "java/lang/invoke/VarHandle" ∧ (parseMethodDescriptor yX1_readRing.desc).map (fun d => d.parameters.length) = some 0 := by decide +kernel
theorem hdX1_readTableColumns : yX1_readTableColumns.cls = RX1 ∧ yX1_readTableColumns.cls ≠ "java/lang/invoke/MethodHandle" ∧ yX1_readTableColumns.cls ≠ "java/lang/invoke/VarHandle" ∧ (parseMethodDescriptor yX1_readTableColumns.desc).map (fun d => d.parameters.length) = some 0 := by decide +kernel
end
section
theorem gInv_Rplan {g : gG} {gh : gGh} {R AR : gR} {I AI : gI} {a b : Nat} (hv : gInv g gh R AR I AI) (ha : gO g a 1) (hb : gO g b 2) : gInv g gh (gup2 R a 1 (some b)) AR I AI := by
  obtain ⟨q1, q2, q3, q4, q5, q6, q7, q8⟩ := hv
  have nO : ∀ d, d ≠ 1 → ∀ q k, gO g q d → gup2 R a 1 (some b) q k = R q k := fun d hd q k hq => gup2_a _ _ (gO_ne hq ha hd)
  refine ⟨fun q hq => ?_, q2, fun q hq => ?_, fun q hq => ?_, fun q hq => ?_, fun q hq => ?_, fun q hq => ?_, ⟨fun q hq => ?_, q8.2⟩⟩
  · rw [nO 4 (by decide) q 2 hq]; exact q1 q hq
  · unfold vLineS; rw [nO 0 (by decide) q 7 hq]; exact q3 q hq
  · rw [nO 2 (by decide) q 0 hq]; exact q4 q hq
  · simp only [nO 6 (by decide) q _ hq]; exact q5 q hq
  · rw [gup2_k (j := 0) _ _ (by decide), gup2_k (j := 2) _ _ (by decide)]
    obtain ⟨p1, p2, p3, p4⟩ := q6 q hq
    refine ⟨p1, ?_, p3, p4⟩
    by_cases e : q = a
    · subst e; rw [gup2_s]; exact ⟨b, rfl, hb⟩
    · rw [gup2_a _ _ e]; exact p2
  · simp only [nO 5 (by decide) q _ hq]; exact q7 q hq
  · simp only [nO 3 (by decide) q _ hq]; exact q8.1 q hq
end
section
theorem hdX1_ringIsUnlike : yX1_ringIsUnlike.cls = RX1 ∧ yX1_ringIsUnlike.cls ≠ "java/lang/invoke/MethodHandle" ∧ yX1_ringIsUnlike.cls ≠ "java/lang/invoke/VarHandle" ∧ (parseMethodDescriptor yX1_ringIsUnlike.desc).map (fun d => d.parameters.length) = some 0 := by decide +kernel
theorem hdX1_readClose : yX1_readClose.cls = RX1 ∧ yX1_readClose.cls ≠ "java/lang/invoke/MethodHandle" ∧ yX1_readClose.cls ≠ "java/lang/invoke/VarHandle" ∧ (parseMethodDescriptor yX1_readClose.desc).map (fun d => d.parameters.length) = some 0 := by decide +kernel
theorem hdX1_readBody : yX1_readBody.cls = RX1 ∧ yX1_readBody.cls ≠ "java/lang/invoke/MethodHandle" ∧ yX1_readBody.cls ≠ "java/lang/invoke/VarHandle" ∧ (parseMethodDescriptor yX1_readBody.desc).map (fun d => d.parameters.length) = some 0 := by decide +kernel
theorem hdX1_readNewName : yX1_readNewName.cls = RX1 ∧ yX1_readNewName.cls ≠ "java/lang/invoke/MethodHandle" ∧ yX1_readNewName.cls ≠ "java/lang/invoke/VarHandle" ∧ (parseMethodDescriptor yX1_readNewName.desc).map (fun d => d.parameters.length) = some 0 := by decide +kernel
theorem hdX1_readViewKind : yX1_readViewKind.cls = RX1 ∧ yX1_readViewKind.cls ≠ "java/lang/invoke/MethodHandle" ∧ yX1_readViewKind.cls ≠ "java/lang/invoke/VarHandle" ∧ (parseMethodDescriptor yX1_readViewKind.desc).map (fun d => d.parameters.length) = some 0 := by decide +kernel
theorem hdX1_readHead : yX1_readHead.cls = RX1 ∧ yX1_readHead.cls ≠ "java/lang/invoke/MethodHandle" ∧ yX1_readHead.cls ≠ "java/lang/invoke/VarHandle" ∧ (parseMethodDescriptor yX1_readHead.desc).map (fun d => d.parameters.length) = some 0 := by decide +kernel
def rmX1_exchangePlan : Room := { frames := 0, cells := 0, slots := 0, locals := 0 }
theorem hdX1_exchangePlan : yX1_exchangePlan.cls = RX1 ∧ yX1_exchangePlan.cls ≠ "java/lang/invoke/MethodHandle" ∧ yX1_exchangePlan.cls ≠ "java/lang/invoke/VarHandle" ∧ (parseMethodDescriptor yX1_exchangePlan.desc).map (fun d => d.parameters.length) = some 1 := by decide +kernel
set_option maxHeartbeats 4000000 in
set_option maxRecDepth 100000 in
/-- exchanges the plan -/
theorem c_X1_exchangePlan (l : Launch) (g : gG) (gh : gGh) (q : Nat) (I : gI) (R : gR) (J : gJ) (AI : gI) (AJ : gJ) (AR : gR) (a : Nat) (pl : Nat) (hv : gInv g gh R AR I AI) (h1 : gO g a 1) (hold : gO g pl 2) (hRq : R a 1 = some q) (hq : gO g q 2) : gMet l g yX1_exchangePlan wsX1_exchangePlan rmX1_exchangePlan [.ref a, .ref pl] (I, R, J, AI, AJ, AR) (gQr g (fun (z : Nat) (w : gS) => I = w.1 ∧ J = w.2.2.1 ∧ AI = w.2.2.2.1 ∧ AJ = w.2.2.2.2.1 ∧ AR = w.2.2.2.2.2 ∧ (gInv g gh (w.2.1) AR I AI) ∧ (∀ b, b ≠ a → (w.2.1) b = R b) ∧ (q = z) ∧ ((w.2.1) a 1 = some pl))) := by
  refine gStart (cc := cX1_exchangePlan) (maxL := 3) (ret := (some ((.object "BagTree$Plan")))) (by decide) rfl (Nat.le_of_ble_eq_true rfl) ?_
  intro p e s m below meth c ls F hr hlk hH hz hS hl
  have hl : lv_has ls 3 [(0, .ref a), (1, .ref pl)] := hl
  have hS : va_S (gA g) s.heap s.heap [] := hS
  obtain ⟨H, hHe⟩ : ∃ H : Heap, H = s.heap := ⟨_, rfl⟩
  obtain ⟨locs, hlo⟩ : ∃ k : List Loc, k = [] := ⟨_, rfl⟩
  have hH : gH g I R J AI AJ AR H := by rw [hHe]; exact hH
  have hS : va_S (gA g) s.heap H locs := by rw [hHe, hlo]; exact hS
  suffices hw : W p l e rmX1_exchangePlan s m ([.ref a, .ref pl] : List Value).toArray below meth c H locs 0 0 (MQ below (gQr g (fun (z : Nat) (w : gS) => I = w.1 ∧ J = w.2.2.1 ∧ AI = w.2.2.2.1 ∧ AJ = w.2.2.2.2.1 ∧ AR = w.2.2.2.2.2 ∧ (gInv g gh (w.2.1) AR I AI) ∧ (∀ b, b ≠ a → (w.2.1) b = R b) ∧ (q = z) ∧ ((w.2.1) a 1 = some pl))) ([.ref a, .ref pl] : List Value).toArray s 0 0 (gA g)) (F0 m 0 ls []) by
    rw [hHe, hlo] at hw; exact hw
  clear hHe hlo
  have iX1 : ∀ w ∈ u_ws RX1 TX1 4, w ∈ wsX1_exchangePlan := (by decide +kernel)
  have k21 : Cond.fieldLink RX1 21 (TX1 1).1 (TX1 1).2.1 (TX1 1).2.2.1 ∈ wsX1_exchangePlan := List.mem_of_getElem? (i := 1) rfl
  refine lv_aload_n F.1 F.2.1 dX1_exchangePlan_0 rfl (lv_at hl 0 rfl) ?_
  refine g_getR (ci := 1) (k := 1) F hH rfl (by decide) iX1 h1 (by decide) rfl (b := q) hRq k21 dX1_exchangePlan_1 ?_
  refine lv_astore_n (lv' := [(2, .ref q), (0, .ref a), (1, .ref pl)]) F.1 F.2.1 dX1_exchangePlan_4 rfl hl (by decide) rfl (fun ls hl => ?_)
  refine lv_aload_n F.1 F.2.1 dX1_exchangePlan_5 rfl (lv_at hl 1 rfl) ?_
  refine lv_aload_n F.1 F.2.1 dX1_exchangePlan_6 rfl (lv_at hl 2 rfl) ?_
  refine g_putR (ci := 1) (k := 1) F hH hS rfl (by decide) iX1 h1 (by decide) tyX1 tyX1_ok nmX1 rfl (ty := tyX1 1) rfl rfl rfl rfl k21 dX1_exchangePlan_7 (fun H locs hH hS => ?_)
  obtain ⟨R_1, eR_1⟩ : ∃ qQ, qQ = gup2 R a 1 (some (pl)) := ⟨_, rfl⟩
  rw [← eR_1] at hH
  have kR_1 : ∀ b, b ≠ a → R_1 b = R b := fun b hb => by rw [eR_1]; exact funext fun j => gup2_a _ _ hb
  have hv : gInv g gh R_1 AR I AI := by rw [eR_1]; exact gInv_Rplan hv h1 hold
  have ra1 : R_1 a 1 = some pl := by rw [eR_1, gup2_s]
  refine lv_aload_n F.1 F.2.1 dX1_exchangePlan_10 rfl (lv_at hl 0 rfl) ?_
  exact g_aret F hr (by first | exact Or.inl ⟨_, rfl⟩ | exact Or.inr ⟨_, rfl⟩) hlk hH hS hz ⟨rfl, rfl, rfl, rfl, rfl, hv, fun b hb => kR_1 b hb, rfl, ra1⟩ dX1_exchangePlan_11
end
section
section ReckInv
variable {g : gG} {gh : gGh} {R AR : gR} {I AI : gI} {a : Nat}
theorem gR_rk0 (hv : gInv g gh R AR I AI) (ha : gO g a 3) : R a 0 = some (gh 30 0) ∧ gAr g (gh 30 0) 9 5 := ⟨(hv.2.2.2.2.2.2.2.1 a ha).1.1, (hv.2.2.2.2.2.2.2.1 a ha).1.2.1⟩
theorem gR_rk1 (hv : gInv g gh R AR I AI) (ha : gO g a 3) : R a 1 = some (gh 31 0) ∧ gAr g (gh 31 0) 9 8 := ⟨(hv.2.2.2.2.2.2.2.1 a ha).2.1.1, (hv.2.2.2.2.2.2.2.1 a ha).2.1.2.1⟩
theorem gR_rk2 (hv : gInv g gh R AR I AI) (ha : gO g a 3) : R a 2 = some (gh 32 0) ∧ gAr g (gh 32 0) 9 480 := ⟨(hv.2.2.2.2.2.2.2.1 a ha).2.2.1, (hv.2.2.2.2.2.2.2.1 a ha).2.2.2.1⟩
theorem ro30 (hv : gInv g gh R AR I AI) (ha : gO g a 3) : gh 9 (gh 30 0) = 0 := (hv.2.2.2.2.2.2.2.1 a ha).1.2.2
theorem ro31 (hv : gInv g gh R AR I AI) (ha : gO g a 3) : gh 9 (gh 31 0) = 0 := (hv.2.2.2.2.2.2.2.1 a ha).2.1.2.2
theorem ro32 (hv : gInv g gh R AR I AI) (ha : gO g a 3) : gh 9 (gh 32 0) = 0 := (hv.2.2.2.2.2.2.2.1 a ha).2.2.2.2
def rF (g : gG) (I I' : gI) : Prop := ∀ b c, gO g b c → c ≠ 4 → I' b = I b
theorem rF_r {I : gI} : rF g I I := fun _ _ _ _ => rfl
theorem rF_t {I I' I'' : gI} (h : rF g I I') (h' : rF g I' I'') : rF g I I'' := fun b c hb hc => (h' b c hb hc).trans (h b c hb hc)
theorem rF_o {I I' : gI} {o : Nat} (ho : gO g o 4) (f : ∀ b, b ≠ o → I' b = I b) : rF g I I' := fun b _ hb hc => f b (gO_ne hb ho hc)
end ReckInv
end
section
theorem hdX3_clearKey : yX3_clearKey.cls = RX3 ∧ yX3_clearKey.cls ≠ "java/lang/invoke/MethodHandle" ∧ yX3_clearKey.cls ≠ "java/lang/invoke/VarHandle" ∧ (parseMethodDescriptor yX3_clearKey.desc).map (fun d => d.parameters.length) = some 0 := by decide +kernel
theorem hdX3_select : yX3_select.cls = RX3 ∧ yX3_select.cls ≠ "java/lang/invoke/MethodHandle" ∧ yX3_select.cls ≠ "java/lang/invoke/VarHandle" ∧ (parseMethodDescriptor yX3_select.desc).map (fun d => d.parameters.length) = some 3 := by decide +kernel
theorem hdX3_project : yX3_project.cls = RX3 ∧ yX3_project.cls ≠ "java/lang/invoke/MethodHandle" ∧ yX3_project.cls ≠ "java/lang/invoke/VarHandle" ∧ (parseMethodDescriptor yX3_project.desc).map (fun d => d.parameters.length) = some 3 := by decide +kernel
theorem hdX3_fillJoined : yX3_fillJoined.cls = RX3 ∧ yX3_fillJoined.cls ≠ "java/lang/invoke/MethodHandle" ∧ yX3_fillJoined.cls ≠ "java/lang/invoke/VarHandle" ∧ (parseMethodDescriptor yX3_fillJoined.desc).map (fun d => d.parameters.length) = some 5 := by decide +kernel
theorem hdX3_join : yX3_join.cls = RX3 ∧ yX3_join.cls ≠ "java/lang/invoke/MethodHandle" ∧ yX3_join.cls ≠ "java/lang/invoke/VarHandle" ∧ (parseMethodDescriptor yX3_join.desc).map (fun d => d.parameters.length) = some 4 := by decide +kernel
theorem hdX3_distinct : yX3_distinct.cls = RX3 ∧ yX3_distinct.cls ≠ "java/lang/invoke/MethodHandle" ∧ yX3_distinct.cls ≠ "java/lang/invoke/VarHandle" ∧ (parseMethodDescriptor yX3_distinct.desc).map (fun d => d.parameters.length) = some 2 := by decide +kernel
theorem hdX3_fold : yX3_fold.cls = RX3 ∧ yX3_fold.cls ≠ "java/lang/invoke/MethodHandle" ∧ yX3_fold.cls ≠ "java/lang/invoke/VarHandle" ∧ (parseMethodDescriptor yX3_fold.desc).map (fun d => d.parameters.length) = some 5 := by decide +kernel
theorem hdX3_arrive : yX3_arrive.cls = RX3 ∧ yX3_arrive.cls ≠ "java/lang/invoke/MethodHandle" ∧ yX3_arrive.cls ≠ "java/lang/invoke/VarHandle" ∧ (parseMethodDescriptor yX3_arrive.desc).map (fun d => d.parameters.length) = some 3 := by decide +kernel
theorem hdX3_goOn : yX3_goOn.cls = RX3 ∧ yX3_goOn.cls ≠ "java/lang/invoke/MethodHandle" ∧ yX3_goOn.cls ≠ "java/lang/invoke/VarHandle" ∧ (parseMethodDescriptor yX3_goOn.desc).map (fun d => d.parameters.length) = some 5 := by decide +kernel
theorem hdX3_ring : yX3_ring.cls = RX3 ∧ yX3_ring.cls ≠ "java/lang/invoke/MethodHandle" ∧ yX3_ring.cls ≠ "java/lang/invoke/VarHandle" ∧ (parseMethodDescriptor yX3_ring.desc).map (fun d => d.parameters.length) = some 4 := by decide +kernel
theorem hdX3_group : yX3_group.cls = RX3 ∧ yX3_group.cls ≠ "java/lang/invoke/MethodHandle" ∧ yX3_group.cls ≠ "java/lang/invoke/VarHandle" ∧ (parseMethodDescriptor yX3_group.desc).map (fun d => d.parameters.length) = some 3 := by decide +kernel
theorem hdX3_reckon : yX3_reckon.cls = RX3 ∧ yX3_reckon.cls ≠ "java/lang/invoke/MethodHandle" ∧ yX3_reckon.cls ≠ "java/lang/invoke/VarHandle" ∧ (parseMethodDescriptor yX3_reckon.desc).map (fun d => d.parameters.length) = some 3 := by decide +kernel
end
section
section BagInv
variable {g : gG} {gh : gGh} {R AR : gR} {I AI : gI} {x : Nat}
theorem gI_x (hv : gInv g gh R AR I AI) (hx : gO g x 6) : 0 ≤ (I x 1).toInt ∧ (I x 1).toInt ≤ 936 ∧ 0 ≤ (I x 14).toInt ∧ (I x 14).toInt ≤ 7 ∧ 0 ≤ (I x 15).toInt ∧ (I x 15).toInt ≤ 8 := (hv.2.2.2.2.1 x hx).2.2.2.2.2.2.2.2.2.2.2.2.2
theorem gR_x0 (hv : gInv g gh R AR I AI) (hx : gO g x 6) : R x 0 = some (gh 28 0) ∧ gAr g (gh 28 0) 8 936 := ⟨(hv.2.2.2.2.1 x hx).1.1, (hv.2.2.2.2.1 x hx).1.2.1⟩
theorem ro28 (hv : gInv g gh R AR I AI) (hx : gO g x 6) : gh 9 (gh 28 0) = 5 := (hv.2.2.2.2.1 x hx).1.2.2
theorem gR_x2 (hv : gInv g gh R AR I AI) (hx : gO g x 6) : R x 2 = some (gh 21 0) ∧ gO g (gh 21 0) 1 := (hv.2.2.2.2.1 x hx).2.1
theorem gR_x4 (hv : gInv g gh R AR I AI) (hx : gO g x 6) : R x 4 = some (gh 23 0) ∧ gO g (gh 23 0) 3 := (hv.2.2.2.2.1 x hx).2.2.2.1
theorem gR_x7 (hv : gInv g gh R AR I AI) (hx : gO g x 6) : R x 7 = some (gh 35 0) ∧ isRA g gh AR (gh 35 0) 16 240 4 := (hv.2.2.2.2.1 x hx).2.2.2.2.2.2.1
theorem gR_x8 (hv : gInv g gh R AR I AI) (hx : gO g x 6) : R x 8 = some (gh 37 0) ∧ isR1 g gh (gh 37 0) 40 5 := (hv.2.2.2.2.1 x hx).2.2.2.2.2.2.2.1
theorem gR_x9 (hv : gInv g gh R AR I AI) (hx : gO g x 6) : R x 9 = some (gh 38 0) ∧ isR1 g gh (gh 38 0) 40 5 := (hv.2.2.2.2.1 x hx).2.2.2.2.2.2.2.2.1
theorem gR_x10 (hv : gInv g gh R AR I AI) (hx : gO g x 6) : R x 10 = some (gh 39 0) ∧ isR1 g gh (gh 39 0) 40 4 := (hv.2.2.2.2.1 x hx).2.2.2.2.2.2.2.2.2.1
theorem gR_x11 (hv : gInv g gh R AR I AI) (hx : gO g x 6) : R x 11 = some (gh 40 0) ∧ isR1 g gh (gh 40 0) 240 4 := (hv.2.2.2.2.1 x hx).2.2.2.2.2.2.2.2.2.2.1
theorem gR_x12 (hv : gInv g gh R AR I AI) (hx : gO g x 6) : R x 12 = some (gh 29 0) ∧ gAr g (gh 29 0) 9 5 := ⟨(hv.2.2.2.2.1 x hx).2.2.2.2.2.2.2.2.2.2.2.1.1, (hv.2.2.2.2.1 x hx).2.2.2.2.2.2.2.2.2.2.2.1.2.1⟩
theorem ro29 (hv : gInv g gh R AR I AI) (hx : gO g x 6) : gh 9 (gh 29 0) = 0 := (hv.2.2.2.2.1 x hx).2.2.2.2.2.2.2.2.2.2.2.1.2.2
theorem gR_x13 (hv : gInv g gh R AR I AI) (hx : gO g x 6) : R x 13 = some (gh 36 0) ∧ isRA g gh AR (gh 36 0) 8 40 5 := (hv.2.2.2.2.1 x hx).2.2.2.2.2.2.2.2.2.2.2.2.1
theorem gInv_xK {k : Nat} {v : Int32} (hv : gInv g gh R AR I AI) (hx : gO g x 6) (h : ∀ f : Nat → Int32, (∀ j, j ≠ k → f j = I x j) → f k = v → 0 ≤ (f 1).toInt ∧ (f 1).toInt ≤ 936 ∧ 0 ≤ (f 14).toInt ∧ (f 14).toInt ≤ 7 ∧ 0 ≤ (f 15).toInt ∧ (f 15).toInt ≤ 8) : gInv g gh R AR (gup2 I x k v) AI := by
  obtain ⟨q1, q2, q3, q4, q5, q6, q7, q8⟩ := hv
  have nO : ∀ d, d ≠ 6 → ∀ b, gO g b d → gup2 I x k v b = I b := fun d hd b hb => gup2_o hx hb hd
  refine ⟨vRows_c q1 (nO 4 (by decide)), q2, vLine_c q3 (nO 0 (by decide)) (fun b hb => by rw [nO 2 (by decide) b hb]) (fun _ _ => rfl), vPlan_c q4 (nO 2 (by decide)), fun b hb => ?_, vPr_c q6 (nO 1 (by decide)), vTk_c q7 (nO 5 (by decide)) (fun _ _ => rfl) (fun _ _ => rfl), vRM_c q8 (nO 7 (by decide)) (fun _ _ => rfl) (fun hb _ _ => ⟨by rw [nO 4 (by decide) _ hb], rfl⟩)⟩
  obtain ⟨p0, p1, p2, p3, p4, p5, p6, p7, p8, p9, p10, p11, p12, p13⟩ := q5 b hb
  refine ⟨p0, p1, p2, p3, p4, p5, p6, p7, p8, p9, p10, p11, p12, ?_⟩
  by_cases hq : b = x
  · subst hq
    exact h _ (fun j hj => gup2_k _ _ hj) (gup2_s _ _ _ _)
  · rw [gup2_a _ _ hq, gup2_a _ _ hq, gup2_a _ _ hq]
    exact p13
theorem gInv_x1 {z : Int} (hv : gInv g gh R AR I AI) (hx : gO g x 6) (h0 : 0 ≤ z) (h9 : z ≤ 936) : gInv g gh R AR (gup2 I x 1 (iI z)) AI := gInv_xK hv hx (fun f e1 e2 => by
  have h := gI_x hv hx
  rw [e1 14 (by decide), e1 15 (by decide), e2, iI_val ⟨by omega, by omega⟩]
  omega)
theorem gInv_x14 {z : Int} (hv : gInv g gh R AR I AI) (hx : gO g x 6) (h0 : 0 ≤ z) (h9 : z ≤ 7) : gInv g gh R AR (gup2 I x 14 (iI z)) AI := gInv_xK hv hx (fun f e1 e2 => by
  have h := gI_x hv hx
  rw [e1 1 (by decide), e1 15 (by decide), e2, iI_val ⟨by omega, by omega⟩]
  omega)
theorem gInv_x15 {z : Int} (hv : gInv g gh R AR I AI) (hx : gO g x 6) (h0 : 0 ≤ z) (h9 : z ≤ 8) : gInv g gh R AR (gup2 I x 15 (iI z)) AI := gInv_xK hv hx (fun f e1 e2 => by
  have h := gI_x hv hx
  rw [e1 1 (by decide), e1 14 (by decide), e2, iI_val ⟨by omega, by omega⟩]
  omega)
theorem gInv_x16 {v : Int32} (hv : gInv g gh R AR I AI) (hx : gO g x 6) : gInv g gh R AR (gup2 I x 16 v) AI := gInv_xK hv hx (fun f e1 e2 => by
  have h := gI_x hv hx
  rw [e1 1 (by decide), e1 14 (by decide), e1 15 (by decide)]
  exact h)
theorem gInv_x17 {v : Int32} (hv : gInv g gh R AR I AI) (hx : gO g x 6) : gInv g gh R AR (gup2 I x 17 v) AI := gInv_xK hv hx (fun f e1 e2 => by
  have h := gI_x hv hx
  rw [e1 1 (by decide), e1 14 (by decide), e1 15 (by decide)]
  exact h)
theorem gInv_Rx {k b : Nat} (hv : gInv g gh R AR I AI) (hx : gO g x 6) (hk : k = 3 ∧ gO g b 2 ∨ (k = 5 ∨ k = 6) ∧ isRA g gh AR b 16 120 4) : gInv g gh (gup2 R x k (some b)) AR I AI := by
  obtain ⟨q1, q2, q3, q4, q5, q6, q7, q8⟩ := hv
  have nO : ∀ d, d ≠ 6 → ∀ q j, gO g q d → gup2 R x k (some b) q j = R q j := fun d hd q j hq => gup2_a _ _ (gO_ne hq hx hd)
  refine ⟨fun q hq => ?_, q2, fun q hq => ?_, fun q hq => ?_, fun q hq => ?_, fun q hq => ?_, fun q hq => ?_, ⟨fun q hq => ?_, q8.2⟩⟩
  · rw [nO 4 (by decide) q 2 hq]; exact q1 q hq
  · unfold vLineS; rw [nO 0 (by decide) q 7 hq]; exact q3 q hq
  · rw [nO 2 (by decide) q 0 hq]; exact q4 q hq
  · obtain ⟨p0, p1, p2, p3, p4, p5, p6, p7, p8, p9, p10, p11, p12, p13⟩ := q5 q hq
    have s : ∀ j, j ≠ 3 → j ≠ 5 → j ≠ 6 → gup2 R x k (some b) q j = R q j := fun j h3 h5 h6 => gup2_k _ _ (by omega)
    rw [s 0 (by decide) (by decide) (by decide), s 2 (by decide) (by decide) (by decide), s 4 (by decide) (by decide) (by decide), s 7 (by decide) (by decide) (by decide), s 8 (by decide) (by decide) (by decide), s 9 (by decide) (by decide) (by decide), s 10 (by decide) (by decide) (by decide), s 11 (by decide) (by decide) (by decide), s 12 (by decide) (by decide) (by decide), s 13 (by decide) (by decide) (by decide)]
    refine ⟨p0, p1, ?_, p3, ?_, ?_, p6, p7, p8, p9, p10, p11, p12, p13⟩
    · unfold gup2; split
      · rename_i e; rcases hk with ⟨_, h⟩ | ⟨h, _⟩
        · exact ⟨b, rfl, h⟩
        · omega
      · exact p2
    · unfold gup2; split
      · rename_i e; rcases hk with ⟨h, _⟩ | ⟨_, h⟩
        · omega
        · exact ⟨b, rfl, h⟩
      · exact p4
    · unfold gup2; split
      · rename_i e; rcases hk with ⟨h, _⟩ | ⟨_, h⟩
        · omega
        · exact ⟨b, rfl, h⟩
      · exact p5
  · simp only [nO 1 (by decide) q _ hq]; exact q6 q hq
  · simp only [nO 5 (by decide) q _ hq]; exact q7 q hq
  · simp only [nO 3 (by decide) q _ hq]; exact q8.1 q hq
/-- where the BagTree x has its plan and its bags -/
def xS (g : gG) (gh : gGh) (R AR : gR) (x p bA nA : Nat) : Prop := gO g x 6 ∧ R x 3 = some p ∧ gO g p 2 ∧ R x 5 = some bA ∧ isRA g gh AR bA 16 120 4 ∧ R x 6 = some nA ∧ isRA g gh AR nA 16 120 4
def xF (g : gG) (x : Nat) (I I' : gI) : Prop := (∀ b c, gO g b c → c ≠ 4 → c ≠ 6 → I' b = I b) ∧ I' x 1 = I x 1
theorem xF_r {I : gI} : xF g x I I := ⟨fun _ _ _ _ _ => rfl, rfl⟩
theorem xF_t {I I' I'' : gI} (h : xF g x I I') (h' : xF g x I' I'') : xF g x I I'' := ⟨fun b c hb h4 h6 => (h'.1 b c hb h4 h6).trans (h.1 b c hb h4 h6), h'.2.trans h.2⟩
theorem xF_rF {I I' : gI} (hx : gO g x 6) (h : rF g I I') : xF g x I I' := ⟨fun b c hb h4 _ => h b c hb h4, by rw [h x 6 hx (by decide)]⟩
theorem xF_k {I : gI} {k : Nat} {v : Int32} (hx : gO g x 6) (hk : k ≠ 1) : xF g x I (gup2 I x k v) := ⟨fun b c hb _ h6 => gup2_o hx hb h6, gup2_k _ _ (Ne.symm hk)⟩
end BagInv
end
section
theorem hdX6_putBytes : yX6_putBytes.cls = RX6 ∧ yX6_putBytes.cls ≠ "java/lang/invoke/MethodHandle" ∧ yX6_putBytes.cls ≠ "java/lang/invoke/VarHandle" ∧ (parseMethodDescriptor yX6_putBytes.desc).map (fun d => d.parameters.length) = some 1 := by decide +kernel
theorem hdX6_feed : yX6_feed.cls = RX6 ∧ yX6_feed.cls ≠ "java/lang/invoke/MethodHandle" ∧ yX6_feed.cls ≠ "java/lang/invoke/VarHandle" ∧ (parseMethodDescriptor yX6_feed.desc).map (fun d => d.parameters.length) = some 3 := by decide +kernel
theorem hdX6_end : yX6_end.cls = RX6 ∧ yX6_end.cls ≠ "java/lang/invoke/MethodHandle" ∧ yX6_end.cls ≠ "java/lang/invoke/VarHandle" ∧ (parseMethodDescriptor yX6_end.desc).map (fun d => d.parameters.length) = some 1 := by decide +kernel
def rmX6_isRelation : Room := { frames := 0, cells := 0, slots := 0, locals := 0 }
theorem hdX6_isRelation : yX6_isRelation.cls = RX6 ∧ yX6_isRelation.cls ≠ "java/lang/invoke/MethodHandle" ∧ yX6_isRelation.cls ≠ "java/lang/invoke/VarHandle" ∧ (parseMethodDescriptor yX6_isRelation.desc).map (fun d => d.parameters.length) = some 1 := by decide +kernel
set_option maxHeartbeats 4000000 in
set_option maxRecDepth 100000 in
/-- a relation -/
theorem c_X6_isRelation (l : Launch) (g : gG) (gh : gGh) (pA bA nA : Nat) (I : gI) (R : gR) (J : gJ) (AI : gI) (AJ : gJ) (AR : gR) (x : Nat) (rel : Int) (zrel : zr rel) (hv : gInv g gh R AR I AI) (hx : xS g gh R AR x pA bA nA) : gMet l g yX6_isRelation wsX6_isRelation rmX6_isRelation [.ref x, .int (iI rel)] (I, R, J, AI, AJ, AR) (gQi g (fun (z : Int) (w : gS) => I = w.1 ∧ R = w.2.1 ∧ J = w.2.2.1 ∧ AI = w.2.2.2.1 ∧ AJ = w.2.2.2.2.1 ∧ AR = w.2.2.2.2.2 ∧ ((z = 0 ∨ z = 1) ∧ (z = 1 → 0 ≤ rel ∧ rel < (I pA 1).toInt ∧ rel ≤ 15)))) := by
  refine gStart (cc := cX6_isRelation) (maxL := 2) (ret := (some (.boolean))) (by decide) rfl (Nat.le_of_ble_eq_true rfl) ?_
  intro p e s m below meth c ls F hr hlk hH hz hS hl
  have hl : lv_has ls 2 [(0, .ref x), (1, .int (iI rel))] := hl
  have hS : va_S (gA g) s.heap s.heap [] := hS
  obtain ⟨H, hHe⟩ : ∃ H : Heap, H = s.heap := ⟨_, rfl⟩
  obtain ⟨locs, hlo⟩ : ∃ k : List Loc, k = [] := ⟨_, rfl⟩
  have hH : gH g I R J AI AJ AR H := by rw [hHe]; exact hH
  have hS : va_S (gA g) s.heap H locs := by rw [hHe, hlo]; exact hS
  suffices hw : W p l e rmX6_isRelation s m ([.ref x, .int (iI rel)] : List Value).toArray below meth c H locs 0 0 (MQ below (gQi g (fun (z : Int) (w : gS) => I = w.1 ∧ R = w.2.1 ∧ J = w.2.2.1 ∧ AI = w.2.2.2.1 ∧ AJ = w.2.2.2.2.1 ∧ AR = w.2.2.2.2.2 ∧ ((z = 0 ∨ z = 1) ∧ (z = 1 → 0 ≤ rel ∧ rel < (I pA 1).toInt ∧ rel ≤ 15)))) ([.ref x, .int (iI rel)] : List Value).toArray s 0 0 (gA g)) (F0 m 0 ls []) by
    rw [hHe, hlo] at hw; exact hw
  clear hHe hlo
  have iX6 : ∀ w ∈ u_ws RX6 TX6 18, w ∈ wsX6_isRelation := (by decide +kernel)
  have iX2 : ∀ w ∈ u_ws RX2 TX2 3, w ∈ wsX6_isRelation := (by decide +kernel)
  have k23 : Cond.fieldLink RX6 23 (TX6 3).1 (TX6 3).2.1 (TX6 3).2.2.1 ∈ wsX6_isRelation := List.mem_of_getElem? (i := 1) rfl
  have k96 : Cond.fieldLink RX6 96 (TX2 1).1 (TX2 1).2.1 (TX2 1).2.2.1 ∈ wsX6_isRelation := List.mem_of_getElem? (i := 2) rfl
  refine lv_iload_n F.1 F.2.1 dX6_isRelation_0 rfl (lv_at hl 1 rfl) ?_
  refine z_if_lt (tgt := 19) F dX6_isRelation_1 (by decide) zrel (fun c_1 => ?_) (fun c_1 => ?_)
  · refine z_iconst F dX6_isRelation_19 ?_
    exact g_zret F hr hlk hH hS hz (by omega) ⟨rfl, rfl, rfl, rfl, rfl, rfl, ⟨by omega, fun _ => by omega⟩⟩ dX6_isRelation_20
  · refine lv_iload_n F.1 F.2.1 dX6_isRelation_4 rfl (lv_at hl 1 rfl) ?_
    refine lv_aload_n F.1 F.2.1 dX6_isRelation_5 rfl (lv_at hl 0 rfl) ?_
    refine g_getR (ci := 6) (k := 3) F hH rfl (by decide) iX6 hx.1 (by decide) rfl (b := pA) hx.2.1 k23 dX6_isRelation_6 ?_
    refine g_getI (ci := 2) (k := 1) F hH rfl (by decide) iX2 hx.2.2.1 (by decide) rfl k96 dX6_isRelation_9 ?_
    have b_2 := gI_plan hv hx.2.2.1
    refine z_icmp_ge (tgt := 19) F dX6_isRelation_12 (by decide) zrel (zr_t _) (fun c_3 => ?_) (fun c_3 => ?_)
    · refine z_iconst F dX6_isRelation_19 ?_
      exact g_zret F hr hlk hH hS hz (by omega) ⟨rfl, rfl, rfl, rfl, rfl, rfl, ⟨by omega, fun _ => by omega⟩⟩ dX6_isRelation_20
    · refine z_iconst F dX6_isRelation_15 ?_
      refine z_goto (tgt := 20) F dX6_isRelation_16 (by decide) ?_
      exact g_zret F hr hlk hH hS hz (by omega) ⟨rfl, rfl, rfl, rfl, rfl, rfl, ⟨by omega, fun _ => by omega⟩⟩ dX6_isRelation_20

theorem hdX6_isRing : yX6_isRing.cls = RX6 ∧ yX6_isRing.cls ≠ "java/lang/invoke/MethodHandle" ∧ yX6_isRing.cls ≠ "java/lang/invoke/VarHandle" ∧ (parseMethodDescriptor yX6_isRing.desc).map (fun d => d.parameters.length) = some 1 := by decide +kernel
theorem hdX6_change : yX6_change.cls = RX6 ∧ yX6_change.cls ≠ "java/lang/invoke/MethodHandle" ∧ yX6_change.cls ≠ "java/lang/invoke/VarHandle" ∧ (parseMethodDescriptor yX6_change.desc).map (fun d => d.parameters.length) = some 6 := by decide +kernel
theorem hdX6_cancel : yX6_cancel.cls = RX6 ∧ yX6_cancel.cls ≠ "java/lang/invoke/MethodHandle" ∧ yX6_cancel.cls ≠ "java/lang/invoke/VarHandle" ∧ (parseMethodDescriptor yX6_cancel.desc).map (fun d => d.parameters.length) = some 0 := by decide +kernel
theorem hdX6_setKey : yX6_setKey.cls = RX6 ∧ yX6_setKey.cls ≠ "java/lang/invoke/MethodHandle" ∧ yX6_setKey.cls ≠ "java/lang/invoke/VarHandle" ∧ (parseMethodDescriptor yX6_setKey.desc).map (fun d => d.parameters.length) = some 5 := by decide +kernel
theorem hdX6_fallsBelowZero : yX6_fallsBelowZero.cls = RX6 ∧ yX6_fallsBelowZero.cls ≠ "java/lang/invoke/MethodHandle" ∧ yX6_fallsBelowZero.cls ≠ "java/lang/invoke/VarHandle" ∧ (parseMethodDescriptor yX6_fallsBelowZero.desc).map (fun d => d.parameters.length) = some 2 := by decide +kernel
theorem hdX6_pickChanges : yX6_pickChanges.cls = RX6 ∧ yX6_pickChanges.cls ≠ "java/lang/invoke/MethodHandle" ∧ yX6_pickChanges.cls ≠ "java/lang/invoke/VarHandle" ∧ (parseMethodDescriptor yX6_pickChanges.desc).map (fun d => d.parameters.length) = some 2 := by decide +kernel
theorem hdX6_reckonNext : yX6_reckonNext.cls = RX6 ∧ yX6_reckonNext.cls ≠ "java/lang/invoke/MethodHandle" ∧ yX6_reckonNext.cls ≠ "java/lang/invoke/VarHandle" ∧ (parseMethodDescriptor yX6_reckonNext.desc).map (fun d => d.parameters.length) = some 2 := by decide +kernel
theorem hdX6_movedInViews : yX6_movedInViews.cls = RX6 ∧ yX6_movedInViews.cls ≠ "java/lang/invoke/MethodHandle" ∧ yX6_movedInViews.cls ≠ "java/lang/invoke/VarHandle" ∧ (parseMethodDescriptor yX6_movedInViews.desc).map (fun d => d.parameters.length) = some 0 := by decide +kernel
theorem hdX6_cameTo : yX6_cameTo.cls = RX6 ∧ yX6_cameTo.cls ≠ "java/lang/invoke/MethodHandle" ∧ yX6_cameTo.cls ≠ "java/lang/invoke/VarHandle" ∧ (parseMethodDescriptor yX6_cameTo.desc).map (fun d => d.parameters.length) = some 1 := by decide +kernel
theorem hdX6_cameToViews : yX6_cameToViews.cls = RX6 ∧ yX6_cameToViews.cls ≠ "java/lang/invoke/MethodHandle" ∧ yX6_cameToViews.cls ≠ "java/lang/invoke/VarHandle" ∧ (parseMethodDescriptor yX6_cameToViews.desc).map (fun d => d.parameters.length) = some 0 := by decide +kernel
theorem hdX6_tuplesOfViews : yX6_tuplesOfViews.cls = RX6 ∧ yX6_tuplesOfViews.cls ≠ "java/lang/invoke/MethodHandle" ∧ yX6_tuplesOfViews.cls ≠ "java/lang/invoke/VarHandle" ∧ (parseMethodDescriptor yX6_tuplesOfViews.desc).map (fun d => d.parameters.length) = some 0 := by decide +kernel
theorem hdX6_size : yX6_size.cls = RX6 ∧ yX6_size.cls ≠ "java/lang/invoke/MethodHandle" ∧ yX6_size.cls ≠ "java/lang/invoke/VarHandle" ∧ (parseMethodDescriptor yX6_size.desc).map (fun d => d.parameters.length) = some 1 := by decide +kernel
theorem hdX6_moved : yX6_moved.cls = RX6 ∧ yX6_moved.cls ≠ "java/lang/invoke/MethodHandle" ∧ yX6_moved.cls ≠ "java/lang/invoke/VarHandle" ∧ (parseMethodDescriptor yX6_moved.desc).map (fun d => d.parameters.length) = some 1 := by decide +kernel
theorem hdX6_came : yX6_came.cls = RX6 ∧ yX6_came.cls ≠ "java/lang/invoke/MethodHandle" ∧ yX6_came.cls ≠ "java/lang/invoke/VarHandle" ∧ (parseMethodDescriptor yX6_came.desc).map (fun d => d.parameters.length) = some 1 := by decide +kernel
theorem hdX6_would : yX6_would.cls = RX6 ∧ yX6_would.cls ≠ "java/lang/invoke/MethodHandle" ∧ yX6_would.cls ≠ "java/lang/invoke/VarHandle" ∧ (parseMethodDescriptor yX6_would.desc).map (fun d => d.parameters.length) = some 1 := by decide +kernel
theorem hdX6_round : yX6_round.cls = RX6 ∧ yX6_round.cls ≠ "java/lang/invoke/MethodHandle" ∧ yX6_round.cls ≠ "java/lang/invoke/VarHandle" ∧ (parseMethodDescriptor yX6_round.desc).map (fun d => d.parameters.length) = some 5 := by decide +kernel
theorem hdX6_rounds : yX6_rounds.cls = RX6 ∧ yX6_rounds.cls ≠ "java/lang/invoke/MethodHandle" ∧ yX6_rounds.cls ≠ "java/lang/invoke/VarHandle" ∧ (parseMethodDescriptor yX6_rounds.desc).map (fun d => d.parameters.length) = some 1 := by decide +kernel
theorem hdX6_differs : yX6_differs.cls = RX6 ∧ yX6_differs.cls ≠ "java/lang/invoke/MethodHandle" ∧ yX6_differs.cls ≠ "java/lang/invoke/VarHandle" ∧ (parseMethodDescriptor yX6_differs.desc).map (fun d => d.parameters.length) = some 1 := by decide +kernel
def rmX6_of : Room := { frames := 1, cells := 0, slots := 0, locals := 23 }
theorem hdX6_of : yX6_of.cls = RX6 ∧ yX6_of.cls ≠ "java/lang/invoke/MethodHandle" ∧ yX6_of.cls ≠ "java/lang/invoke/VarHandle" ∧ (parseMethodDescriptor yX6_of.desc).map (fun d => d.parameters.length) = some 2 := by decide +kernel
set_option maxHeartbeats 4000000 in
set_option maxRecDepth 100000 in
/-- of -/
theorem c_X6_of (l : Launch) (g : gG) (gh : gGh) (pA bA nA : Nat) (I : gI) (R : gR) (J : gJ) (AI : gI) (AJ : gJ) (AR : gR) (x : Nat) (rel : Int) (wh : Int) (zrel : zr rel) (zwh : zr wh) (hv : gInv g gh R AR I AI) (hx : xS g gh R AR x pA bA nA) : gMet l g yX6_of wsX6_of rmX6_of [.ref x, .int (iI rel), .int (iI wh)] (I, R, J, AI, AJ, AR) (gQi g (fun (z : Int) (w : gS) => I = w.1 ∧ R = w.2.1 ∧ J = w.2.2.1 ∧ AI = w.2.2.2.1 ∧ AJ = w.2.2.2.2.1 ∧ AR = w.2.2.2.2.2)) := by
  refine gStart (cc := cX6_of) (maxL := 4) (ret := (some (.int))) (by decide) rfl (Nat.le_of_ble_eq_true rfl) ?_
  intro p e s m below meth c ls F hr hlk hH hz hS hl
  have hl : lv_has ls 4 [(0, .ref x), (1, .int (iI rel)), (2, .int (iI wh))] := hl
  have hS : va_S (gA g) s.heap s.heap [] := hS
  obtain ⟨H, hHe⟩ : ∃ H : Heap, H = s.heap := ⟨_, rfl⟩
  obtain ⟨locs, hlo⟩ : ∃ k : List Loc, k = [] := ⟨_, rfl⟩
  have hH : gH g I R J AI AJ AR H := by rw [hHe]; exact hH
  have hS : va_S (gA g) s.heap H locs := by rw [hHe, hlo]; exact hS
  suffices hw : W p l e rmX6_of s m ([.ref x, .int (iI rel), .int (iI wh)] : List Value).toArray below meth c H locs 0 0 (MQ below (gQi g (fun (z : Int) (w : gS) => I = w.1 ∧ R = w.2.1 ∧ J = w.2.2.1 ∧ AI = w.2.2.2.1 ∧ AJ = w.2.2.2.2.1 ∧ AR = w.2.2.2.2.2)) ([.ref x, .int (iI rel), .int (iI wh)] : List Value).toArray s 0 0 (gA g)) (F0 m 0 ls []) by
    rw [hHe, hlo] at hw; exact hw
  clear hHe hlo
  have iX6 : ∀ w ∈ u_ws RX6 TX6 18, w ∈ wsX6_of := (by decide +kernel)
  have iX2 : ∀ w ∈ u_ws RX2 TX2 3, w ∈ wsX6_of := (by decide +kernel)
  have iX0 : ∀ w ∈ u_ws RX0 TX0 15, w ∈ wsX6_of := (by decide +kernel)
  have k23 : Cond.fieldLink RX6 23 (TX6 3).1 (TX6 3).2.1 (TX6 3).2.2.1 ∈ wsX6_of := List.mem_of_getElem? (i := 1) rfl
  have k113 : Cond.fieldLink RX6 113 (TX2 0).1 (TX2 0).2.1 (TX2 0).2.2.1 ∈ wsX6_of := List.mem_of_getElem? (i := 2) rfl
  have k117 : Cond.fieldLink RX6 117 (TX0 0).1 (TX0 0).2.1 (TX0 0).2.2.1 ∈ wsX6_of := List.mem_of_getElem? (i := 3) rfl
  have k125 : Cond.fieldLink RX6 125 (TX0 2).1 (TX0 2).2.1 (TX0 2).2.2.1 ∈ wsX6_of := List.mem_of_getElem? (i := 4) rfl
  have k224 : Cond.fieldLink RX6 224 (TX0 3).1 (TX0 3).2.1 (TX0 3).2.2.1 ∈ wsX6_of := List.mem_of_getElem? (i := 5) rfl
  have k227 : Cond.fieldLink RX6 227 (TX0 4).1 (TX0 4).2.1 (TX0 4).2.2.1 ∈ wsX6_of := List.mem_of_getElem? (i := 6) rfl
  have k239 : Cond.fieldLink RX6 239 (TX0 13).1 (TX0 13).2.1 (TX0 13).2.2.1 ∈ wsX6_of := List.mem_of_getElem? (i := 7) rfl
  have k245 : Cond.fieldLink RX6 245 (TX0 14).1 (TX0 14).2.1 (TX0 14).2.2.1 ∈ wsX6_of := List.mem_of_getElem? (i := 8) rfl
  refine lv_aload_n F.1 F.2.1 dX6_of_0 rfl (lv_at hl 0 rfl) ?_
  refine lv_iload_n F.1 F.2.1 dX6_of_1 rfl (lv_at hl 1 rfl) ?_
  have b_1 := gI_x hv hx.1
  refine g_calli (g_runV (As := [.int (iI rel)]) (rest := []) (ci := 6) F hl.1 hH hS hz (c_X6_isRelation l g gh pA bA nA I R J AI AJ AR x rel zrel hv hx) (cwV 1 F.2.2.2.2.1 gX6_of_X6_isRelation rfl rfl rfl hdX6_isRelation ⟨Nat.le_of_ble_eq_true rfl, Nat.le_of_ble_eq_true rfl⟩) hx.1 (by decide) rfl rfl rfl (Nat.le_of_ble_eq_true rfl) dX6_of_2 ⟨Nat.zero_le _, Nat.zero_le _⟩) hS (fun v_8 I_2 R_3 J_4 AI_5 AJ_6 AR_7 H locs zv_8 hp_9 hH hS => ?_)
  dsimp only at hp_9
  obtain ⟨rfl, rfl, rfl, rfl, rfl, rfl, q_10⟩ := hp_9
  refine z_if_ne (tgt := 10) F dX6_of_5 (by decide) zv_8 (fun c_11 => ?_) (fun c_11 => ?_)
  · refine lv_aload_n F.1 F.2.1 dX6_of_10 rfl (lv_at hl 0 rfl) ?_
    refine g_getR (ci := 6) (k := 3) F hH rfl (by decide) iX6 hx.1 (by decide) rfl (b := pA) hx.2.1 k23 dX6_of_11 ?_
    obtain ⟨r_12a, r_12b⟩ := gR_lines hv hx.2.2.1
    refine g_getR (ci := 2) (k := 0) F hH rfl (by decide) iX2 hx.2.2.1 (by decide) rfl (b := gh 6 pA) r_12a k113 dX6_of_14 ?_
    refine lv_iload_n F.1 F.2.1 dX6_of_17 rfl (lv_at hl 1 rfl) ?_
    have hx18 : 0 ≤ rel ∧ rel < ((16 : Nat) : Int) ∧ rel ≤ 2147483647 := ⟨by omega, by omega, by omega⟩
    obtain ⟨y_13, y_13a, y_13b, y_13c, y_13d⟩ := gA_lines hv hx.2.2.1 (z := rel) (by omega) (by omega)
    refine g_aldL F hH r_12b hx18.1 hx18.2.1 hx18.2.2 (b := y_13) y_13a dX6_of_18 ?_
    refine lv_astore_n (lv' := [(3, .ref y_13), (0, .ref x), (1, .int (iI rel)), (2, .int (iI wh))]) F.1 F.2.1 dX6_of_19 rfl hl (by decide) rfl (fun ls hl => ?_)
    refine lv_iload_n F.1 F.2.1 dX6_of_20 rfl (lv_at hl 3 rfl) ?_
    have ec_14 : (iI wh).toInt = wh := iI_val zwh
    by_cases c_14 : wh < 0 ∨ 8 < wh
    · refine lv_tableOut (tgt := 121) F.1 F.2.1 dX6_of_21 (by rw [ec_14]; exact c_14) (by decide) ?_
      refine z_iconst F dX6_of_121 ?_
      exact g_iret F hr hlk hH hS hz ⟨by decide, by decide⟩ ⟨rfl, rfl, rfl, rfl, rfl, rfl⟩ dX6_of_122
    by_cases c_14_0 : wh = 0
    · refine lv_tableIn (tgt := 72) (off := 51) F.1 F.2.1 dX6_of_21 (by rw [ec_14]; omega) (by rw [ec_14]; omega) (by rw [ec_14, c_14_0]; rfl) (by decide) ?_
      refine lv_aload_n F.1 F.2.1 dX6_of_72 rfl (lv_at hl 0 rfl) ?_
      refine g_getI (ci := 0) (k := 0) F hH rfl (by decide) iX0 y_13b (by decide) rfl k117 dX6_of_73 ?_
      have b_15 := gI_line hv y_13b
      unfold vLineI at b_15
      exact g_iret F hr hlk hH hS hz (zr_t _) ⟨rfl, rfl, rfl, rfl, rfl, rfl⟩ dX6_of_76
    by_cases c_14_1 : wh = 1
    · refine lv_tableIn (tgt := 77) (off := 56) F.1 F.2.1 dX6_of_21 (by rw [ec_14]; omega) (by rw [ec_14]; omega) (by rw [ec_14, c_14_1]; rfl) (by decide) ?_
      refine lv_aload_n F.1 F.2.1 dX6_of_77 rfl (lv_at hl 0 rfl) ?_
      refine g_getI (ci := 0) (k := 2) F hH rfl (by decide) iX0 y_13b (by decide) rfl k125 dX6_of_78 ?_
      have b_16 := gI_line hv y_13b
      unfold vLineI at b_16
      exact g_iret F hr hlk hH hS hz (zr_t _) ⟨rfl, rfl, rfl, rfl, rfl, rfl⟩ dX6_of_81
    by_cases c_14_2 : wh = 2
    · refine lv_tableIn (tgt := 82) (off := 61) F.1 F.2.1 dX6_of_21 (by rw [ec_14]; omega) (by rw [ec_14]; omega) (by rw [ec_14, c_14_2]; rfl) (by decide) ?_
      refine lv_aload_n F.1 F.2.1 dX6_of_82 rfl (lv_at hl 0 rfl) ?_
      refine g_getI (ci := 0) (k := 3) F hH rfl (by decide) iX0 y_13b (by decide) rfl k224 dX6_of_83 ?_
      have b_17 := gI_line hv y_13b
      unfold vLineI at b_17
      exact g_iret F hr hlk hH hS hz (zr_t _) ⟨rfl, rfl, rfl, rfl, rfl, rfl⟩ dX6_of_86
    by_cases c_14_3 : wh = 3
    · refine lv_tableIn (tgt := 87) (off := 66) F.1 F.2.1 dX6_of_21 (by rw [ec_14]; omega) (by rw [ec_14]; omega) (by rw [ec_14, c_14_3]; rfl) (by decide) ?_
      refine lv_aload_n F.1 F.2.1 dX6_of_87 rfl (lv_at hl 0 rfl) ?_
      refine g_getI (ci := 0) (k := 4) F hH rfl (by decide) iX0 y_13b (by decide) rfl k227 dX6_of_88 ?_
      have b_18 := gI_line hv y_13b
      unfold vLineI at b_18
      exact g_iret F hr hlk hH hS hz (zr_t _) ⟨rfl, rfl, rfl, rfl, rfl, rfl⟩ dX6_of_91
    by_cases c_14_4 : wh = 4
    · refine lv_tableIn (tgt := 92) (off := 71) F.1 F.2.1 dX6_of_21 (by rw [ec_14]; omega) (by rw [ec_14]; omega) (by rw [ec_14, c_14_4]; rfl) (by decide) ?_
      refine lv_aload_n F.1 F.2.1 dX6_of_92 rfl (lv_at hl 0 rfl) ?_
      refine g_getI (ci := 0) (k := 13) F hH rfl (by decide) iX0 y_13b (by decide) rfl k239 dX6_of_93 ?_
      refine z_norm (fun v_19 zv_19 ev_19 => ?_)
      exact g_iret F hr hlk hH hS hz zv_19 ⟨rfl, rfl, rfl, rfl, rfl, rfl⟩ dX6_of_96
    by_cases c_14_5 : wh = 5
    · refine lv_tableIn (tgt := 97) (off := 76) F.1 F.2.1 dX6_of_21 (by rw [ec_14]; omega) (by rw [ec_14]; omega) (by rw [ec_14, c_14_5]; rfl) (by decide) ?_
      refine lv_aload_n F.1 F.2.1 dX6_of_97 rfl (lv_at hl 1 rfl) ?_
      refine g_getR (ci := 6) (k := 3) F hH rfl (by decide) iX6 hx.1 (by decide) rfl (b := pA) hx.2.1 k23 dX6_of_98 ?_
      refine lv_iload_n F.1 F.2.1 dX6_of_101 rfl (lv_at hl 2 rfl) ?_
      have b_20 := gI_plan hv hx.2.2.1
      refine g_calli (g_runV (As := [.int (iI rel)]) (rest := []) (ci := 2) F hl.1 hH hS hz (c_X2_hangingOn l g gh I R J AI AJ AR pA rel zrel hv hx.2.2.1) (cwV 1 F.2.2.2.2.1 gX6_of_X2_hangingOn rfl rfl rfl hdX2_hangingOn ⟨Nat.le_of_ble_eq_true rfl, Nat.le_of_ble_eq_true rfl⟩) hx.2.2.1 (by decide) rfl rfl rfl (Nat.le_of_ble_eq_true rfl) dX6_of_102 ⟨Nat.zero_le _, Nat.zero_le _⟩) hS (fun v_27 I_21 R_22 J_23 AI_24 AJ_25 AR_26 H locs zv_27 hp_28 hH hS => ?_)
      dsimp only at hp_28
      obtain ⟨rfl, rfl, rfl, rfl, rfl, rfl⟩ := hp_28
      exact g_iret F hr hlk hH hS hz zv_27 ⟨rfl, rfl, rfl, rfl, rfl, rfl⟩ dX6_of_105
    by_cases c_14_6 : wh = 6
    · refine lv_tableIn (tgt := 106) (off := 85) F.1 F.2.1 dX6_of_21 (by rw [ec_14]; omega) (by rw [ec_14]; omega) (by rw [ec_14, c_14_6]; rfl) (by decide) ?_
      refine lv_aload_n F.1 F.2.1 dX6_of_106 rfl (lv_at hl 0 rfl) ?_
      refine g_getI (ci := 0) (k := 14) F hH rfl (by decide) iX0 y_13b (by decide) rfl k245 dX6_of_107 ?_
      refine z_norm (fun v_29 zv_29 ev_29 => ?_)
      exact g_iret F hr hlk hH hS hz zv_29 ⟨rfl, rfl, rfl, rfl, rfl, rfl⟩ dX6_of_110
    by_cases c_14_7 : wh = 7
    · refine lv_tableIn (tgt := 111) (off := 90) F.1 F.2.1 dX6_of_21 (by rw [ec_14]; omega) (by rw [ec_14]; omega) (by rw [ec_14, c_14_7]; rfl) (by decide) ?_
      refine lv_aload_n F.1 F.2.1 dX6_of_111 rfl (lv_at hl 0 rfl) ?_
      have b_30 := gI_line hv y_13b
      unfold vLineI at b_30
      refine g_calli (g_runV (As := []) (rest := []) (ci := 0) F hl.1 hH hS hz (c_X0_firstLetter l g gh I R J AI AJ AR y_13 hv y_13b) (cwV 0 F.2.2.2.2.1 gX6_of_X0_firstLetter rfl rfl rfl hdX0_firstLetter ⟨Nat.le_of_ble_eq_true rfl, Nat.le_of_ble_eq_true rfl⟩) y_13b (by decide) rfl rfl rfl (Nat.le_of_ble_eq_true rfl) dX6_of_112 ⟨Nat.zero_le _, Nat.zero_le _⟩) hS (fun v_37 I_31 R_32 J_33 AI_34 AJ_35 AR_36 H locs zv_37 hp_38 hH hS => ?_)
      dsimp only at hp_38
      obtain ⟨rfl, rfl, rfl, rfl, rfl, rfl⟩ := hp_38
      exact g_iret F hr hlk hH hS hz zv_37 ⟨rfl, rfl, rfl, rfl, rfl, rfl⟩ dX6_of_115
    have c_14_8 : wh = 8 := by omega
    refine lv_tableIn (tgt := 116) (off := 95) F.1 F.2.1 dX6_of_21 (by rw [ec_14]; omega) (by rw [ec_14]; omega) (by rw [ec_14, c_14_8]; rfl) (by decide) ?_
    refine lv_aload_n F.1 F.2.1 dX6_of_116 rfl (lv_at hl 0 rfl) ?_
    have b_39 := gI_line hv y_13b
    unfold vLineI at b_39
    refine g_calli (g_runV (As := []) (rest := []) (ci := 0) F hl.1 hH hS hz (c_X0_lastLetter l g gh I R J AI AJ AR y_13 hv y_13b) (cwV 0 F.2.2.2.2.1 gX6_of_X0_lastLetter rfl rfl rfl hdX0_lastLetter ⟨Nat.le_of_ble_eq_true rfl, Nat.le_of_ble_eq_true rfl⟩) y_13b (by decide) rfl rfl rfl (Nat.le_of_ble_eq_true rfl) dX6_of_117 ⟨Nat.zero_le _, Nat.zero_le _⟩) hS (fun v_46 I_40 R_41 J_42 AI_43 AJ_44 AR_45 H locs zv_46 hp_47 hH hS => ?_)
    dsimp only at hp_47
    obtain ⟨rfl, rfl, rfl, rfl, rfl, rfl⟩ := hp_47
    exact g_iret F hr hlk hH hS hz zv_46 ⟨rfl, rfl, rfl, rfl, rfl, rfl⟩ dX6_of_120
  · refine z_iconst F dX6_of_8 ?_
    exact g_iret F hr hlk hH hS hz ⟨by decide, by decide⟩ ⟨rfl, rfl, rfl, rfl, rfl, rfl⟩ dX6_of_9

theorem hdX6_told : yX6_told.cls = RX6 ∧ yX6_told.cls ≠ "java/lang/invoke/MethodHandle" ∧ yX6_told.cls ≠ "java/lang/invoke/VarHandle" ∧ (parseMethodDescriptor yX6_told.desc).map (fun d => d.parameters.length) = some 1 := by decide +kernel
theorem hdX6_gatherValues : yX6_gatherValues.cls = RX6 ∧ yX6_gatherValues.cls ≠ "java/lang/invoke/MethodHandle" ∧ yX6_gatherValues.cls ≠ "java/lang/invoke/VarHandle" ∧ (parseMethodDescriptor yX6_gatherValues.desc).map (fun d => d.parameters.length) = some 2 := by decide +kernel
theorem hdX6_remember : yX6_remember.cls = RX6 ∧ yX6_remember.cls ≠ "java/lang/invoke/MethodHandle" ∧ yX6_remember.cls ≠ "java/lang/invoke/VarHandle" ∧ (parseMethodDescriptor yX6_remember.desc).map (fun d => d.parameters.length) = some 1 := by decide +kernel
end
section
theorem hdX6_takeNext : yX6_takeNext.cls = RX6 ∧ yX6_takeNext.cls ≠ "java/lang/invoke/MethodHandle" ∧ yX6_takeNext.cls ≠ "java/lang/invoke/VarHandle" ∧ (parseMethodDescriptor yX6_takeNext.desc).map (fun d => d.parameters.length) = some 0 := by decide +kernel
theorem hdX6_undo : yX6_undo.cls = RX6 ∧ yX6_undo.cls ≠ "java/lang/invoke/MethodHandle" ∧ yX6_undo.cls ≠ "java/lang/invoke/VarHandle" ∧ (parseMethodDescriptor yX6_undo.desc).map (fun d => d.parameters.length) = some 0 := by decide +kernel
theorem hdX6_commit : yX6_commit.cls = RX6 ∧ yX6_commit.cls ≠ "java/lang/invoke/MethodHandle" ∧ yX6_commit.cls ≠ "java/lang/invoke/VarHandle" ∧ (parseMethodDescriptor yX6_commit.desc).map (fun d => d.parameters.length) = some 0 := by decide +kernel
theorem hdX6_startAnew : yX6_startAnew.cls = RX6 ∧ yX6_startAnew.cls ≠ "java/lang/invoke/MethodHandle" ∧ yX6_startAnew.cls ≠ "java/lang/invoke/VarHandle" ∧ (parseMethodDescriptor yX6_startAnew.desc).map (fun d => d.parameters.length) = some 0 := by decide +kernel
end
section
theorem hdX5_isDigit : yX5_isDigit.cls = RX5 ∧ yX5_isDigit.cls ≠ "java/lang/invoke/MethodHandle" ∧ yX5_isDigit.cls ≠ "java/lang/invoke/VarHandle" ∧ (parseMethodDescriptor yX5_isDigit.desc).map (fun d => d.parameters.length) = some 1 := by decide +kernel
theorem hdX5_isRunSign : yX5_isRunSign.cls = RX5 ∧ yX5_isRunSign.cls ≠ "java/lang/invoke/MethodHandle" ∧ yX5_isRunSign.cls ≠ "java/lang/invoke/VarHandle" ∧ (parseMethodDescriptor yX5_isRunSign.desc).map (fun d => d.parameters.length) = some 1 := by decide +kernel
theorem hdX5_nameOf : yX5_nameOf.cls = RX5 ∧ yX5_nameOf.cls ≠ "java/lang/invoke/MethodHandle" ∧ yX5_nameOf.cls ≠ "java/lang/invoke/VarHandle" ∧ (parseMethodDescriptor yX5_nameOf.desc).map (fun d => d.parameters.length) = some 3 := by decide +kernel
theorem hdX5_numberOf : yX5_numberOf.cls = RX5 ∧ yX5_numberOf.cls ≠ "java/lang/invoke/MethodHandle" ∧ yX5_numberOf.cls ≠ "java/lang/invoke/VarHandle" ∧ (parseMethodDescriptor yX5_numberOf.desc).map (fun d => d.parameters.length) = some 3 := by decide +kernel
theorem hdX5_wordsAgree : yX5_wordsAgree.cls = RX5 ∧ yX5_wordsAgree.cls ≠ "java/lang/invoke/MethodHandle" ∧ yX5_wordsAgree.cls ≠ "java/lang/invoke/VarHandle" ∧ (parseMethodDescriptor yX5_wordsAgree.desc).map (fun d => d.parameters.length) = some 4 := by decide +kernel
theorem hdX5_wordNumber : yX5_wordNumber.cls = RX5 ∧ yX5_wordNumber.cls ≠ "java/lang/invoke/MethodHandle" ∧ yX5_wordNumber.cls ≠ "java/lang/invoke/VarHandle" ∧ (parseMethodDescriptor yX5_wordNumber.desc).map (fun d => d.parameters.length) = some 3 := by decide +kernel
theorem hdX5_addToken : yX5_addToken.cls = RX5 ∧ yX5_addToken.cls ≠ "java/lang/invoke/MethodHandle" ∧ yX5_addToken.cls ≠ "java/lang/invoke/VarHandle" ∧ (parseMethodDescriptor yX5_addToken.desc).map (fun d => d.parameters.length) = some 4 := by decide +kernel
theorem hdX5_readRun : yX5_readRun.cls = RX5 ∧ yX5_readRun.cls ≠ "java/lang/invoke/MethodHandle" ∧ yX5_readRun.cls ≠ "java/lang/invoke/VarHandle" ∧ (parseMethodDescriptor yX5_readRun.desc).map (fun d => d.parameters.length) = some 3 := by decide +kernel
theorem hdX5_read : yX5_read.cls = RX5 ∧ yX5_read.cls ≠ "java/lang/invoke/MethodHandle" ∧ yX5_read.cls ≠ "java/lang/invoke/VarHandle" ∧ (parseMethodDescriptor yX5_read.desc).map (fun d => d.parameters.length) = some 2 := by decide +kernel
end
section
def yF (g : gG) (I I' : gI) : Prop := ∀ b c, gO g b c → c ≠ 0 → c ≠ 1 → c ≠ 2 → c ≠ 5 → I' b = I b
theorem yF_r {g : gG} {I : gI} : yF g I I := fun _ _ _ _ _ _ _ => rfl
theorem yF_t {g : gG} {I I' I'' : gI} (h : yF g I I') (h' : yF g I' I'') : yF g I I'' := fun b c hb h0 h1 h2 h5 => (h' b c hb h0 h1 h2 h5).trans (h b c hb h0 h1 h2 h5)
theorem yF_o {g : gG} {I I' : gI} {o d : Nat} (ho : gO g o d) (hd : d = 0 ∨ d = 1 ∨ d = 2 ∨ d = 5) (f : ∀ b, b ≠ o → I' b = I b) : yF g I I' := fun b c hb h0 h1 h2 h5 => f b (gO_ne hb ho (by omega))
theorem xS_R {g : gG} {gh : gGh} {R R' AR : gR} {x p b n : Nat} (h : xS g gh R AR x p b n) (e : ∀ k, R' x k = R x k) : xS g gh R' AR x p b n := ⟨h.1, by rw [e]; exact h.2.1, h.2.2.1, by rw [e]; exact h.2.2.2.1, h.2.2.2.2.1, by rw [e]; exact h.2.2.2.2.2.1, h.2.2.2.2.2.2⟩
end
section
theorem hdX1_parse : yX1_parse.cls = RX1 ∧ yX1_parse.cls ≠ "java/lang/invoke/MethodHandle" ∧ yX1_parse.cls ≠ "java/lang/invoke/VarHandle" ∧ (parseMethodDescriptor yX1_parse.desc).map (fun d => d.parameters.length) = some 2 := by decide +kernel
theorem hdX6_plan : yX6_plan.cls = RX6 ∧ yX6_plan.cls ≠ "java/lang/invoke/MethodHandle" ∧ yX6_plan.cls ≠ "java/lang/invoke/VarHandle" ∧ (parseMethodDescriptor yX6_plan.desc).map (fun d => d.parameters.length) = some 0 := by decide +kernel
end
