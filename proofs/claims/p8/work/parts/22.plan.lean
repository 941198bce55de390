theorem hdX4_copyFrom : yX4_copyFrom.cls = RX4 ∧ yX4_copyFrom.cls ≠ "java/lang/invoke/MethodHandle" ∧ yX4_copyFrom.cls ≠ "java/lang/invoke/VarHandle" ∧ (parseMethodDescriptor yX4_copyFrom.desc).map (fun d => d.parameters.length) = some 1 := by decide +kernel
def rmX2_relationOf : Room := { frames := 0, cells := 0, slots := 0, locals := 0 }
theorem hdX2_relationOf : yX2_relationOf.cls = RX2 ∧ yX2_relationOf.cls ≠ "java/lang/invoke/MethodHandle" ∧ yX2_relationOf.cls ≠ "java/lang/invoke/VarHandle" ∧ (parseMethodDescriptor yX2_relationOf.desc).map (fun d => d.parameters.length) = some 1 := by decide +kernel
set_option maxHeartbeats 4000000 in
set_option maxRecDepth 100000 in
/-- the relation of a name -/
theorem c_X2_relationOf (l : Launch) (g : gG) (gh : gGh) (I : gI) (R : gR) (J : gJ) (AI : gI) (AJ : gJ) (AR : gR) (a : Nat) (nm : Int64) (hv : gInv g gh R AR I AI) (ha : gO g a 2) : gMet l g yX2_relationOf wsX2_relationOf rmX2_relationOf [.ref a, .long nm] (I, R, J, AI, AJ, AR) (gQi g (fun (z : Int) (w : gS) => I = w.1 ∧ R = w.2.1 ∧ J = w.2.2.1 ∧ AI = w.2.2.2.1 ∧ AJ = w.2.2.2.2.1 ∧ AR = w.2.2.2.2.2 ∧ ((z = -1 ∧ ∀ j : Nat, (j : Int) < (I a 1).toInt → ∀ b, AR (gh 6 a) j = some b → J b 1 ≠ nm) ∨ (0 ≤ z ∧ z < (I a 1).toInt ∧ ∃ b, AR (gh 6 a) z.toNat = some b ∧ J b 1 = nm)))) := by
  refine gStart (cc := cX2_relationOf) (maxL := 4) (ret := (some (.int))) (by decide) rfl (Nat.le_of_ble_eq_true rfl) ?_
  intro p e s m below meth c ls F hr hlk hH hz hS hl
  have hl : lv_has ls 4 [(0, .ref a), (1, .long nm)] := hl
  have hS : va_S (gA g) s.heap s.heap [] := hS
  obtain ⟨H, hHe⟩ : ∃ H : Heap, H = s.heap := ⟨_, rfl⟩
  obtain ⟨locs, hlo⟩ : ∃ k : List Loc, k = [] := ⟨_, rfl⟩
  have hH : gH g I R J AI AJ AR H := by rw [hHe]; exact hH
  have hS : va_S (gA g) s.heap H locs := by rw [hHe, hlo]; exact hS
  suffices hw : W p l e rmX2_relationOf s m ([.ref a, .long nm] : List Value).toArray below meth c H locs 0 0 (MQ below (gQi g (fun (z : Int) (w : gS) => I = w.1 ∧ R = w.2.1 ∧ J = w.2.2.1 ∧ AI = w.2.2.2.1 ∧ AJ = w.2.2.2.2.1 ∧ AR = w.2.2.2.2.2 ∧ ((z = -1 ∧ ∀ j : Nat, (j : Int) < (I a 1).toInt → ∀ b, AR (gh 6 a) j = some b → J b 1 ≠ nm) ∨ (0 ≤ z ∧ z < (I a 1).toInt ∧ ∃ b, AR (gh 6 a) z.toNat = some b ∧ J b 1 = nm)))) ([.ref a, .long nm] : List Value).toArray s 0 0 (gA g)) (F0 m 0 ls []) by
    rw [hHe, hlo] at hw; exact hw
  clear hHe hlo
  have iX2 : ∀ w ∈ u_ws RX2 TX2 3, w ∈ wsX2_relationOf := (by decide +kernel)
  have iX0 : ∀ w ∈ u_ws RX0 TX0 15, w ∈ wsX2_relationOf := (by decide +kernel)
  have k18 : Cond.fieldLink RX2 18 (TX2 1).1 (TX2 1).2.1 (TX2 1).2.2.1 ∈ wsX2_relationOf := List.mem_of_getElem? (i := 1) rfl
  have k11 : Cond.fieldLink RX2 11 (TX2 0).1 (TX2 0).2.1 (TX2 0).2.2.1 ∈ wsX2_relationOf := List.mem_of_getElem? (i := 2) rfl
  have k22 : Cond.fieldLink RX2 22 (TX0 1).1 (TX0 1).2.1 (TX0 1).2.2.1 ∈ wsX2_relationOf := List.mem_of_getElem? (i := 3) rfl
  refine z_iconst F dX2_relationOf_0 ?_
  refine lv_istore_n (lv' := [(3, .int (iI 0)), (0, .ref a), (1, .long nm)]) F.1 F.2.1 dX2_relationOf_1 rfl hl (by decide) rfl (fun ls hl => ?_)
  have cut_2_0 : ∀ (NN : Nat) (i : Int) (H : Heap) (locs : List Loc) (ls : Array Slot), zr i → (0 ≤ i ∧ i ≤ 16) → (∀ j : Nat, (j : Int) < i → ∀ b, AR (gh 6 a) j = some b → J b 1 ≠ nm) → (16 - i) < ((NN : Nat) : Int) → gH g I R J AI AJ AR H → va_S (gA g) s.heap H locs → lv_has ls 4 [(3, .int (iI i)), (0, .ref a), (1, .long nm)] → W p l e rmX2_relationOf s m ([.ref a, .long nm] : List Value).toArray below meth c H locs 0 0 (MQ below (gQi g (fun (z : Int) (w : gS) => I = w.1 ∧ R = w.2.1 ∧ J = w.2.2.1 ∧ AI = w.2.2.2.1 ∧ AJ = w.2.2.2.2.1 ∧ AR = w.2.2.2.2.2 ∧ ((z = -1 ∧ ∀ j : Nat, (j : Int) < (I a 1).toInt → ∀ b, AR (gh 6 a) j = some b → J b 1 ≠ nm) ∨ (0 ≤ z ∧ z < (I a 1).toInt ∧ ∃ b, AR (gh 6 a) z.toNat = some b ∧ J b 1 = nm)))) ([.ref a, .long nm] : List Value).toArray s 0 0 (gA g)) (F0 m 2 ls []) := by
    intro NN2
    induction NN2 with
    | zero =>
      intro i H locs ls zi hi hn hm2 hH hS hl
      exact absurd hm2 (by omega)
    | succ NN2 ih2 =>
      intro i H locs ls zi hi hn hm2 hH hS hl
      refine lv_iload_n F.1 F.2.1 dX2_relationOf_2 rfl (lv_at hl 0 rfl) ?_
      refine lv_aload_n F.1 F.2.1 dX2_relationOf_3 rfl (lv_at hl 1 rfl) ?_
      refine g_getI (ci := 2) (k := 1) F hH rfl (by decide) iX2 ha (by decide) rfl k18 dX2_relationOf_4 ?_
      have b_2 := gI_plan hv ha
      refine z_icmp_ge (tgt := 32) F dX2_relationOf_7 (by decide) zi (zr_t _) (fun c_3 => ?_) (fun c_3 => ?_)
      · refine z_iconst F dX2_relationOf_32 ?_
        exact g_iret F hr hlk hH hS hz ⟨by decide, by decide⟩ ⟨rfl, rfl, rfl, rfl, rfl, rfl, Or.inl ⟨rfl, fun j hj => hn j (by omega)⟩⟩ dX2_relationOf_33
      · refine lv_aload_n F.1 F.2.1 dX2_relationOf_10 rfl (lv_at hl 1 rfl) ?_
        obtain ⟨r_4a, r_4b⟩ := gR_lines hv ha
        refine g_getR (ci := 2) (k := 0) F hH rfl (by decide) iX2 ha (by decide) rfl (b := gh 6 a) r_4a k11 dX2_relationOf_11 ?_
        refine lv_iload_n F.1 F.2.1 dX2_relationOf_14 rfl (lv_at hl 0 rfl) ?_
        have hx15 : 0 ≤ i ∧ i < ((16 : Nat) : Int) ∧ i ≤ 2147483647 := ⟨by omega, by omega, by omega⟩
        obtain ⟨y_5, y_5a, y_5b, y_5c, y_5d⟩ := gA_lines hv ha (z := i) (by omega) (by omega)
        refine g_aldL F hH r_4b hx15.1 hx15.2.1 hx15.2.2 (b := y_5) y_5a dX2_relationOf_15 ?_
        refine g_getJ (ci := 0) (k := 1) F hH rfl (by decide) iX0 y_5b (by decide) rfl k22 dX2_relationOf_16 ?_
        refine lv_topl (fun j_6 ej_6 => ?_)
        refine lv_lload_n F.1 F.2.1 dX2_relationOf_19 rfl (lv_at hl 2 rfl) ?_
        refine W.lcmp F.1 F.2.1 dX2_relationOf_20 ?_
        refine z_top (fun v_7 zv_7 ev_7 => ?_)
        have lv_7 : v_7 = 0 ↔ j_6 = nm := by rw [ev_7]; exact z_lcmp
        refine z_if_ne (tgt := 26) F dX2_relationOf_21 (by decide) zv_7 (fun c_8 => ?_) (fun c_8 => ?_)
        · have hn : ∀ j : Nat, (j : Int) < i + 1 → ∀ b, AR (gh 6 a) j = some b → J b 1 ≠ nm := fun j hj b hb => by
            by_cases hq : (j : Int) < i
            · exact hn j hq b hb
            · have ej : j = i.toNat := by omega
              rw [ej, y_5a] at hb
              rw [← Option.some.inj hb]
              intro hc; exact absurd (lv_7.mpr (by rw [ej_6]; exact hc)) (by omega)
          refine z_iinc (lv' := [(3, .int (iI (i + 1))), (0, .ref a), (1, .long nm)]) F dX2_relationOf_26 hl (k := 0) rfl (by decide) rfl (fun ls hl => ?_)
          refine z_goto (tgt := 2) F dX2_relationOf_29 (by decide) ?_
          exact ih2 (i + 1) H locs ls ⟨by omega, by omega⟩ (by omega) hn (by omega) hH hS (lv_sub hl [0, 1, 2] rfl)
        · refine lv_iload_n F.1 F.2.1 dX2_relationOf_24 rfl (lv_at hl 0 rfl) ?_
          exact g_iret F hr hlk hH hS hz zi ⟨rfl, rfl, rfl, rfl, rfl, rfl, Or.inr ⟨by omega, by omega, y_5, y_5a, by rw [← ej_6]; exact lv_7.mp (by omega)⟩⟩ dX2_relationOf_25
  exact cut_2_0 (((16 - 0) + 1 : Int).toNat) 0 H locs ls ⟨by decide, by decide⟩ (by omega) (fun j hj => absurd hj (by omega)) (by omega) hH hS (lv_sub hl [0, 1, 2] rfl)

def rmX2_hangingOn : Room := { frames := 0, cells := 0, slots := 0, locals := 0 }
theorem hdX2_hangingOn : yX2_hangingOn.cls = RX2 ∧ yX2_hangingOn.cls ≠ "java/lang/invoke/MethodHandle" ∧ yX2_hangingOn.cls ≠ "java/lang/invoke/VarHandle" ∧ (parseMethodDescriptor yX2_hangingOn.desc).map (fun d => d.parameters.length) = some 1 := by decide +kernel
set_option maxHeartbeats 4000000 in
set_option maxRecDepth 100000 in
/-- what hangs on a relation -/
theorem c_X2_hangingOn (l : Launch) (g : gG) (gh : gGh) (I : gI) (R : gR) (J : gJ) (AI : gI) (AJ : gJ) (AR : gR) (a : Nat) (rel : Int) (zrel : zr rel) (hv : gInv g gh R AR I AI) (ha : gO g a 2) : gMet l g yX2_hangingOn wsX2_hangingOn rmX2_hangingOn [.ref a, .int (iI rel)] (I, R, J, AI, AJ, AR) (gQi g (fun (z : Int) (w : gS) => I = w.1 ∧ R = w.2.1 ∧ J = w.2.2.1 ∧ AI = w.2.2.2.1 ∧ AJ = w.2.2.2.2.1 ∧ AR = w.2.2.2.2.2)) := by
  refine gStart (cc := cX2_hangingOn) (maxL := 4) (ret := (some (.int))) (by decide) rfl (Nat.le_of_ble_eq_true rfl) ?_
  intro p e s m below meth c ls F hr hlk hH hz hS hl
  have hl : lv_has ls 4 [(0, .ref a), (1, .int (iI rel))] := hl
  have hS : va_S (gA g) s.heap s.heap [] := hS
  obtain ⟨H, hHe⟩ : ∃ H : Heap, H = s.heap := ⟨_, rfl⟩
  obtain ⟨locs, hlo⟩ : ∃ k : List Loc, k = [] := ⟨_, rfl⟩
  have hH : gH g I R J AI AJ AR H := by rw [hHe]; exact hH
  have hS : va_S (gA g) s.heap H locs := by rw [hHe, hlo]; exact hS
  suffices hw : W p l e rmX2_hangingOn s m ([.ref a, .int (iI rel)] : List Value).toArray below meth c H locs 0 0 (MQ below (gQi g (fun (z : Int) (w : gS) => I = w.1 ∧ R = w.2.1 ∧ J = w.2.2.1 ∧ AI = w.2.2.2.1 ∧ AJ = w.2.2.2.2.1 ∧ AR = w.2.2.2.2.2)) ([.ref a, .int (iI rel)] : List Value).toArray s 0 0 (gA g)) (F0 m 0 ls []) by
    rw [hHe, hlo] at hw; exact hw
  clear hHe hlo
  have iX2 : ∀ w ∈ u_ws RX2 TX2 3, w ∈ wsX2_hangingOn := (by decide +kernel)
  have iX0 : ∀ w ∈ u_ws RX0 TX0 15, w ∈ wsX2_hangingOn := (by decide +kernel)
  have k18 : Cond.fieldLink RX2 18 (TX2 1).1 (TX2 1).2.1 (TX2 1).2.2.1 ∈ wsX2_hangingOn := List.mem_of_getElem? (i := 1) rfl
  have k11 : Cond.fieldLink RX2 11 (TX2 0).1 (TX2 0).2.1 (TX2 0).2.2.1 ∈ wsX2_hangingOn := List.mem_of_getElem? (i := 2) rfl
  have k26 : Cond.fieldLink RX2 26 (TX0 13).1 (TX0 13).2.1 (TX0 13).2.2.1 ∈ wsX2_hangingOn := List.mem_of_getElem? (i := 3) rfl
  refine z_iconst F dX2_hangingOn_0 ?_
  refine lv_istore_n (lv' := [(2, .int (iI 0)), (0, .ref a), (1, .int (iI rel))]) F.1 F.2.1 dX2_hangingOn_1 rfl hl (by decide) rfl (fun ls hl => ?_)
  refine z_iconst F dX2_hangingOn_2 ?_
  refine lv_istore_n (lv' := [(3, .int (iI 0)), (2, .int (iI 0)), (0, .ref a), (1, .int (iI rel))]) F.1 F.2.1 dX2_hangingOn_3 rfl hl (by decide) rfl (fun ls hl => ?_)
  have cut_4_0 : ∀ (NN : Nat) (bits i : Int) (H : Heap) (locs : List Loc) (ls : Array Slot), zr bits → zr i → (0 ≤ i ∧ i ≤ 16) → (16 - i) < ((NN : Nat) : Int) → gH g I R J AI AJ AR H → va_S (gA g) s.heap H locs → lv_has ls 4 [(3, .int (iI i)), (2, .int (iI bits)), (0, .ref a), (1, .int (iI rel))] → W p l e rmX2_hangingOn s m ([.ref a, .int (iI rel)] : List Value).toArray below meth c H locs 0 0 (MQ below (gQi g (fun (z : Int) (w : gS) => I = w.1 ∧ R = w.2.1 ∧ J = w.2.2.1 ∧ AI = w.2.2.2.1 ∧ AJ = w.2.2.2.2.1 ∧ AR = w.2.2.2.2.2)) ([.ref a, .int (iI rel)] : List Value).toArray s 0 0 (gA g)) (F0 m 4 ls []) := by
    intro NN4
    induction NN4 with
    | zero =>
      intro bits i H locs ls zbits zi hi hm4 hH hS hl
      exact absurd hm4 (by omega)
    | succ NN4 ih4 =>
      intro bits i H locs ls zbits zi hi hm4 hH hS hl
      refine lv_iload_n F.1 F.2.1 dX2_hangingOn_4 rfl (lv_at hl 0 rfl) ?_
      refine lv_aload_n F.1 F.2.1 dX2_hangingOn_5 rfl (lv_at hl 2 rfl) ?_
      refine g_getI (ci := 2) (k := 1) F hH rfl (by decide) iX2 ha (by decide) rfl k18 dX2_hangingOn_6 ?_
      have b_2 := gI_plan hv ha
      refine z_icmp_ge (tgt := 36) F dX2_hangingOn_9 (by decide) zi (zr_t _) (fun c_3 => ?_) (fun c_3 => ?_)
      · refine lv_iload_n F.1 F.2.1 dX2_hangingOn_36 rfl (lv_at hl 1 rfl) ?_
        exact g_iret F hr hlk hH hS hz zbits ⟨rfl, rfl, rfl, rfl, rfl, rfl⟩ dX2_hangingOn_37
      · refine lv_iload_n F.1 F.2.1 dX2_hangingOn_12 rfl (lv_at hl 1 rfl) ?_
        refine lv_aload_n F.1 F.2.1 dX2_hangingOn_13 rfl (lv_at hl 2 rfl) ?_
        obtain ⟨r_4a, r_4b⟩ := gR_lines hv ha
        refine g_getR (ci := 2) (k := 0) F hH rfl (by decide) iX2 ha (by decide) rfl (b := gh 6 a) r_4a k11 dX2_hangingOn_14 ?_
        refine lv_iload_n F.1 F.2.1 dX2_hangingOn_17 rfl (lv_at hl 0 rfl) ?_
        have hx18 : 0 ≤ i ∧ i < ((16 : Nat) : Int) ∧ i ≤ 2147483647 := ⟨by omega, by omega, by omega⟩
        obtain ⟨y_5, y_5a, y_5b, y_5c, y_5d⟩ := gA_lines hv ha (z := i) (by omega) (by omega)
        refine g_aldL F hH r_4b hx18.1 hx18.2.1 hx18.2.2 (b := y_5) y_5a dX2_hangingOn_18 ?_
        refine g_getI (ci := 0) (k := 13) F hH rfl (by decide) iX0 y_5b (by decide) rfl k26 dX2_hangingOn_19 ?_
        refine lv_iload_n F.1 F.2.1 dX2_hangingOn_22 rfl (lv_at hl 3 rfl) ?_
        refine lv_iushr F.1 F.2.1 dX2_hangingOn_23 rfl ?_
        refine z_top (fun v_6 zv_6 ev_6 => ?_)
        refine z_iconst F dX2_hangingOn_24 ?_
        refine lv_iand F.1 F.2.1 dX2_hangingOn_25 ?_
        refine z_top (fun v_7 zv_7 ev_7 => ?_)
        refine lv_iload_n F.1 F.2.1 dX2_hangingOn_26 rfl (lv_at hl 0 rfl) ?_
        refine lv_ishl F.1 F.2.1 dX2_hangingOn_27 ?_
        refine z_top (fun v_8 zv_8 ev_8 => ?_)
        refine lv_ior F.1 F.2.1 dX2_hangingOn_28 ?_
        refine z_top (fun v_9 zv_9 ev_9 => ?_)
        refine lv_istore_n (lv' := [(2, .int (iI v_9)), (3, .int (iI i)), (0, .ref a), (1, .int (iI rel))]) F.1 F.2.1 dX2_hangingOn_29 rfl hl (by decide) rfl (fun ls hl => ?_)
        refine z_iinc (lv' := [(3, .int (iI (i + 1))), (2, .int (iI v_9)), (0, .ref a), (1, .int (iI rel))]) F dX2_hangingOn_30 hl (k := 1) rfl (by decide) rfl (fun ls hl => ?_)
        refine z_goto (tgt := 4) F dX2_hangingOn_33 (by decide) ?_
        exact ih4 v_9 (i + 1) H locs ls zv_9 ⟨by omega, by omega⟩ (by omega) (by omega) hH hS (lv_sub hl [0, 1, 2, 3] rfl)
  exact cut_4_0 (((16 - 0) + 1 : Int).toNat) 0 0 H locs ls ⟨by decide, by decide⟩ ⟨by decide, by decide⟩ (by omega) (by omega) hH hS (lv_sub hl [0, 1, 2, 3] rfl)

def rmX2_hang : Room := { frames := 1, cells := 0, slots := 0, locals := 40 }
theorem hdX2_hang : yX2_hang.cls = RX2 ∧ yX2_hang.cls ≠ "java/lang/invoke/MethodHandle" ∧ yX2_hang.cls ≠ "java/lang/invoke/VarHandle" ∧ (parseMethodDescriptor yX2_hang.desc).map (fun d => d.parameters.length) = some 2 := by decide +kernel
set_option maxHeartbeats 4000000 in
set_option maxRecDepth 100000 in
/-- a line hangs on a relation -/
theorem c_X2_hang (l : Launch) (g : gG) (gh : gGh) (I : gI) (R : gR) (J : gJ) (AI : gI) (AJ : gJ) (AR : gR) (a : Nat) (ln : Nat) (rel : Int) (zrel : zr rel) (hv : gInv g gh R AR I AI) (ha : gO g a 2) (hln : gO g ln 0) (h0 : -1 ≤ rel ∧ rel ≤ 15) : gMet l g yX2_hang wsX2_hang rmX2_hang [.ref a, .ref ln, .int (iI rel)] (I, R, J, AI, AJ, AR) (gQv g (fun w : gS => R = w.2.1 ∧ J = w.2.2.1 ∧ AI = w.2.2.2.1 ∧ AJ = w.2.2.2.2.1 ∧ AR = w.2.2.2.2.2 ∧ (gInv g gh R AR (w.1) AI) ∧ (∀ b j, j ≠ 13 → j ≠ 14 → (w.1) b j = I b j) ∧ (∀ q, q ≠ ln → (w.1) q = I q))) := by
  refine gStart (cc := cX2_hang) (maxL := 3) (ret := none) (by decide) rfl (Nat.le_of_ble_eq_true rfl) ?_
  intro p e s m below meth c ls F hr hlk hH hz hS hl
  have hl : lv_has ls 3 [(0, .ref a), (1, .ref ln), (2, .int (iI rel))] := hl
  have hS : va_S (gA g) s.heap s.heap [] := hS
  obtain ⟨H, hHe⟩ : ∃ H : Heap, H = s.heap := ⟨_, rfl⟩
  obtain ⟨locs, hlo⟩ : ∃ k : List Loc, k = [] := ⟨_, rfl⟩
  have hH : gH g I R J AI AJ AR H := by rw [hHe]; exact hH
  have hS : va_S (gA g) s.heap H locs := by rw [hHe, hlo]; exact hS
  suffices hw : W p l e rmX2_hang s m ([.ref a, .ref ln, .int (iI rel)] : List Value).toArray below meth c H locs 0 0 (MQ below (gQv g (fun w : gS => R = w.2.1 ∧ J = w.2.2.1 ∧ AI = w.2.2.2.1 ∧ AJ = w.2.2.2.2.1 ∧ AR = w.2.2.2.2.2 ∧ (gInv g gh R AR (w.1) AI) ∧ (∀ b j, j ≠ 13 → j ≠ 14 → (w.1) b j = I b j) ∧ (∀ q, q ≠ ln → (w.1) q = I q))) ([.ref a, .ref ln, .int (iI rel)] : List Value).toArray s 0 0 (gA g)) (F0 m 0 ls []) by
    rw [hHe, hlo] at hw; exact hw
  clear hHe hlo
  have iX2 : ∀ w ∈ u_ws RX2 TX2 3, w ∈ wsX2_hang := (by decide +kernel)
  have iX0 : ∀ w ∈ u_ws RX0 TX0 15, w ∈ wsX2_hang := (by decide +kernel)
  have k26 : Cond.fieldLink RX2 26 (TX0 13).1 (TX0 13).2.1 (TX0 13).2.2.1 ∈ wsX2_hang := List.mem_of_getElem? (i := 1) rfl
  have k11 : Cond.fieldLink RX2 11 (TX2 0).1 (TX2 0).2.1 (TX2 0).2.2.1 ∈ wsX2_hang := List.mem_of_getElem? (i := 2) rfl
  have k45 : Cond.fieldLink RX2 45 (TX0 14).1 (TX0 14).2.1 (TX0 14).2.2.1 ∈ wsX2_hang := List.mem_of_getElem? (i := 3) rfl
  refine lv_iload_n F.1 F.2.1 dX2_hang_0 rfl (lv_at hl 2 rfl) ?_
  refine z_iconst F dX2_hang_1 ?_
  refine z_icmp_eq (tgt := 49) F dX2_hang_2 (by decide) zrel ⟨by decide, by decide⟩ (fun c_1 => ?_) (fun c_1 => ?_)
  · exact g_vret F hr hlk hH hS hz ⟨rfl, rfl, rfl, rfl, rfl, hv, fun _ _ _ _ => rfl, fun _ _ => rfl⟩ dX2_hang_49
  · refine lv_aload_n F.1 F.2.1 dX2_hang_5 rfl (lv_at hl 1 rfl) ?_
    refine lv_dup F.1 F.2.1 dX2_hang_6 rfl ?_
    refine g_getI (ci := 0) (k := 13) F hH rfl (by decide) iX0 hln (by decide) rfl k26 dX2_hang_7 ?_
    refine lv_aload_n F.1 F.2.1 dX2_hang_10 rfl (lv_at hl 0 rfl) ?_
    obtain ⟨r_2a, r_2b⟩ := gR_lines hv ha
    refine g_getR (ci := 2) (k := 0) F hH rfl (by decide) iX2 ha (by decide) rfl (b := gh 6 a) r_2a k11 dX2_hang_11 ?_
    refine lv_iload_n F.1 F.2.1 dX2_hang_14 rfl (lv_at hl 2 rfl) ?_
    have hx15 : 0 ≤ rel ∧ rel < ((16 : Nat) : Int) ∧ rel ≤ 2147483647 := ⟨by omega, by omega, by omega⟩
    obtain ⟨y_3, y_3a, y_3b, y_3c, y_3d⟩ := gA_lines hv ha (z := rel) (by omega) (by omega)
    refine g_aldL F hH r_2b hx15.1 hx15.2.1 hx15.2.2 (b := y_3) y_3a dX2_hang_15 ?_
    refine g_getI (ci := 0) (k := 13) F hH rfl (by decide) iX0 y_3b (by decide) rfl k26 dX2_hang_16 ?_
    refine z_iconst F dX2_hang_19 ?_
    refine lv_iload_n F.1 F.2.1 dX2_hang_20 rfl (lv_at hl 2 rfl) ?_
    refine lv_ishl F.1 F.2.1 dX2_hang_21 ?_
    refine z_top (fun v_4 zv_4 ev_4 => ?_)
    refine lv_ior F.1 F.2.1 dX2_hang_22 ?_
    refine z_top (fun v_5 zv_5 ev_5 => ?_)
    refine lv_ior F.1 F.2.1 dX2_hang_23 ?_
    refine z_top (fun v_6 zv_6 ev_6 => ?_)
    refine g_putI (ci := 0) (k := 13) F hH hS rfl (by decide) iX0 hln (by decide) tyX0 tyX0_ok nmX0 rfl rfl rfl k26 dX2_hang_24 (fun H locs hH hS => ?_)
    obtain ⟨I_7, eI_7⟩ : ∃ qQ, qQ = gup2 I ln 13 (iI (v_6)) := ⟨_, rfl⟩
    rw [← eI_7] at hH
    have kI_7 : ∀ b, b ≠ ln → I_7 b = I b := fun b hb => by rw [eI_7]; exact funext fun j => gup2_a _ _ hb
    have hv : gInv g gh R AR I_7 AI := by rw [eI_7]; exact gInv_line13 hv hln
    have f1 : ∀ b j, j ≠ 13 → j ≠ 14 → I_7 b j = I b j := fun b j h _ => by rw [eI_7]; exact gup2_k _ _ h
    refine lv_aload_n F.1 F.2.1 dX2_hang_27 rfl (lv_at hl 1 rfl) ?_
    refine lv_aload_n F.1 F.2.1 dX2_hang_28 rfl (lv_at hl 1 rfl) ?_
    refine g_getI (ci := 0) (k := 14) F hH rfl (by decide) iX0 hln (by decide) rfl k45 dX2_hang_29 ?_
    refine lv_aload_n F.1 F.2.1 dX2_hang_32 rfl (lv_at hl 0 rfl) ?_
    refine g_getR (ci := 2) (k := 0) F hH rfl (by decide) iX2 ha (by decide) rfl (b := gh 6 a) r_2a k11 dX2_hang_33 ?_
    refine lv_iload_n F.1 F.2.1 dX2_hang_36 rfl (lv_at hl 2 rfl) ?_
    have hx37 : 0 ≤ rel ∧ rel < ((16 : Nat) : Int) ∧ rel ≤ 2147483647 := ⟨by omega, by omega, by omega⟩
    obtain ⟨y_9, y_9a, y_9b, y_9c, y_9d⟩ := gA_lines hv ha (z := rel) (by omega) (by omega)
    refine g_aldL F hH r_2b hx37.1 hx37.2.1 hx37.2.2 (b := y_9) y_9a dX2_hang_37 ?_
    refine g_getI (ci := 0) (k := 14) F hH rfl (by decide) iX0 y_9b (by decide) rfl k45 dX2_hang_38 ?_
    refine z_iconst F dX2_hang_41 ?_
    refine z_iadd F dX2_hang_42 ?_
    refine z_norm (fun v_10 zv_10 ev_10 => ?_)
    refine z_mmax (rest := [.ref ln]) F hl.1 (List.mem_of_getElem? (i := 4) rfl) (List.mem_of_getElem? (i := 5) rfl) (List.mem_of_getElem? (i := 6) rfl) (List.mem_of_getElem? (i := 7) rfl) (Nat.le_of_ble_eq_true rfl) (Nat.le_of_ble_eq_true rfl) (Nat.zero_le _) (Nat.zero_le _) (zr_t _) zv_10 dX2_hang_43 (fun v_11 zv_11 qv_11 => ?_)
    refine g_putI (ci := 0) (k := 14) F hH hS rfl (by decide) iX0 hln (by decide) tyX0 tyX0_ok nmX0 rfl rfl rfl k45 dX2_hang_46 (fun H locs hH hS => ?_)
    obtain ⟨I_12, eI_12⟩ : ∃ qQ, qQ = gup2 I_7 ln 14 (iI (v_11)) := ⟨_, rfl⟩
    rw [← eI_12] at hH
    have kI_12 : ∀ b, b ≠ ln → I_12 b = I_7 b := fun b hb => by rw [eI_12]; exact funext fun j => gup2_a _ _ hb
    have hv : gInv g gh R AR I_12 AI := by rw [eI_12]; exact gInv_line14 hv hln
    have f2 : ∀ b j, j ≠ 13 → j ≠ 14 → I_12 b j = I b j := fun b j h h' => by rw [eI_12, gup2_k _ _ h']; exact f1 b j h h'
    exact g_vret F hr hlk hH hS hz ⟨rfl, rfl, rfl, rfl, rfl, hv, f2, fun b hb => (kI_12 b hb).trans (kI_7 b hb)⟩ dX2_hang_49

theorem hdX2_keepLine : yX2_keepLine.cls = RX2 ∧ yX2_keepLine.cls ≠ "java/lang/invoke/MethodHandle" ∧ yX2_keepLine.cls ≠ "java/lang/invoke/VarHandle" ∧ (parseMethodDescriptor yX2_keepLine.desc).map (fun d => d.parameters.length) = some 0 := by decide +kernel