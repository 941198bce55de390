theorem hdX0_clear : yX0_clear.cls = RX0 ∧ yX0_clear.cls ≠ "java/lang/invoke/MethodHandle" ∧ yX0_clear.cls ≠ "java/lang/invoke/VarHandle" ∧ (parseMethodDescriptor yX0_clear.desc).map (fun d => d.parameters.length) = some 1 := by decide +kernel
def rmX0_lastLetter : Room := { frames := 0, cells := 0, slots := 0, locals := 0 }
theorem hdX0_lastLetter : yX0_lastLetter.cls = RX0 ∧ yX0_lastLetter.cls ≠ "java/lang/invoke/MethodHandle" ∧ yX0_lastLetter.cls ≠ "java/lang/invoke/VarHandle" ∧ (parseMethodDescriptor yX0_lastLetter.desc).map (fun d => d.parameters.length) = some 0 := by decide +kernel
set_option maxHeartbeats 4000000 in
set_option maxRecDepth 100000 in
/-- a letter -/
theorem c_X0_lastLetter (l : Launch) (g : gG) (gh : gGh) (I : gI) (R : gR) (J : gJ) (AI : gI) (AJ : gJ) (AR : gR) (a : Nat) (hv : gInv g gh R AR I AI) (ha : gO g a 0) : gMet l g yX0_lastLetter wsX0_lastLetter rmX0_lastLetter [.ref a] (I, R, J, AI, AJ, AR) (gQi g (fun (z : Int) (w : gS) => I = w.1 ∧ R = w.2.1 ∧ J = w.2.2.1 ∧ AI = w.2.2.2.1 ∧ AJ = w.2.2.2.2.1 ∧ AR = w.2.2.2.2.2)) := by
  refine gStart (cc := cX0_lastLetter) (maxL := 1) (ret := (some (.int))) (by decide) rfl (Nat.le_of_ble_eq_true rfl) ?_
  intro p e s m below meth c ls F hr hlk hH hz hS hl
  have hl : lv_has ls 1 [(0, .ref a)] := hl
  have hS : va_S (gA g) s.heap s.heap [] := hS
  obtain ⟨H, hHe⟩ : ∃ H : Heap, H = s.heap := ⟨_, rfl⟩
  obtain ⟨locs, hlo⟩ : ∃ k : List Loc, k = [] := ⟨_, rfl⟩
  have hH : gH g I R J AI AJ AR H := by rw [hHe]; exact hH
  have hS : va_S (gA g) s.heap H locs := by rw [hHe, hlo]; exact hS
  suffices hw : W p l e rmX0_lastLetter s m ([.ref a] : List Value).toArray below meth c H locs 0 0 (MQ below (gQi g (fun (z : Int) (w : gS) => I = w.1 ∧ R = w.2.1 ∧ J = w.2.2.1 ∧ AI = w.2.2.2.1 ∧ AJ = w.2.2.2.2.1 ∧ AR = w.2.2.2.2.2)) ([.ref a] : List Value).toArray s 0 0 (gA g)) (F0 m 0 ls []) by
    rw [hHe, hlo] at hw; exact hw
  clear hHe hlo
  have iX0 : ∀ w ∈ u_ws RX0 TX0 15, w ∈ wsX0_lastLetter := (by decide +kernel)
  have k43 : Cond.fieldLink RX0 43 (TX0 1).1 (TX0 1).2.1 (TX0 1).2.2.1 ∈ wsX0_lastLetter := List.mem_of_getElem? (i := 1) rfl
  refine lv_aload_n F.1 F.2.1 dX0_lastLetter_0 rfl (lv_at hl 0 rfl) ?_
  refine g_getJ (ci := 0) (k := 1) F hH rfl (by decide) iX0 ha (by decide) rfl k43 dX0_lastLetter_1 ?_
  refine lv_topl (fun j_1 ej_1 => ?_)
  refine lv_ldc2 (v := 31) F.1 F.2.1 F.2.2.2.1 (F.2.2.2.2.1 _ (List.mem_of_getElem? (i := 2) rfl)) dX0_lastLetter_4 ?_
  refine lv_land F.1 F.2.1 dX0_lastLetter_7 ?_
  refine lv_topl (fun j_2 ej_2 => ?_)
  refine lv_l2i F.1 F.2.1 dX0_lastLetter_8 rfl ?_
  refine z_top (fun v_3 zv_3 ev_3 => ?_)
  exact g_iret F hr hlk hH hS hz zv_3 ⟨rfl, rfl, rfl, rfl, rfl, rfl⟩ dX0_lastLetter_9

def rmX0_firstLetter : Room := { frames := 0, cells := 0, slots := 0, locals := 0 }
theorem hdX0_firstLetter : yX0_firstLetter.cls = RX0 ∧ yX0_firstLetter.cls ≠ "java/lang/invoke/MethodHandle" ∧ yX0_firstLetter.cls ≠ "java/lang/invoke/VarHandle" ∧ (parseMethodDescriptor yX0_firstLetter.desc).map (fun d => d.parameters.length) = some 0 := by decide +kernel
set_option maxHeartbeats 4000000 in
set_option maxRecDepth 100000 in
/-- a letter -/
theorem c_X0_firstLetter (l : Launch) (g : gG) (gh : gGh) (I : gI) (R : gR) (J : gJ) (AI : gI) (AJ : gJ) (AR : gR) (a : Nat) (hv : gInv g gh R AR I AI) (ha : gO g a 0) : gMet l g yX0_firstLetter wsX0_firstLetter rmX0_firstLetter [.ref a] (I, R, J, AI, AJ, AR) (gQi g (fun (z : Int) (w : gS) => I = w.1 ∧ R = w.2.1 ∧ J = w.2.2.1 ∧ AI = w.2.2.2.1 ∧ AJ = w.2.2.2.2.1 ∧ AR = w.2.2.2.2.2)) := by
  refine gStart (cc := cX0_firstLetter) (maxL := 4) (ret := (some (.int))) (by decide) rfl (Nat.le_of_ble_eq_true rfl) ?_
  intro p e s m below meth c ls F hr hlk hH hz hS hl
  have hl : lv_has ls 4 [(0, .ref a)] := hl
  have hS : va_S (gA g) s.heap s.heap [] := hS
  obtain ⟨H, hHe⟩ : ∃ H : Heap, H = s.heap := ⟨_, rfl⟩
  obtain ⟨locs, hlo⟩ : ∃ k : List Loc, k = [] := ⟨_, rfl⟩
  have hH : gH g I R J AI AJ AR H := by rw [hHe]; exact hH
  have hS : va_S (gA g) s.heap H locs := by rw [hHe, hlo]; exact hS
  suffices hw : W p l e rmX0_firstLetter s m ([.ref a] : List Value).toArray below meth c H locs 0 0 (MQ below (gQi g (fun (z : Int) (w : gS) => I = w.1 ∧ R = w.2.1 ∧ J = w.2.2.1 ∧ AI = w.2.2.2.1 ∧ AJ = w.2.2.2.2.1 ∧ AR = w.2.2.2.2.2)) ([.ref a] : List Value).toArray s 0 0 (gA g)) (F0 m 0 ls []) by
    rw [hHe, hlo] at hw; exact hw
  clear hHe hlo
  have iX0 : ∀ w ∈ u_ws RX0 TX0 15, w ∈ wsX0_firstLetter := (by decide +kernel)
  have k43 : Cond.fieldLink RX0 43 (TX0 1).1 (TX0 1).2.1 (TX0 1).2.2.1 ∈ wsX0_firstLetter := List.mem_of_getElem? (i := 1) rfl
  refine lv_aload_n F.1 F.2.1 dX0_firstLetter_0 rfl (lv_at hl 0 rfl) ?_
  refine g_getJ (ci := 0) (k := 1) F hH rfl (by decide) iX0 ha (by decide) rfl k43 dX0_firstLetter_1 ?_
  refine lv_topl (fun j_1 ej_1 => ?_)
  refine lv_lstore_n (lv' := [(1, .long j_1), (0, .ref a)]) F.1 F.2.1 dX0_firstLetter_4 rfl hl (by decide) rfl (fun ls hl => ?_)
  refine z_iconst F dX0_firstLetter_5 ?_
  refine lv_istore_n (lv' := [(3, .int (iI 0)), (1, .long j_1), (0, .ref a)]) F.1 F.2.1 dX0_firstLetter_6 rfl hl (by decide) rfl (fun ls hl => ?_)
  have cut_7_1 : ∀ (NN : Nat) (k : Int) (nm : Int64) (H : Heap) (locs : List Loc) (ls : Array Slot), zr k → (0 ≤ k ∧ k ≤ 8) → (8 - k) < ((NN : Nat) : Int) → gH g I R J AI AJ AR H → va_S (gA g) s.heap H locs → lv_has ls 4 [(3, .int (iI k)), (1, .long nm), (0, .ref a)] → W p l e rmX0_firstLetter s m ([.ref a] : List Value).toArray below meth c H locs 0 0 (MQ below (gQi g (fun (z : Int) (w : gS) => I = w.1 ∧ R = w.2.1 ∧ J = w.2.2.1 ∧ AI = w.2.2.2.1 ∧ AJ = w.2.2.2.2.1 ∧ AR = w.2.2.2.2.2)) ([.ref a] : List Value).toArray s 0 0 (gA g)) (F0 m 7 ls []) := by
    intro NN7
    induction NN7 with
    | zero =>
      intro k nm H locs ls zk hk hm7 hH hS hl
      exact absurd hm7 (by omega)
    | succ NN7 ih7 =>
      intro k nm H locs ls zk hk hm7 hH hS hl
      refine lv_iload_n F.1 F.2.1 dX0_firstLetter_7 rfl (lv_at hl 0 rfl) ?_
      refine z_bipush F dX0_firstLetter_8 (by decide) ?_
      refine z_icmp_ge (tgt := 31) F dX0_firstLetter_10 (by decide) zk ⟨by decide, by decide⟩ (fun c_3 => ?_) (fun c_3 => ?_)
      · refine lv_lload_n F.1 F.2.1 dX0_firstLetter_31 rfl (lv_at hl 1 rfl) ?_
        refine lv_l2i F.1 F.2.1 dX0_firstLetter_32 rfl ?_
        refine z_top (fun v_4 zv_4 ev_4 => ?_)
        exact g_iret F hr hlk hH hS hz zv_4 ⟨rfl, rfl, rfl, rfl, rfl, rfl⟩ dX0_firstLetter_33
      · refine lv_lload_n F.1 F.2.1 dX0_firstLetter_13 rfl (lv_at hl 1 rfl) ?_
        refine lv_ldc2 (v := 31) F.1 F.2.1 F.2.2.2.1 (F.2.2.2.2.1 _ (List.mem_of_getElem? (i := 2) rfl)) dX0_firstLetter_14 ?_
        refine W.lcmp F.1 F.2.1 dX0_firstLetter_17 ?_
        refine z_top (fun v_5 zv_5 ev_5 => ?_)
        have lv_5 : v_5 = 0 ↔ nm = (31) := by rw [ev_5]; exact z_lcmp
        refine z_if_le (tgt := 31) F dX0_firstLetter_18 (by decide) zv_5 (fun c_6 => ?_) (fun c_6 => ?_)
        · refine lv_lload_n F.1 F.2.1 dX0_firstLetter_31 rfl (lv_at hl 1 rfl) ?_
          refine lv_l2i F.1 F.2.1 dX0_firstLetter_32 rfl ?_
          refine z_top (fun v_7 zv_7 ev_7 => ?_)
          exact g_iret F hr hlk hH hS hz zv_7 ⟨rfl, rfl, rfl, rfl, rfl, rfl⟩ dX0_firstLetter_33
        · refine lv_lload_n F.1 F.2.1 dX0_firstLetter_21 rfl (lv_at hl 1 rfl) ?_
          refine z_iconst F dX0_firstLetter_22 ?_
          refine lv_lushr F.1 F.2.1 dX0_firstLetter_23 rfl ?_
          refine lv_topl (fun j_8 ej_8 => ?_)
          refine lv_lstore_n (lv' := [(1, .long j_8), (3, .int (iI k)), (0, .ref a)]) F.1 F.2.1 dX0_firstLetter_24 rfl hl (by decide) rfl (fun ls hl => ?_)
          refine z_iinc (lv' := [(3, .int (iI (k + 1))), (1, .long j_8), (0, .ref a)]) F dX0_firstLetter_25 hl (k := 1) rfl (by decide) rfl (fun ls hl => ?_)
          refine z_goto (tgt := 7) F dX0_firstLetter_28 (by decide) ?_
          exact ih7 (k + 1) j_8 H locs ls ⟨by omega, by omega⟩ (by omega) (by omega) hH hS (lv_sub hl [0, 1, 2] rfl)
  exact cut_7_1 (((8 - 0) + 1 : Int).toNat) 0 j_1 H locs ls ⟨by decide, by decide⟩ (by omega) (by omega) hH hS (lv_sub hl [0, 1, 2] rfl)

theorem hdX0_holds : yX0_holds.cls = RX0 ∧ yX0_holds.cls ≠ "java/lang/invoke/MethodHandle" ∧ yX0_holds.cls ≠ "java/lang/invoke/VarHandle" ∧ (parseMethodDescriptor yX0_holds.desc).map (fun d => d.parameters.length) = some 2 := by decide +kernel
theorem hdX0_fillTerms : yX0_fillTerms.cls = RX0 ∧ yX0_fillTerms.cls ≠ "java/lang/invoke/MethodHandle" ∧ yX0_fillTerms.cls ≠ "java/lang/invoke/VarHandle" ∧ (parseMethodDescriptor yX0_fillTerms.desc).map (fun d => d.parameters.length) = some 3 := by decide +kernel
theorem hdX0_pairsAreAlike : yX0_pairsAreAlike.cls = RX0 ∧ yX0_pairsAreAlike.cls ≠ "java/lang/invoke/MethodHandle" ∧ yX0_pairsAreAlike.cls ≠ "java/lang/invoke/VarHandle" ∧ (parseMethodDescriptor yX0_pairsAreAlike.desc).map (fun d => d.parameters.length) = some 4 := by decide +kernel
theorem hdX0_tellsSecond : yX0_tellsSecond.cls = RX0 ∧ yX0_tellsSecond.cls ≠ "java/lang/invoke/MethodHandle" ∧ yX0_tellsSecond.cls ≠ "java/lang/invoke/VarHandle" ∧ (parseMethodDescriptor yX0_tellsSecond.desc).map (fun d => d.parameters.length) = some 1 := by decide +kernel
theorem hdX0_columnsOfJoin : yX0_columnsOfJoin.cls = RX0 ∧ yX0_columnsOfJoin.cls ≠ "java/lang/invoke/MethodHandle" ∧ yX0_columnsOfJoin.cls ≠ "java/lang/invoke/VarHandle" ∧ (parseMethodDescriptor yX0_columnsOfJoin.desc).map (fun d => d.parameters.length) = some 0 := by decide +kernel
theorem hdX0_hasColumn : yX0_hasColumn.cls = RX0 ∧ yX0_hasColumn.cls ≠ "java/lang/invoke/MethodHandle" ∧ yX0_hasColumn.cls ≠ "java/lang/invoke/VarHandle" ∧ (parseMethodDescriptor yX0_hasColumn.desc).map (fun d => d.parameters.length) = some 1 := by decide +kernel
theorem hdX0_addTest : yX0_addTest.cls = RX0 ∧ yX0_addTest.cls ≠ "java/lang/invoke/MethodHandle" ∧ yX0_addTest.cls ≠ "java/lang/invoke/VarHandle" ∧ (parseMethodDescriptor yX0_addTest.desc).map (fun d => d.parameters.length) = some 4 := by decide +kernel
theorem hdX0_addTwo : yX0_addTwo.cls = RX0 ∧ yX0_addTwo.cls ≠ "java/lang/invoke/MethodHandle" ∧ yX0_addTwo.cls ≠ "java/lang/invoke/VarHandle" ∧ (parseMethodDescriptor yX0_addTwo.desc).map (fun d => d.parameters.length) = some 2 := by decide +kernel
theorem hdX0_addColumn : yX0_addColumn.cls = RX0 ∧ yX0_addColumn.cls ≠ "java/lang/invoke/MethodHandle" ∧ yX0_addColumn.cls ≠ "java/lang/invoke/VarHandle" ∧ (parseMethodDescriptor yX0_addColumn.desc).map (fun d => d.parameters.length) = some 1 := by decide +kernel