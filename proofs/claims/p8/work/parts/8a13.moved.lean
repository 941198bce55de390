def rmX6_movedInViewsf : Room := { frames := 0, cells := 0, slots := 0, locals := 0 }
set_option maxHeartbeats 4000000 in
set_option maxRecDepth 100000 in
/-- what moved in views -/
theorem c_X6_movedInViewsf (l : Launch) (g : gG) (gh : gGh) (pA bA nA : Nat) (nr : Nat) (I : gI) (R : gR) (J : gJ) (AI : gI) (AJ : gJ) (AR : gR) (x : Nat) (hv : gInv g gh R AR I AI) (hx : xS g gh R AR x pA bA nA) (hlen : (I pA 1).toInt = (nr : Int)) (htb2 : 0 ≤ (I pA 2).toInt ∧ (I pA 2).toInt ≤ (nr : Int) ∧ nr ≤ 16) : gMet l g yX6_movedInViews wsX6_movedInViews rmX6_movedInViewsf [.ref x] (I, R, J, AI, AJ, AR) (gQi g (fun (z : Int) (w : gS) => I = w.1 ∧ R = w.2.1 ∧ J = w.2.2.1 ∧ AI = w.2.2.2.1 ∧ AJ = w.2.2.2.2.1 ∧ AR = w.2.2.2.2.2 ∧ (0 ≤ z ∧ z ≤ 3840) ∧ (z = smL (lnR AR I (gh 35 0)) (I pA 2).toInt.toNat (nr - (I pA 2).toInt.toNat)))) := by
  refine gStart (cc := cX6_movedInViews) (maxL := 3) (ret := (some (.int))) (by decide) rfl (Nat.le_of_ble_eq_true rfl) ?_
  intro p e s m below meth c ls F hr hlk hH hz hS hl
  have hl : lv_has ls 3 [(0, .ref x)] := hl
  have hS : va_S (gA g) s.heap s.heap [] := hS
  obtain ⟨H, hHe⟩ : ∃ H : Heap, H = s.heap := ⟨_, rfl⟩
  obtain ⟨locs, hlo⟩ : ∃ k : List Loc, k = [] := ⟨_, rfl⟩
  have hH : gH g I R J AI AJ AR H := by rw [hHe]; exact hH
  have hS : va_S (gA g) s.heap H locs := by rw [hHe, hlo]; exact hS
  suffices hw : W p l e rmX6_movedInViewsf s m ([.ref x] : List Value).toArray below meth c H locs 0 0 (MQ below (gQi g (fun (z : Int) (w : gS) => I = w.1 ∧ R = w.2.1 ∧ J = w.2.2.1 ∧ AI = w.2.2.2.1 ∧ AJ = w.2.2.2.2.1 ∧ AR = w.2.2.2.2.2 ∧ (0 ≤ z ∧ z ≤ 3840) ∧ (z = smL (lnR AR I (gh 35 0)) (I pA 2).toInt.toNat (nr - (I pA 2).toInt.toNat)))) ([.ref x] : List Value).toArray s 0 0 (gA g)) (F0 m 0 ls []) by
    rw [hHe, hlo] at hw; exact hw
  clear hHe hlo
  have iX6 : ∀ w ∈ u_ws RX6 TX6 18, w ∈ wsX6_movedInViews := (by decide +kernel)
  have iX4 : ∀ w ∈ u_ws RX4 TX4 4, w ∈ wsX6_movedInViews := (by decide +kernel)
  have iX2 : ∀ w ∈ u_ws RX2 TX2 3, w ∈ wsX6_movedInViews := (by decide +kernel)
  have k23 : Cond.fieldLink RX6 23 (TX6 3).1 (TX6 3).2.1 (TX6 3).2.2.1 ∈ wsX6_movedInViews := List.mem_of_getElem? (i := 1) rfl
  have k122 : Cond.fieldLink RX6 122 (TX2 2).1 (TX2 2).2.1 (TX2 2).2.2.1 ∈ wsX6_movedInViews := List.mem_of_getElem? (i := 2) rfl
  have k96 : Cond.fieldLink RX6 96 (TX2 1).1 (TX2 1).2.1 (TX2 1).2.2.1 ∈ wsX6_movedInViews := List.mem_of_getElem? (i := 3) rfl
  have k45 : Cond.fieldLink RX6 45 (TX6 7).1 (TX6 7).2.1 (TX6 7).2.2.1 ∈ wsX6_movedInViews := List.mem_of_getElem? (i := 4) rfl
  have k99 : Cond.fieldLink RX6 99 (TX4 3).1 (TX4 3).2.1 (TX4 3).2.2.1 ∈ wsX6_movedInViews := List.mem_of_getElem? (i := 5) rfl
  refine z_iconst F dX6_movedInViews_0 ?_
  refine lv_istore_n (lv' := [(1, .int (iI 0)), (0, .ref x)]) F.1 F.2.1 dX6_movedInViews_1 rfl hl (by decide) rfl (fun ls hl => ?_)
  refine lv_aload_n F.1 F.2.1 dX6_movedInViews_2 rfl (lv_at hl 1 rfl) ?_
  refine g_getR (ci := 6) (k := 3) F hH rfl (by decide) iX6 hx.1 (by decide) rfl (b := pA) hx.2.1 k23 dX6_movedInViews_3 ?_
  refine g_getI (ci := 2) (k := 2) F hH rfl (by decide) iX2 hx.2.2.1 (by decide) rfl k122 dX6_movedInViews_6 ?_
  have b_1 := gI_plan hv hx.2.2.1
  refine lv_istore_n (lv' := [(2, .int (iI ((I pA 2).toInt))), (1, .int (iI 0)), (0, .ref x)]) F.1 F.2.1 dX6_movedInViews_9 rfl hl (by decide) rfl (fun ls hl => ?_)
  have cut_10_1 : ∀ (NN : Nat) (sm i : Int) (H : Heap) (locs : List Loc) (ls : Array Slot), zr sm → zr i → (0 ≤ i ∧ i ≤ 16 ∧ 0 ≤ sm ∧ sm ≤ 240 * i) → (sm = smL (lnR AR I (gh 35 0)) (I pA 2).toInt.toNat (i - (I pA 2).toInt).toNat ∧ (I pA 2).toInt ≤ i ∧ i ≤ (nr : Int)) → (16 - i) < ((NN : Nat) : Int) → gH g I R J AI AJ AR H → va_S (gA g) s.heap H locs → lv_has ls 3 [(2, .int (iI i)), (1, .int (iI sm)), (0, .ref x)] → W p l e rmX6_movedInViewsf s m ([.ref x] : List Value).toArray below meth c H locs 0 0 (MQ below (gQi g (fun (z : Int) (w : gS) => I = w.1 ∧ R = w.2.1 ∧ J = w.2.2.1 ∧ AI = w.2.2.2.1 ∧ AJ = w.2.2.2.2.1 ∧ AR = w.2.2.2.2.2 ∧ (0 ≤ z ∧ z ≤ 3840) ∧ (z = smL (lnR AR I (gh 35 0)) (I pA 2).toInt.toNat (nr - (I pA 2).toInt.toNat)))) ([.ref x] : List Value).toArray s 0 0 (gA g)) (F0 m 10 ls []) := by
    intro NN10
    induction NN10 with
    | zero =>
      intro sm i H locs ls zsm zi hi hsm hm10 hH hS hl
      exact absurd hm10 (by omega)
    | succ NN10 ih10 =>
      intro sm i H locs ls zsm zi hi hsm hm10 hH hS hl
      refine lv_iload_n F.1 F.2.1 dX6_movedInViews_10 rfl (lv_at hl 0 rfl) ?_
      refine lv_aload_n F.1 F.2.1 dX6_movedInViews_11 rfl (lv_at hl 2 rfl) ?_
      refine g_getR (ci := 6) (k := 3) F hH rfl (by decide) iX6 hx.1 (by decide) rfl (b := pA) hx.2.1 k23 dX6_movedInViews_12 ?_
      refine g_getI (ci := 2) (k := 1) F hH rfl (by decide) iX2 hx.2.2.1 (by decide) rfl k96 dX6_movedInViews_15 ?_
      refine z_icmp_ge (tgt := 39) F dX6_movedInViews_18 (by decide) zi (zr_t _) (fun c_3 => ?_) (fun c_3 => ?_)
      · refine lv_iload_n F.1 F.2.1 dX6_movedInViews_39 rfl (lv_at hl 1 rfl) ?_
        exact g_iret F hr hlk hH hS hz zsm ⟨rfl, rfl, rfl, rfl, rfl, rfl, by first | omega | rfl | (dsimp only; omega), by (try dsimp only); rw [hsm.1]; congr 1; omega⟩ dX6_movedInViews_40
      · refine lv_iload_n F.1 F.2.1 dX6_movedInViews_21 rfl (lv_at hl 1 rfl) ?_
        refine lv_aload_n F.1 F.2.1 dX6_movedInViews_22 rfl (lv_at hl 2 rfl) ?_
        obtain ⟨r_4a, r_4b⟩ := gR_x7 hv hx.1
        refine g_getR (ci := 6) (k := 7) F hH rfl (by decide) iX6 hx.1 (by decide) rfl (b := gh 35 0) r_4a k45 dX6_movedInViews_23 ?_
        refine lv_iload_n F.1 F.2.1 dX6_movedInViews_26 rfl (lv_at hl 0 rfl) ?_
        have hx27 : 0 ≤ i ∧ i < ((16 : Nat) : Int) ∧ i ≤ 2147483647 := ⟨by omega, by omega, by omega⟩
        obtain ⟨y_5, y_5a, y_5b, y_5c, y_5d, y_5e⟩ := r_4b.2 (i).toNat (by omega)
        refine g_aldR F hH r_4b.1 hx27.1 hx27.2.1 hx27.2.2 (b := y_5) y_5a dX6_movedInViews_27 ?_
        have rm : (I y_5 3).toInt = (lnR AR I (gh 35 0)) i.toNat := by unfold lnR; rw [rob_e y_5a]
        refine g_getI (ci := 4) (k := 3) F hH rfl (by decide) iX4 y_5b (by decide) rfl k99 dX6_movedInViews_28 ?_
        obtain ⟨b_6a, b_6b, b_6c, b_6d, b_6e, b_6f, b_6g, b_6h⟩ := gI_rows hv y_5b
        refine z_iadd F dX6_movedInViews_31 ?_
        refine lv_istore_n (lv' := [(1, .int (iI (sm + ((I y_5 3).toInt)))), (2, .int (iI i)), (0, .ref x)]) F.1 F.2.1 dX6_movedInViews_32 rfl hl (by decide) rfl (fun ls hl => ?_)
        refine z_iinc (lv' := [(2, .int (iI (i + 1))), (1, .int (iI (sm + ((I y_5 3).toInt)))), (0, .ref x)]) F dX6_movedInViews_33 hl (k := 1) rfl (by decide) rfl (fun ls hl => ?_)
        refine z_goto (tgt := 10) F dX6_movedInViews_36 (by decide) ?_
        exact ih10 (sm + ((I y_5 3).toInt)) (i + 1) H locs ls ⟨by omega, by omega⟩ ⟨by omega, by omega⟩ (by omega) ⟨by rw [show (i + 1 - (I pA 2).toInt).toNat = (i - (I pA 2).toInt).toNat + 1 by omega, smL, ← hsm.1, rm]; congr 2; omega, by omega, by omega⟩ (by omega) hH hS (lv_sub hl [0, 1, 2] rfl)
  exact cut_10_1 (((16 - ((I pA 2).toInt)) + 1 : Int).toNat) 0 ((I pA 2).toInt) H locs ls ⟨by decide, by decide⟩ (zr_t _) (by omega) ⟨by rw [show ((I pA 2).toInt - (I pA 2).toInt).toNat = 0 by omega]; rfl, by omega, by omega⟩ (by omega) hH hS (lv_sub hl [0, 1, 2] rfl)
