def rmX6_changef : Room := { frames := 3, cells := 0, slots := 0, locals := 108 }
set_option maxHeartbeats 4000000 in
set_option maxRecDepth 100000 in
/-- a change -/
theorem c_X6_changef (l : Launch) (g : gG) (gh : gGh) (pA bA nA : Nat) (cl : Int) (I : gI) (R : gR) (J : gJ) (AI : gI) (AJ : gJ) (AR : gR) (x : Nat) (tb : Int) (ca : Int) (cb : Int) (c3 : Int) (c4 : Int) (n : Int) (ztb : zr tb) (zca : zr ca) (zcb : zr cb) (zc3 : zr c3) (zc4 : zr c4) (zn : zr n) (hv : gInv g gh R AR I AI) (hx : xS g gh R AR x pA bA nA) (h37 : gh 42 0 ≠ 1) (hcl : 0 ≤ tb → tb < (I pA 2).toInt → ∀ y, AR (gh 6 pA) tb.toNat = some y → (I y 2).toInt = cl) : gMet l g yX6_change wsX6_change rmX6_changef [.ref x, .int (iI tb), .int (iI ca), .int (iI cb), .int (iI c3), .int (iI c4), .int (iI n)] (I, R, J, AI, AJ, AR) (gQi g (fun (z : Int) (w : gS) => R = w.2.1 ∧ J = w.2.2.1 ∧ AJ = w.2.2.2.2.1 ∧ AR = w.2.2.2.2.2 ∧ (gInv g gh R AR (w.1) (w.2.2.2.1)) ∧ (rF g I (w.1)) ∧ (∀ b, b ≠ gh 37 0 → (w.1) b = I b) ∧ (∀ b, b ≠ gh 29 0 → b ≠ gh 0 (gh 37 0) → (w.2.2.2.1) b = AI b) ∧ (chP (I pA 2).toInt tb n z (I (gh 37 0) 3).toInt ((w.1) (gh 37 0) 3).toInt (AI (gh 0 (gh 37 0))) ((w.2.2.2.1) (gh 0 (gh 37 0))) (cky tb ca cb c3 c4 cl)))) := by
  refine gStart (cc := cX6_change) (maxL := 8) (ret := (some (.int))) (by decide) rfl (Nat.le_of_ble_eq_true rfl) ?_
  intro p e s m below meth c ls F hr hlk hH hz hS hl
  have hl : lv_has ls 8 [(0, .ref x), (1, .int (iI tb)), (2, .int (iI ca)), (3, .int (iI cb)), (4, .int (iI c3)), (5, .int (iI c4)), (6, .int (iI n))] := hl
  have hS : va_S (gA g) s.heap s.heap [] := hS
  obtain ⟨H, hHe⟩ : ∃ H : Heap, H = s.heap := ⟨_, rfl⟩
  obtain ⟨locs, hlo⟩ : ∃ k : List Loc, k = [] := ⟨_, rfl⟩
  have hH : gH g I R J AI AJ AR H := by rw [hHe]; exact hH
  have hS : va_S (gA g) s.heap H locs := by rw [hHe, hlo]; exact hS
  suffices hw : W p l e rmX6_changef s m ([.ref x, .int (iI tb), .int (iI ca), .int (iI cb), .int (iI c3), .int (iI c4), .int (iI n)] : List Value).toArray below meth c H locs 0 0 (MQ below (gQi g (fun (z : Int) (w : gS) => R = w.2.1 ∧ J = w.2.2.1 ∧ AJ = w.2.2.2.2.1 ∧ AR = w.2.2.2.2.2 ∧ (gInv g gh R AR (w.1) (w.2.2.2.1)) ∧ (rF g I (w.1)) ∧ (∀ b, b ≠ gh 37 0 → (w.1) b = I b) ∧ (∀ b, b ≠ gh 29 0 → b ≠ gh 0 (gh 37 0) → (w.2.2.2.1) b = AI b) ∧ (chP (I pA 2).toInt tb n z (I (gh 37 0) 3).toInt ((w.1) (gh 37 0) 3).toInt (AI (gh 0 (gh 37 0))) ((w.2.2.2.1) (gh 0 (gh 37 0))) (cky tb ca cb c3 c4 cl)))) ([.ref x, .int (iI tb), .int (iI ca), .int (iI cb), .int (iI c3), .int (iI c4), .int (iI n)] : List Value).toArray s 0 0 (gA g)) (F0 m 0 ls []) by
    rw [hHe, hlo] at hw; exact hw
  clear hHe hlo
  have rf : rF g I I := rF_r
  have iX6 : ∀ w ∈ u_ws RX6 TX6 18, w ∈ wsX6_change := (by decide +kernel)
  have iX4 : ∀ w ∈ u_ws RX4 TX4 4, w ∈ wsX6_change := (by decide +kernel)
  have iX2 : ∀ w ∈ u_ws RX2 TX2 3, w ∈ wsX6_change := (by decide +kernel)
  have iX0 : ∀ w ∈ u_ws RX0 TX0 15, w ∈ wsX6_change := (by decide +kernel)
  have k23 : Cond.fieldLink RX6 23 (TX6 3).1 (TX6 3).2.1 (TX6 3).2.2.1 ∈ wsX6_change := List.mem_of_getElem? (i := 1) rfl
  have k122 : Cond.fieldLink RX6 122 (TX2 2).1 (TX2 2).2.1 (TX2 2).2.2.1 ∈ wsX6_change := List.mem_of_getElem? (i := 2) rfl
  have k113 : Cond.fieldLink RX6 113 (TX2 0).1 (TX2 0).2.1 (TX2 0).2.2.1 ∈ wsX6_change := List.mem_of_getElem? (i := 3) rfl
  have k125 : Cond.fieldLink RX6 125 (TX0 2).1 (TX0 2).2.1 (TX0 2).2.2.1 ∈ wsX6_change := List.mem_of_getElem? (i := 4) rfl
  have k66 : Cond.fieldLink RX6 66 (TX6 12).1 (TX6 12).2.1 (TX6 12).2.2.1 ∈ wsX6_change := List.mem_of_getElem? (i := 5) rfl
  have k53 : Cond.fieldLink RX6 53 (TX6 8).1 (TX6 8).2.1 (TX6 8).2.2.1 ∈ wsX6_change := List.mem_of_getElem? (i := 6) rfl
  have k99 : Cond.fieldLink RX6 99 (TX4 3).1 (TX4 3).2.1 (TX4 3).2.2.1 ∈ wsX6_change := List.mem_of_getElem? (i := 7) rfl
  refine lv_iload_n F.1 F.2.1 dX6_change_0 rfl (lv_at hl 1 rfl) ?_
  refine z_if_lt (tgt := 15) F dX6_change_1 (by decide) ztb (fun c_1 => ?_) (fun c_1 => ?_)
  · refine z_iconst F dX6_change_15 ?_
    exact g_iret F hr hlk hH hS hz ⟨by decide, by decide⟩ ⟨rfl, rfl, rfl, rfl, hv, rf, fun _ _ => rfl, fun _ _ _ => rfl, Or.inl ⟨by omega, rfl, rfl, rfl⟩⟩ dX6_change_16
  · refine lv_iload_n F.1 F.2.1 dX6_change_4 rfl (lv_at hl 1 rfl) ?_
    refine lv_aload_n F.1 F.2.1 dX6_change_5 rfl (lv_at hl 0 rfl) ?_
    refine g_getR (ci := 6) (k := 3) F hH rfl (by decide) iX6 hx.1 (by decide) rfl (b := pA) hx.2.1 k23 dX6_change_6 ?_
    refine g_getI (ci := 2) (k := 2) F hH rfl (by decide) iX2 hx.2.2.1 (by decide) rfl k122 dX6_change_9 ?_
    have b_2 := gI_plan hv hx.2.2.1
    refine z_icmp_lt (tgt := 17) F dX6_change_12 (by decide) ztb (zr_t _) (fun c_3 => ?_) (fun c_3 => ?_)
    · refine lv_iload F.1 F.2.1 dX6_change_17 (lv_at hl 6 rfl) ?_
      refine z_bipush F dX6_change_19 (by decide) ?_
      refine z_icmp_lt (tgt := 36) F dX6_change_21 (by decide) zn ⟨by decide, by decide⟩ (fun c_4 => ?_) (fun c_4 => ?_)
      · refine z_iconst F dX6_change_36 ?_
        exact g_iret F hr hlk hH hS hz ⟨by decide, by decide⟩ ⟨rfl, rfl, rfl, rfl, hv, rf, fun _ _ => rfl, fun _ _ _ => rfl, Or.inl ⟨by omega, rfl, rfl, rfl⟩⟩ dX6_change_37
      · refine lv_iload F.1 F.2.1 dX6_change_24 (lv_at hl 6 rfl) ?_
        refine z_bipush F dX6_change_26 (by decide) ?_
        refine z_icmp_gt (tgt := 36) F dX6_change_28 (by decide) zn ⟨by decide, by decide⟩ (fun c_5 => ?_) (fun c_5 => ?_)
        · refine z_iconst F dX6_change_36 ?_
          exact g_iret F hr hlk hH hS hz ⟨by decide, by decide⟩ ⟨rfl, rfl, rfl, rfl, hv, rf, fun _ _ => rfl, fun _ _ _ => rfl, Or.inl ⟨by omega, rfl, rfl, rfl⟩⟩ dX6_change_37
        · refine lv_iload F.1 F.2.1 dX6_change_31 (lv_at hl 6 rfl) ?_
          refine z_if_ne (tgt := 38) F dX6_change_33 (by decide) zn (fun c_6 => ?_) (fun c_6 => ?_)
          · refine lv_aload_n F.1 F.2.1 dX6_change_38 rfl (lv_at hl 0 rfl) ?_
            refine g_getR (ci := 6) (k := 3) F hH rfl (by decide) iX6 hx.1 (by decide) rfl (b := pA) hx.2.1 k23 dX6_change_39 ?_
            obtain ⟨r_7a, r_7b⟩ := gR_lines hv hx.2.2.1
            refine g_getR (ci := 2) (k := 0) F hH rfl (by decide) iX2 hx.2.2.1 (by decide) rfl (b := gh 6 pA) r_7a k113 dX6_change_42 ?_
            refine lv_iload_n F.1 F.2.1 dX6_change_45 rfl (lv_at hl 1 rfl) ?_
            have hx46 : 0 ≤ tb ∧ tb < ((16 : Nat) : Int) ∧ tb ≤ 2147483647 := ⟨by omega, by omega, by omega⟩
            obtain ⟨y_8, y_8a, y_8b, y_8c, y_8d⟩ := gA_lines hv hx.2.2.1 (z := tb) (by omega) (by omega)
            refine g_aldL F hH r_7b hx46.1 hx46.2.1 hx46.2.2 (b := y_8) y_8a dX6_change_46 ?_
            have hcc : (I y_8 2).toInt = cl := hcl (by omega) (by omega) y_8 y_8a
            refine g_getI (ci := 0) (k := 2) F hH rfl (by decide) iX0 y_8b (by decide) rfl k125 dX6_change_47 ?_
            have b_9 := gI_line hv y_8b
            unfold vLineI at b_9
            refine lv_istore (lv' := [(7, .int (iI ((I y_8 2).toInt))), (0, .ref x), (1, .int (iI tb)), (2, .int (iI ca)), (3, .int (iI cb)), (4, .int (iI c3)), (5, .int (iI c4)), (6, .int (iI n))]) F.1 F.2.1 dX6_change_50 hl (by decide) rfl (fun ls hl => ?_)
            refine lv_aload_n F.1 F.2.1 dX6_change_52 rfl (lv_at hl 1 rfl) ?_
            obtain ⟨r_10a, r_10b⟩ := gR_x12 hv hx.1
            refine g_getR (ci := 6) (k := 12) F hH rfl (by decide) iX6 hx.1 (by decide) rfl (b := gh 29 0) r_10a k66 dX6_change_53 ?_
            refine z_iconst F dX6_change_56 ?_
            refine lv_iload_n F.1 F.2.1 dX6_change_57 rfl (lv_at hl 2 rfl) ?_
            have hx58 : 0 ≤ (0 : Int) ∧ (0 : Int) < ((5 : Nat) : Int) ∧ (0 : Int) ≤ 2147483647 := ⟨by omega, by omega, by omega⟩
            refine g_iast F hH hS r_10b hx58.1 hx58.2.1 hx58.2.2 dX6_change_58 (fun H locs hH hS => ?_)
            obtain ⟨AI_11, eAI_11⟩ : ∃ qQ, qQ = gup2 AI (gh 29 0) ((0 : Int)).toNat (iI (tb)) := ⟨_, rfl⟩
            rw [← eAI_11] at hH
            have kAI_11 : ∀ b, b ≠ (gh 29 0) → AI_11 b = AI b := fun b hb => by rw [eAI_11]; exact funext fun j => gup2_a _ _ hb
            have hv : gInv g gh R AR I AI_11 := gInv_plain hv (ro29 hv hx.1) kAI_11
            have key0 : (AI_11 (gh 29 0) 0).toInt = tb := by rw [eAI_11, gup2_e _ _ (by decide)]; exact iI_val ztb
            have fk : ∀ b, b ≠ gh 29 0 → AI_11 b = AI b := fun b hb => kAI_11 b hb
            refine lv_aload_n F.1 F.2.1 dX6_change_59 rfl (lv_at hl 1 rfl) ?_
            refine g_getR (ci := 6) (k := 12) F hH rfl (by decide) iX6 hx.1 (by decide) rfl (b := gh 29 0) r_10a k66 dX6_change_60 ?_
            refine z_iconst F dX6_change_63 ?_
            refine lv_iload_n F.1 F.2.1 dX6_change_64 rfl (lv_at hl 3 rfl) ?_
            have hx65 : 0 ≤ (1 : Int) ∧ (1 : Int) < ((5 : Nat) : Int) ∧ (1 : Int) ≤ 2147483647 := ⟨by omega, by omega, by omega⟩
            refine g_iast F hH hS r_10b hx65.1 hx65.2.1 hx65.2.2 dX6_change_65 (fun H locs hH hS => ?_)
            obtain ⟨AI_12, eAI_12⟩ : ∃ qQ, qQ = gup2 AI_11 (gh 29 0) ((1 : Int)).toNat (iI (ca)) := ⟨_, rfl⟩
            rw [← eAI_12] at hH
            have kAI_12 : ∀ b, b ≠ (gh 29 0) → AI_12 b = AI_11 b := fun b hb => by rw [eAI_12]; exact funext fun j => gup2_a _ _ hb
            have hv : gInv g gh R AR I AI_12 := gInv_plain hv (ro29 hv hx.1) kAI_12
            have key0 : (AI_12 (gh 29 0) 0).toInt = tb := by rw [eAI_12, gup2_k _ _ (by decide)]; exact key0
            have key1 : (AI_12 (gh 29 0) 1).toInt = ca := by rw [eAI_12, gup2_e _ _ (by decide)]; exact iI_val zca
            have fk : ∀ b, b ≠ gh 29 0 → AI_12 b = AI b := fun b hb => (kAI_12 b hb).trans (fk b hb)
            refine lv_aload_n F.1 F.2.1 dX6_change_66 rfl (lv_at hl 1 rfl) ?_
            refine g_getR (ci := 6) (k := 12) F hH rfl (by decide) iX6 hx.1 (by decide) rfl (b := gh 29 0) r_10a k66 dX6_change_67 ?_
            refine z_iconst F dX6_change_70 ?_
            have cut_82_12 : ∀ (k2 : Int) (H : Heap) (locs : List Loc) (ls : Array Slot), zr k2 → (k2 = if 1 < cl then cb else 0) → gH g I R J AI_12 AJ AR H → va_S (gA g) s.heap H locs → lv_has ls 8 [(7, .int (iI ((I y_8 2).toInt))), (0, .ref x), (1, .int (iI tb)), (2, .int (iI ca)), (3, .int (iI cb)), (4, .int (iI c3)), (5, .int (iI c4)), (6, .int (iI n))] → W p l e rmX6_changef s m ([.ref x, .int (iI tb), .int (iI ca), .int (iI cb), .int (iI c3), .int (iI c4), .int (iI n)] : List Value).toArray below meth c H locs 0 0 (MQ below (gQi g (fun (z : Int) (w : gS) => R = w.2.1 ∧ J = w.2.2.1 ∧ AJ = w.2.2.2.2.1 ∧ AR = w.2.2.2.2.2 ∧ (gInv g gh R AR (w.1) (w.2.2.2.1)) ∧ (rF g I (w.1)) ∧ (∀ b, b ≠ gh 37 0 → (w.1) b = I b) ∧ (∀ b, b ≠ gh 29 0 → b ≠ gh 0 (gh 37 0) → (w.2.2.2.1) b = AI b) ∧ (chP (I pA 2).toInt tb n z (I (gh 37 0) 3).toInt ((w.1) (gh 37 0) 3).toInt (AI (gh 0 (gh 37 0))) ((w.2.2.2.1) (gh 0 (gh 37 0))) (cky tb ca cb c3 c4 cl)))) ([.ref x, .int (iI tb), .int (iI ca), .int (iI cb), .int (iI c3), .int (iI c4), .int (iI n)] : List Value).toArray s 0 0 (gA g)) (F0 m 82 ls [.int (iI k2), .int (iI 2), .ref (gh 29 0)]) := by
              intro k2 H locs ls zk2 hk2 hH hS hl
              have hx82 : 0 ≤ (2 : Int) ∧ (2 : Int) < ((5 : Nat) : Int) ∧ (2 : Int) ≤ 2147483647 := ⟨by omega, by omega, by omega⟩
              refine g_iast F hH hS r_10b hx82.1 hx82.2.1 hx82.2.2 dX6_change_82 (fun H locs hH hS => ?_)
              obtain ⟨AI_14, eAI_14⟩ : ∃ qQ, qQ = gup2 AI_12 (gh 29 0) ((2 : Int)).toNat (iI (k2)) := ⟨_, rfl⟩
              rw [← eAI_14] at hH
              have kAI_14 : ∀ b, b ≠ (gh 29 0) → AI_14 b = AI_12 b := fun b hb => by rw [eAI_14]; exact funext fun j => gup2_a _ _ hb
              have hv : gInv g gh R AR I AI_14 := gInv_plain hv (ro29 hv hx.1) kAI_14
              have key0 : (AI_14 (gh 29 0) 0).toInt = tb := by rw [eAI_14, gup2_k _ _ (by decide)]; exact key0
              have key1 : (AI_14 (gh 29 0) 1).toInt = ca := by rw [eAI_14, gup2_k _ _ (by decide)]; exact key1
              have key2 : (AI_14 (gh 29 0) 2).toInt = k2 := by rw [eAI_14, gup2_e _ _ (by decide)]; exact iI_val zk2
              have fk : ∀ b, b ≠ gh 29 0 → AI_14 b = AI b := fun b hb => (kAI_14 b hb).trans (fk b hb)
              refine lv_aload_n F.1 F.2.1 dX6_change_83 rfl (lv_at hl 1 rfl) ?_
              refine g_getR (ci := 6) (k := 12) F hH rfl (by decide) iX6 hx.1 (by decide) rfl (b := gh 29 0) r_10a k66 dX6_change_84 ?_
              refine z_iconst F dX6_change_87 ?_
              have cut_100_14 : ∀ (k3 : Int) (H : Heap) (locs : List Loc) (ls : Array Slot), zr k3 → (k3 = if 2 < cl then c3 else 0) → gH g I R J AI_14 AJ AR H → va_S (gA g) s.heap H locs → lv_has ls 8 [(7, .int (iI ((I y_8 2).toInt))), (0, .ref x), (1, .int (iI tb)), (2, .int (iI ca)), (3, .int (iI cb)), (4, .int (iI c3)), (5, .int (iI c4)), (6, .int (iI n))] → W p l e rmX6_changef s m ([.ref x, .int (iI tb), .int (iI ca), .int (iI cb), .int (iI c3), .int (iI c4), .int (iI n)] : List Value).toArray below meth c H locs 0 0 (MQ below (gQi g (fun (z : Int) (w : gS) => R = w.2.1 ∧ J = w.2.2.1 ∧ AJ = w.2.2.2.2.1 ∧ AR = w.2.2.2.2.2 ∧ (gInv g gh R AR (w.1) (w.2.2.2.1)) ∧ (rF g I (w.1)) ∧ (∀ b, b ≠ gh 37 0 → (w.1) b = I b) ∧ (∀ b, b ≠ gh 29 0 → b ≠ gh 0 (gh 37 0) → (w.2.2.2.1) b = AI b) ∧ (chP (I pA 2).toInt tb n z (I (gh 37 0) 3).toInt ((w.1) (gh 37 0) 3).toInt (AI (gh 0 (gh 37 0))) ((w.2.2.2.1) (gh 0 (gh 37 0))) (cky tb ca cb c3 c4 cl)))) ([.ref x, .int (iI tb), .int (iI ca), .int (iI cb), .int (iI c3), .int (iI c4), .int (iI n)] : List Value).toArray s 0 0 (gA g)) (F0 m 100 ls [.int (iI k3), .int (iI 3), .ref (gh 29 0)]) := by
                intro k3 H locs ls zk3 hk3 hH hS hl
                have hx100 : 0 ≤ (3 : Int) ∧ (3 : Int) < ((5 : Nat) : Int) ∧ (3 : Int) ≤ 2147483647 := ⟨by omega, by omega, by omega⟩
                refine g_iast F hH hS r_10b hx100.1 hx100.2.1 hx100.2.2 dX6_change_100 (fun H locs hH hS => ?_)
                obtain ⟨AI_16, eAI_16⟩ : ∃ qQ, qQ = gup2 AI_14 (gh 29 0) ((3 : Int)).toNat (iI (k3)) := ⟨_, rfl⟩
                rw [← eAI_16] at hH
                have kAI_16 : ∀ b, b ≠ (gh 29 0) → AI_16 b = AI_14 b := fun b hb => by rw [eAI_16]; exact funext fun j => gup2_a _ _ hb
                have hv : gInv g gh R AR I AI_16 := gInv_plain hv (ro29 hv hx.1) kAI_16
                have key0 : (AI_16 (gh 29 0) 0).toInt = tb := by rw [eAI_16, gup2_k _ _ (by decide)]; exact key0
                have key1 : (AI_16 (gh 29 0) 1).toInt = ca := by rw [eAI_16, gup2_k _ _ (by decide)]; exact key1
                have key2 : (AI_16 (gh 29 0) 2).toInt = k2 := by rw [eAI_16, gup2_k _ _ (by decide)]; exact key2
                have key3 : (AI_16 (gh 29 0) 3).toInt = k3 := by rw [eAI_16, gup2_e _ _ (by decide)]; exact iI_val zk3
                have fk : ∀ b, b ≠ gh 29 0 → AI_16 b = AI b := fun b hb => (kAI_16 b hb).trans (fk b hb)
                refine lv_aload_n F.1 F.2.1 dX6_change_101 rfl (lv_at hl 1 rfl) ?_
                refine g_getR (ci := 6) (k := 12) F hH rfl (by decide) iX6 hx.1 (by decide) rfl (b := gh 29 0) r_10a k66 dX6_change_102 ?_
                refine z_iconst F dX6_change_105 ?_
                have cut_118_16 : ∀ (k4 : Int) (H : Heap) (locs : List Loc) (ls : Array Slot), zr k4 → (k4 = if 3 < cl then c4 else 0) → gH g I R J AI_16 AJ AR H → va_S (gA g) s.heap H locs → lv_has ls 8 [(7, .int (iI ((I y_8 2).toInt))), (0, .ref x), (1, .int (iI tb)), (2, .int (iI ca)), (3, .int (iI cb)), (4, .int (iI c3)), (5, .int (iI c4)), (6, .int (iI n))] → W p l e rmX6_changef s m ([.ref x, .int (iI tb), .int (iI ca), .int (iI cb), .int (iI c3), .int (iI c4), .int (iI n)] : List Value).toArray below meth c H locs 0 0 (MQ below (gQi g (fun (z : Int) (w : gS) => R = w.2.1 ∧ J = w.2.2.1 ∧ AJ = w.2.2.2.2.1 ∧ AR = w.2.2.2.2.2 ∧ (gInv g gh R AR (w.1) (w.2.2.2.1)) ∧ (rF g I (w.1)) ∧ (∀ b, b ≠ gh 37 0 → (w.1) b = I b) ∧ (∀ b, b ≠ gh 29 0 → b ≠ gh 0 (gh 37 0) → (w.2.2.2.1) b = AI b) ∧ (chP (I pA 2).toInt tb n z (I (gh 37 0) 3).toInt ((w.1) (gh 37 0) 3).toInt (AI (gh 0 (gh 37 0))) ((w.2.2.2.1) (gh 0 (gh 37 0))) (cky tb ca cb c3 c4 cl)))) ([.ref x, .int (iI tb), .int (iI ca), .int (iI cb), .int (iI c3), .int (iI c4), .int (iI n)] : List Value).toArray s 0 0 (gA g)) (F0 m 118 ls [.int (iI k4), .int (iI 4), .ref (gh 29 0)]) := by
                  intro k4 H locs ls zk4 hk4 hH hS hl
                  have hx118 : 0 ≤ (4 : Int) ∧ (4 : Int) < ((5 : Nat) : Int) ∧ (4 : Int) ≤ 2147483647 := ⟨by omega, by omega, by omega⟩
                  refine g_iast F hH hS r_10b hx118.1 hx118.2.1 hx118.2.2 dX6_change_118 (fun H locs hH hS => ?_)
                  obtain ⟨AI_18, eAI_18⟩ : ∃ qQ, qQ = gup2 AI_16 (gh 29 0) ((4 : Int)).toNat (iI (k4)) := ⟨_, rfl⟩
                  rw [← eAI_18] at hH
                  have kAI_18 : ∀ b, b ≠ (gh 29 0) → AI_18 b = AI_16 b := fun b hb => by rw [eAI_18]; exact funext fun j => gup2_a _ _ hb
                  have hv : gInv g gh R AR I AI_18 := gInv_plain hv (ro29 hv hx.1) kAI_18
                  have key0 : (AI_18 (gh 29 0) 0).toInt = tb := by rw [eAI_18, gup2_k _ _ (by decide)]; exact key0
                  have key1 : (AI_18 (gh 29 0) 1).toInt = ca := by rw [eAI_18, gup2_k _ _ (by decide)]; exact key1
                  have key2 : (AI_18 (gh 29 0) 2).toInt = k2 := by rw [eAI_18, gup2_k _ _ (by decide)]; exact key2
                  have key3 : (AI_18 (gh 29 0) 3).toInt = k3 := by rw [eAI_18, gup2_k _ _ (by decide)]; exact key3
                  have key4 : (AI_18 (gh 29 0) 4).toInt = k4 := by rw [eAI_18, gup2_e _ _ (by decide)]; exact iI_val zk4
                  have fk : ∀ b, b ≠ gh 29 0 → AI_18 b = AI b := fun b hb => (kAI_18 b hb).trans (fk b hb)
                  refine lv_aload_n F.1 F.2.1 dX6_change_119 rfl (lv_at hl 1 rfl) ?_
                  obtain ⟨r_19a, r_19b, r_19c, r_19d⟩ := gR_x8 hv hx.1
                  refine g_getR (ci := 6) (k := 8) F hH rfl (by decide) iX6 hx.1 (by decide) rfl (b := gh 37 0) r_19a k53 dX6_change_120 ?_
                  refine lv_aload_n F.1 F.2.1 dX6_change_123 rfl (lv_at hl 1 rfl) ?_
                  refine g_getR (ci := 6) (k := 12) F hH rfl (by decide) iX6 hx.1 (by decide) rfl (b := gh 29 0) r_10a k66 dX6_change_124 ?_
                  refine lv_iload F.1 F.2.1 dX6_change_127 (lv_at hl 7 rfl) ?_
                  obtain ⟨b_20a, b_20b, b_20c, b_20d, b_20e, b_20f, b_20g, b_20h⟩ := gI_rows hv r_19b
                  refine g_calli (g_runV (As := [.ref (gh 29 0), .int (iI n)]) (rest := []) (ci := 4) F hl.1 hH hS hz (c_X4_addAmountf l g gh I R J AI_18 AJ AR (gh 37 0) (gh 29 0) n zn hv r_19b r_10b (ro29 hv hx.1) (fun _ => by omega) (by first | exact hfz | omega)) (cwV 2 F.2.2.2.2.1 gX6_change_X4_addAmount rfl rfl rfl hdX4_addAmount ⟨Nat.le_of_ble_eq_true rfl, Nat.le_of_ble_eq_true rfl⟩) r_19b (by decide) rfl rfl rfl (Nat.le_of_ble_eq_true rfl) dX6_change_129 ⟨Nat.zero_le _, Nat.zero_le _⟩) hS (fun v_27 I_21 R_22 J_23 AI_24 AJ_25 AR_26 H locs zv_27 hp_28 hH hS => ?_)
                  dsimp only at hp_28
                  obtain ⟨rfl, rfl, rfl, rfl, hv, fi9, fa9, qad⟩ := hp_28
                  have rf := rF_t rf (rF_o r_19b fi9)
                  have u_29p : I_21 pA = I pA := rf pA 2 hx.2.2.1 (by decide)
                  have u_29p1 : (I_21 pA 1).toInt = (I pA 1).toInt := by rw [u_29p]
                  have u_29p2 : (I_21 pA 2).toInt = (I pA 2).toInt := by rw [u_29p]
                  have hne : gh 0 (gh 37 0) ≠ gh 29 0 := fun q => by have q9 := (hv.1 _ (gR_x8 hv hx.1).2.1).1.2.2.1; rw [q, ro29 hv hx.1] at q9; exact absurd q9 (by decide)
                  have qad : addP 5 40 (AI (gh 0 (gh 37 0))) (AI_24 (gh 0 (gh 37 0))) (I (gh 37 0) 3).toInt (I_21 (gh 37 0) 3).toInt (cky tb ca cb c3 c4 cl) n v_27 := by
                    have q := qad
                    rw [(gR_x8 hv hx.1).2.2.2, (gR_x8 hv hx.1).2.2.1, fk _ hne] at q
                    exact addP_c (cky_of key0 key1 (key2.trans hk2) (key3.trans hk3) (key4.trans hk4)) q
                  have hz01 : v_27 = 0 ∨ v_27 = 1 := by rcases qad with ⟨_, _, _, ⟨_, h, _⟩ | ⟨_, _, h, _⟩ | ⟨_, _, h, _⟩⟩ | ⟨_, _, _, h, _⟩ <;> omega
                  refine z_if_eq (tgt := 145) F dX6_change_132 (by decide) zv_27 (fun c_30 => ?_) (fun c_30 => ?_)
                  · refine z_iconst F dX6_change_145 ?_
                    exact g_iret F hr hlk hH hS hz ⟨by decide, by decide⟩ ⟨rfl, rfl, rfl, rfl, hv, rf, fi9, fun b h1 h2 => (fa9 b h2).trans (fk b h1), Or.inr ⟨⟨by omega, by omega, by omega, by omega, by omega⟩, _, qad, by (try dsimp only); omega⟩⟩ dX6_change_146
                  · refine lv_aload_n F.1 F.2.1 dX6_change_135 rfl (lv_at hl 1 rfl) ?_
                    refine g_getR (ci := 6) (k := 8) F hH rfl (by decide) iX6 hx.1 (by decide) rfl (b := gh 37 0) r_19a k53 dX6_change_136 ?_
                    refine g_getI (ci := 4) (k := 3) F hH rfl (by decide) iX4 r_19b (by decide) rfl k99 dX6_change_139 ?_
                    obtain ⟨b_31a, b_31b, b_31c, b_31d, b_31e, b_31f, b_31g, b_31h⟩ := gI_rows hv r_19b
                    refine z_goto (tgt := 146) F dX6_change_142 (by decide) ?_
                    exact g_iret F hr hlk hH hS hz (zr_t _) ⟨rfl, rfl, rfl, rfl, hv, rf, fi9, fun b h1 h2 => (fa9 b h2).trans (fk b h1), Or.inr ⟨⟨by omega, by omega, by omega, by omega, by omega⟩, _, qad, by (try dsimp only); omega⟩⟩ dX6_change_146
                refine lv_iload F.1 F.2.1 dX6_change_106 (lv_at hl 0 rfl) ?_
                refine z_iconst F dX6_change_108 ?_
                refine z_icmp_le (tgt := 117) F dX6_change_109 (by decide) (zr_t _) ⟨by decide, by decide⟩ (fun c_32 => ?_) (fun c_32 => ?_)
                · refine z_iconst F dX6_change_117 ?_
                  exact cut_118_16 0 H locs ls ⟨by decide, by decide⟩ (by first | exact (if_neg (by omega)).symm | exact (if_pos (by omega)).symm) hH hS (lv_sub hl [0, 1, 2, 3, 4, 5, 6, 7] rfl)
                · refine lv_iload F.1 F.2.1 dX6_change_112 (lv_at hl 6 rfl) ?_
                  refine z_goto (tgt := 118) F dX6_change_114 (by decide) ?_
                  exact cut_118_16 c4 H locs ls zc4 (by first | exact (if_neg (by omega)).symm | exact (if_pos (by omega)).symm) hH hS (lv_sub hl [0, 1, 2, 3, 4, 5, 6, 7] rfl)
              refine lv_iload F.1 F.2.1 dX6_change_88 (lv_at hl 0 rfl) ?_
              refine z_iconst F dX6_change_90 ?_
              refine z_icmp_le (tgt := 99) F dX6_change_91 (by decide) (zr_t _) ⟨by decide, by decide⟩ (fun c_33 => ?_) (fun c_33 => ?_)
              · refine z_iconst F dX6_change_99 ?_
                exact cut_100_14 0 H locs ls ⟨by decide, by decide⟩ (by first | exact (if_neg (by omega)).symm | exact (if_pos (by omega)).symm) hH hS (lv_sub hl [0, 1, 2, 3, 4, 5, 6, 7] rfl)
              · refine lv_iload F.1 F.2.1 dX6_change_94 (lv_at hl 5 rfl) ?_
                refine z_goto (tgt := 100) F dX6_change_96 (by decide) ?_
                exact cut_100_14 c3 H locs ls zc3 (by first | exact (if_neg (by omega)).symm | exact (if_pos (by omega)).symm) hH hS (lv_sub hl [0, 1, 2, 3, 4, 5, 6, 7] rfl)
            refine lv_iload F.1 F.2.1 dX6_change_71 (lv_at hl 0 rfl) ?_
            refine z_iconst F dX6_change_73 ?_
            refine z_icmp_le (tgt := 81) F dX6_change_74 (by decide) (zr_t _) ⟨by decide, by decide⟩ (fun c_34 => ?_) (fun c_34 => ?_)
            · refine z_iconst F dX6_change_81 ?_
              exact cut_82_12 0 H locs ls ⟨by decide, by decide⟩ (by first | exact (if_neg (by omega)).symm | exact (if_pos (by omega)).symm) hH hS (lv_sub hl [0, 1, 2, 3, 4, 5, 6, 7] rfl)
            · refine lv_iload_n F.1 F.2.1 dX6_change_77 rfl (lv_at hl 4 rfl) ?_
              refine z_goto (tgt := 82) F dX6_change_78 (by decide) ?_
              exact cut_82_12 cb H locs ls zcb (by first | exact (if_neg (by omega)).symm | exact (if_pos (by omega)).symm) hH hS (lv_sub hl [0, 1, 2, 3, 4, 5, 6, 7] rfl)
          · refine z_iconst F dX6_change_36 ?_
            exact g_iret F hr hlk hH hS hz ⟨by decide, by decide⟩ ⟨rfl, rfl, rfl, rfl, hv, rf, fun _ _ => rfl, fun _ _ _ => rfl, Or.inl ⟨by omega, rfl, rfl, rfl⟩⟩ dX6_change_37
    · refine z_iconst F dX6_change_15 ?_
      exact g_iret F hr hlk hH hS hz ⟨by decide, by decide⟩ ⟨rfl, rfl, rfl, rfl, hv, rf, fun _ _ => rfl, fun _ _ _ => rfl, Or.inl ⟨by omega, rfl, rfl, rfl⟩⟩ dX6_change_16
