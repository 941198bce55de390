def rmX6_reckonNextf : Room := { frames := 6, cells := 0, slots := 0, locals := 190 }
set_option maxHeartbeats 4000000 in
set_option maxRecDepth 100000 in
/-- all relations as they were behind the changes -/
theorem c_X6_reckonNextf (l : Launch) (g : gG) (gh : gGh) (pA bA nA : Nat) (nb nr : Nat) (cc : Nat → LC) (cl : Nat → Int) (I : gI) (R : gR) (J : gJ) (AI : gI) (AJ : gJ) (AR : gR) (x : Nat) (ch : Nat) (sg : Int) (zsg : zr sg) (hv : gInv g gh R AR I AI) (hx : xS g gh R AR x pA bA nA) (hch : gO g ch 4) (h5 : gh 2 ch = 5) (hnb : (I ch 3).toInt = (nb : Int)) (hbt : btO (AI (gh 0 ch)) nb) (hc39 : ch ≠ gh 39 0) (hc40 : gh 1 ch = 40) (hlen : (I pA 1).toInt = (nr : Int)) (htb2 : 0 ≤ (I pA 2).toInt ∧ (I pA 2).toInt ≤ (nr : Int) ∧ nr ≤ 16) (hln : ∀ r, r < nr → lnC (I (rob AR (gh 6 pA) r)) (AI (gh 3 (rob AR (gh 6 pA) r))) (cc r)) (hcK : ∀ r : Nat, r < nr → (I pA 2).toInt ≤ (r : Int) → cOK (cc r) r cl ∧ cZ (cc r) r cl) (hbg : ∀ r, r < nr → bgOK (rfC gh AR I AI bA) cl r) (hbz : btZ cl (AI (gh 0 ch)) nb) (htb : ∀ i, i < nb → 0 ≤ ((AI (gh 0 ch)) (6 * i)).toInt ∧ ((AI (gh 0 ch)) (6 * i)).toInt < (I pA 2).toInt) (hDn : rsD AR nA 16) (hDx : rsX AR bA 16 nA 16) (hchn : ∀ r, r < 16 → rob AR nA r ≠ ch) : gMet l g yX6_reckonNext wsX6_reckonNext rmX6_reckonNextf [.ref x, .ref ch, .int (iI sg)] (I, R, J, AI, AJ, AR) (gQi g (fun (z : Int) (w : gS) => R = w.2.1 ∧ J = w.2.2.1 ∧ AJ = w.2.2.2.2.1 ∧ AR = w.2.2.2.2.2 ∧ (gInv g gh R AR (w.1) (w.2.2.2.1)) ∧ (rF g I (w.1)) ∧ (-4 ≤ z ∧ z ≤ 0) ∧ (nIf gh AR nA I (w.1)) ∧ (nAf gh AR nA AI (w.2.2.2.1)) ∧ (rnP (I pA 2).toInt nr cc (∃ i, i < nb ∧ blw (AI (gh 0 ch)) (rfC gh AR I AI bA) sg i) (tbS (AI (gh 0 ch)) nb (rfC gh AR I AI bA) sg) z (rfC gh AR (w.1) (w.2.2.2.1) nA)) ∧ (z = 0 → stA (I pA 2).toInt cc (tbS (AI (gh 0 ch)) nb (rfC gh AR I AI bA) sg) cl (rfC gh AR (w.1) (w.2.2.2.1) nA) nr))) := by
  refine gStart (cc := cX6_reckonNext) (maxL := 5) (ret := (some (.int))) (by decide) rfl (Nat.le_of_ble_eq_true rfl) ?_
  intro p e s m below meth c ls F hr hlk hH hz hS hl
  have hl : lv_has ls 5 [(0, .ref x), (1, .ref ch), (2, .int (iI sg))] := hl
  have hS : va_S (gA g) s.heap s.heap [] := hS
  obtain ⟨H, hHe⟩ : ∃ H : Heap, H = s.heap := ⟨_, rfl⟩
  obtain ⟨locs, hlo⟩ : ∃ k : List Loc, k = [] := ⟨_, rfl⟩
  have hH : gH g I R J AI AJ AR H := by rw [hHe]; exact hH
  have hS : va_S (gA g) s.heap H locs := by rw [hHe, hlo]; exact hS
  suffices hw : W p l e rmX6_reckonNextf s m ([.ref x, .ref ch, .int (iI sg)] : List Value).toArray below meth c H locs 0 0 (MQ below (gQi g (fun (z : Int) (w : gS) => R = w.2.1 ∧ J = w.2.2.1 ∧ AJ = w.2.2.2.2.1 ∧ AR = w.2.2.2.2.2 ∧ (gInv g gh R AR (w.1) (w.2.2.2.1)) ∧ (rF g I (w.1)) ∧ (-4 ≤ z ∧ z ≤ 0) ∧ (nIf gh AR nA I (w.1)) ∧ (nAf gh AR nA AI (w.2.2.2.1)) ∧ (rnP (I pA 2).toInt nr cc (∃ i, i < nb ∧ blw (AI (gh 0 ch)) (rfC gh AR I AI bA) sg i) (tbS (AI (gh 0 ch)) nb (rfC gh AR I AI bA) sg) z (rfC gh AR (w.1) (w.2.2.2.1) nA)) ∧ (z = 0 → stA (I pA 2).toInt cc (tbS (AI (gh 0 ch)) nb (rfC gh AR I AI bA) sg) cl (rfC gh AR (w.1) (w.2.2.2.1) nA) nr))) ([.ref x, .ref ch, .int (iI sg)] : List Value).toArray s 0 0 (gA g)) (F0 m 0 ls []) by
    rw [hHe, hlo] at hw; exact hw
  clear hHe hlo
  have rf : rF g I I := rF_r
  have hcl := cLt_of hcK
  have h10 := gR_x10 hv hx.1
  have nA39 : ∀ q, q < 16 → rob AR nA q ≠ gh 39 0 := fun q hq e9 => by have q9 := (isRA_o hx.2.2.2.2.2.2 hq).2.2.1; rw [e9, h10.2.2.1] at q9; exact absurd q9 (by decide)
  have nA39c : ∀ q, q < 16 → gh 0 (rob AR nA q) ≠ gh 0 (gh 39 0) := fun q hq => cells_ne hv h10.2.1 (isRA_o hx.2.2.2.2.2.2 hq).2.1 (nA39 q hq)
  have nA29 : ∀ q, q < 16 → gh 0 (rob AR nA q) ≠ gh 29 0 := fun q hq => ne_9 (cells_9 hv (isRA_o hx.2.2.2.2.2.2 hq).2.1) (ro29 hv hx.1) (by decide)
  have nAne : ∀ q p, q < 16 → p < 16 → q ≠ p → gh 0 (rob AR nA q) ≠ gh 0 (rob AR nA p) := fun q p hq hp h => cells_ne hv (isRA_o hx.2.2.2.2.2.2 hp).2.1 (isRA_o hx.2.2.2.2.2.2 hq).2.1 (fun e9 => h (hDn q p hq hp e9))
  have iX6 : ∀ w ∈ u_ws RX6 TX6 18, w ∈ wsX6_reckonNext := (by decide +kernel)
  have iX2 : ∀ w ∈ u_ws RX2 TX2 3, w ∈ wsX6_reckonNext := (by decide +kernel)
  have k23 : Cond.fieldLink RX6 23 (TX6 3).1 (TX6 3).2.1 (TX6 3).2.2.1 ∈ wsX6_reckonNext := List.mem_of_getElem? (i := 1) rfl
  have k122 : Cond.fieldLink RX6 122 (TX2 2).1 (TX2 2).2.1 (TX2 2).2.2.1 ∈ wsX6_reckonNext := List.mem_of_getElem? (i := 2) rfl
  have k42 : Cond.fieldLink RX6 42 (TX6 6).1 (TX6 6).2.1 (TX6 6).2.2.1 ∈ wsX6_reckonNext := List.mem_of_getElem? (i := 3) rfl
  have k38 : Cond.fieldLink RX6 38 (TX6 5).1 (TX6 5).2.1 (TX6 5).2.2.1 ∈ wsX6_reckonNext := List.mem_of_getElem? (i := 4) rfl
  have k60 : Cond.fieldLink RX6 60 (TX6 10).1 (TX6 10).2.1 (TX6 10).2.2.1 ∈ wsX6_reckonNext := List.mem_of_getElem? (i := 5) rfl
  have k96 : Cond.fieldLink RX6 96 (TX2 1).1 (TX2 1).2.1 (TX2 1).2.2.1 ∈ wsX6_reckonNext := List.mem_of_getElem? (i := 6) rfl
  have k30 : Cond.fieldLink RX6 30 (TX6 4).1 (TX6 4).2.1 (TX6 4).2.2.1 ∈ wsX6_reckonNext := List.mem_of_getElem? (i := 7) rfl
  have k113 : Cond.fieldLink RX6 113 (TX2 0).1 (TX2 0).2.1 (TX2 0).2.2.1 ∈ wsX6_reckonNext := List.mem_of_getElem? (i := 8) rfl
  refine lv_aload_n F.1 F.2.1 dX6_reckonNext_0 rfl (lv_at hl 0 rfl) ?_
  refine lv_aload_n F.1 F.2.1 dX6_reckonNext_1 rfl (lv_at hl 1 rfl) ?_
  refine lv_iload_n F.1 F.2.1 dX6_reckonNext_2 rfl (lv_at hl 2 rfl) ?_
  have b_1 := gI_x hv hx.1
  obtain ⟨b_2a, b_2b, b_2c, b_2d, b_2e, b_2f, b_2g, b_2h⟩ := gI_rows hv hch
  refine g_calli (g_runV (As := [.ref ch, .int (iI sg)]) (rest := []) (ci := 6) F hl.1 hH hS hz (c_X6_fallsBelowZerof l g gh pA bA nA nb I R J AI AJ AR x ch sg zsg hv hx hch (by omega) (by omega) (fun i hi => (hbg _ (by have := htb i hi; omega)).1)) (cwV 2 F.2.2.2.2.1 gX6_reckonNext_X6_fallsBelowZero rfl rfl rfl hdX6_fallsBelowZero ⟨Nat.le_of_ble_eq_true rfl, Nat.le_of_ble_eq_true rfl⟩) hx.1 (by decide) rfl rfl rfl (Nat.le_of_ble_eq_true rfl) dX6_reckonNext_3 ⟨Nat.zero_le _, Nat.zero_le _⟩) hS (fun v_9 I_3 R_4 J_5 AI_6 AJ_7 AR_8 H locs zv_9 hp_10 hH hS => ?_)
  dsimp only at hp_10
  obtain ⟨rfl, rfl, rfl, rfl, rfl, hv, q_11, q_12, qfb⟩ := hp_10
  have fM : nAf gh AR nA AI AI_6 := nAf_y q_12
  have fN : nIf gh AR nA I I := nIf_r
  refine z_if_eq (tgt := 12) F dX6_reckonNext_6 (by decide) zv_9 (fun c_13 => ?_) (fun c_13 => ?_)
  · have hz0 : v_9 = 0 := by omega
    refine z_iconst F dX6_reckonNext_12 ?_
    refine lv_istore_n (lv' := [(3, .int (iI 0)), (0, .ref x), (1, .ref ch), (2, .int (iI sg))]) F.1 F.2.1 dX6_reckonNext_13 rfl hl (by decide) rfl (fun ls hl => ?_)
    have cut_14_15 : ∀ (NN : Nat) (i : Int) (I_14 : gI) (AI_15 : gI) (H : Heap) (locs : List Loc) (ls : Array Slot), zr i → (gInv g gh R AR I_14 AI_15) → (rF g I I_14) → (0 ≤ i ∧ i ≤ 16) → (nIf gh AR nA I I_14) → (nAf gh AR nA AI AI_15) → (stA (I pA 2).toInt cc (tbS (AI (gh 0 ch)) nb (rfC gh AR I AI bA) sg) cl (rfC gh AR I_14 AI_15 nA) i.toNat) → (i ≤ (I pA 2).toInt) → (16 - i) < ((NN : Nat) : Int) → gH g I_14 R J AI_15 AJ AR H → va_S (gA g) s.heap H locs → lv_has ls 5 [(3, .int (iI i)), (0, .ref x), (1, .ref ch), (2, .int (iI sg))] → W p l e rmX6_reckonNextf s m ([.ref x, .ref ch, .int (iI sg)] : List Value).toArray below meth c H locs 0 0 (MQ below (gQi g (fun (z : Int) (w : gS) => R = w.2.1 ∧ J = w.2.2.1 ∧ AJ = w.2.2.2.2.1 ∧ AR = w.2.2.2.2.2 ∧ (gInv g gh R AR (w.1) (w.2.2.2.1)) ∧ (rF g I (w.1)) ∧ (-4 ≤ z ∧ z ≤ 0) ∧ (nIf gh AR nA I (w.1)) ∧ (nAf gh AR nA AI (w.2.2.2.1)) ∧ (rnP (I pA 2).toInt nr cc (∃ i, i < nb ∧ blw (AI (gh 0 ch)) (rfC gh AR I AI bA) sg i) (tbS (AI (gh 0 ch)) nb (rfC gh AR I AI bA) sg) z (rfC gh AR (w.1) (w.2.2.2.1) nA)) ∧ (z = 0 → stA (I pA 2).toInt cc (tbS (AI (gh 0 ch)) nb (rfC gh AR I AI bA) sg) cl (rfC gh AR (w.1) (w.2.2.2.1) nA) nr))) ([.ref x, .ref ch, .int (iI sg)] : List Value).toArray s 0 0 (gA g)) (F0 m 14 ls []) := by
      intro NN14
      induction NN14 with
      | zero =>
        intro i I_14 AI_15 H locs ls zi hv rf hi fN fM hst hi2 hm14 hH hS hl
        exact absurd hm14 (by omega)
      | succ NN14 ih14 =>
        intro i I_14 AI_15 H locs ls zi hv rf hi fN fM hst hi2 hm14 hH hS hl
        have hCH : AI_15 (gh 0 ch) = AI (gh 0 ch) := nAf_o fM hv hx.1 hch hx.2.2.2.2.2.2 hc39 hchn
        have hIc : I_14 ch = I ch := fN ch hc39 hchn
        have hnbN : (I_14 ch 3).toInt = (nb : Int) := by rw [hIc]; exact hnb
        have hpI : I_14 pA = I pA := rf pA 2 hx.2.2.1 (by decide)
        have hp1 : (I_14 pA 1).toInt = (nr : Int) := by rw [hpI]; exact hlen
        have hp2 : (I_14 pA 2).toInt = (I pA 2).toInt := by rw [hpI]
        refine lv_iload_n F.1 F.2.1 dX6_reckonNext_14 rfl (lv_at hl 0 rfl) ?_
        refine lv_aload_n F.1 F.2.1 dX6_reckonNext_15 rfl (lv_at hl 1 rfl) ?_
        refine g_getR (ci := 6) (k := 3) F hH rfl (by decide) iX6 hx.1 (by decide) rfl (b := pA) hx.2.1 k23 dX6_reckonNext_16 ?_
        refine g_getI (ci := 2) (k := 2) F hH rfl (by decide) iX2 hx.2.2.1 (by decide) rfl k122 dX6_reckonNext_19 ?_
        have b_17 := gI_plan hv hx.2.2.1
        refine z_icmp_ge (tgt := 63) F dX6_reckonNext_22 (by decide) zi (zr_t _) (fun c_18 => ?_) (fun c_18 => ?_)
        · refine lv_aload_n F.1 F.2.1 dX6_reckonNext_63 rfl (lv_at hl 1 rfl) ?_
          refine g_getR (ci := 6) (k := 3) F hH rfl (by decide) iX6 hx.1 (by decide) rfl (b := pA) hx.2.1 k23 dX6_reckonNext_64 ?_
          refine g_getI (ci := 2) (k := 2) F hH rfl (by decide) iX2 hx.2.2.1 (by decide) rfl k122 dX6_reckonNext_67 ?_
          refine lv_istore_n (lv' := [(3, .int (iI ((I_14 pA 2).toInt))), (0, .ref x), (1, .ref ch), (2, .int (iI sg))]) F.1 F.2.1 dX6_reckonNext_70 rfl hl (by decide) rfl (fun ls hl => ?_)
          have cut_71_20 : ∀ (NN : Nat) (j : Int) (I_19 : gI) (AI_20 : gI) (H : Heap) (locs : List Loc) (ls : Array Slot), zr j → (gInv g gh R AR I_19 AI_20) → (rF g I I_19) → (0 ≤ j ∧ j ≤ 16) → (nIf gh AR nA I I_19) → (nAf gh AR nA AI AI_20) → (stA (I pA 2).toInt cc (tbS (AI (gh 0 ch)) nb (rfC gh AR I AI bA) sg) cl (rfC gh AR I_19 AI_20 nA) j.toNat) → ((I pA 2).toInt ≤ j ∧ j ≤ (nr : Int)) → (16 - j) < ((NN : Nat) : Int) → gH g I_19 R J AI_20 AJ AR H → va_S (gA g) s.heap H locs → lv_has ls 5 [(3, .int (iI j)), (0, .ref x), (1, .ref ch), (2, .int (iI sg))] → W p l e rmX6_reckonNextf s m ([.ref x, .ref ch, .int (iI sg)] : List Value).toArray below meth c H locs 0 0 (MQ below (gQi g (fun (z : Int) (w : gS) => R = w.2.1 ∧ J = w.2.2.1 ∧ AJ = w.2.2.2.2.1 ∧ AR = w.2.2.2.2.2 ∧ (gInv g gh R AR (w.1) (w.2.2.2.1)) ∧ (rF g I (w.1)) ∧ (-4 ≤ z ∧ z ≤ 0) ∧ (nIf gh AR nA I (w.1)) ∧ (nAf gh AR nA AI (w.2.2.2.1)) ∧ (rnP (I pA 2).toInt nr cc (∃ i, i < nb ∧ blw (AI (gh 0 ch)) (rfC gh AR I AI bA) sg i) (tbS (AI (gh 0 ch)) nb (rfC gh AR I AI bA) sg) z (rfC gh AR (w.1) (w.2.2.2.1) nA)) ∧ (z = 0 → stA (I pA 2).toInt cc (tbS (AI (gh 0 ch)) nb (rfC gh AR I AI bA) sg) cl (rfC gh AR (w.1) (w.2.2.2.1) nA) nr))) ([.ref x, .ref ch, .int (iI sg)] : List Value).toArray s 0 0 (gA g)) (F0 m 71 ls []) := by
            intro NN71
            induction NN71 with
            | zero =>
              intro j I_19 AI_20 H locs ls zj hv rf hj fN fM hst hj2 hm71 hH hS hl
              exact absurd hm71 (by omega)
            | succ NN71 ih71 =>
              intro j I_19 AI_20 H locs ls zj hv rf hj fN fM hst hj2 hm71 hH hS hl
              have hCH : AI_20 (gh 0 ch) = AI (gh 0 ch) := nAf_o fM hv hx.1 hch hx.2.2.2.2.2.2 hc39 hchn
              have hIc : I_19 ch = I ch := fN ch hc39 hchn
              have hnbN : (I_19 ch 3).toInt = (nb : Int) := by rw [hIc]; exact hnb
              have hpI : I_19 pA = I pA := rf pA 2 hx.2.2.1 (by decide)
              have hp1 : (I_19 pA 1).toInt = (nr : Int) := by rw [hpI]; exact hlen
              have hp2 : (I_19 pA 2).toInt = (I pA 2).toInt := by rw [hpI]
              refine lv_iload_n F.1 F.2.1 dX6_reckonNext_71 rfl (lv_at hl 0 rfl) ?_
              refine lv_aload_n F.1 F.2.1 dX6_reckonNext_72 rfl (lv_at hl 1 rfl) ?_
              refine g_getR (ci := 6) (k := 3) F hH rfl (by decide) iX6 hx.1 (by decide) rfl (b := pA) hx.2.1 k23 dX6_reckonNext_73 ?_
              refine g_getI (ci := 2) (k := 1) F hH rfl (by decide) iX2 hx.2.2.1 (by decide) rfl k96 dX6_reckonNext_76 ?_
              have b_22 := gI_plan hv hx.2.2.1
              refine z_icmp_ge (tgt := 124) F dX6_reckonNext_79 (by decide) zj (zr_t _) (fun c_23 => ?_) (fun c_23 => ?_)
              · refine z_iconst F dX6_reckonNext_124 ?_
                exact g_iret F hr hlk hH hS hz ⟨by decide, by decide⟩ ⟨rfl, rfl, rfl, rfl, hv, rf, by first | omega | rfl | (dsimp only; omega), fN, fM, Or.inr ⟨tIz_0 qfb hz0, j.toNat, by omega, fun q hq => (hst q hq).1, Or.inl ⟨by omega, rfl⟩⟩, fun h9 => by (try dsimp only at h9); first | omega | (rw [show nr = j.toNat by omega]; exact hst)⟩ dX6_reckonNext_125
              · refine lv_aload_n F.1 F.2.1 dX6_reckonNext_82 rfl (lv_at hl 1 rfl) ?_
                obtain ⟨r_24a, r_24b⟩ := gR_x4 hv hx.1
                refine g_getR (ci := 6) (k := 4) F hH rfl (by decide) iX6 hx.1 (by decide) rfl (b := gh 23 0) r_24a k30 dX6_reckonNext_83 ?_
                refine lv_aload_n F.1 F.2.1 dX6_reckonNext_86 rfl (lv_at hl 1 rfl) ?_
                refine g_getR (ci := 6) (k := 3) F hH rfl (by decide) iX6 hx.1 (by decide) rfl (b := pA) hx.2.1 k23 dX6_reckonNext_87 ?_
                obtain ⟨r_25a, r_25b⟩ := gR_lines hv hx.2.2.1
                refine g_getR (ci := 2) (k := 0) F hH rfl (by decide) iX2 hx.2.2.1 (by decide) rfl (b := gh 6 pA) r_25a k113 dX6_reckonNext_90 ?_
                refine lv_iload_n F.1 F.2.1 dX6_reckonNext_93 rfl (lv_at hl 0 rfl) ?_
                have hx94 : 0 ≤ j ∧ j < ((16 : Nat) : Int) ∧ j ≤ 2147483647 := ⟨by omega, by omega, by omega⟩
                obtain ⟨y_26, y_26a, y_26b, y_26c, y_26d⟩ := gA_lines hv hx.2.2.1 (z := j) (by omega) (by omega)
                refine g_aldL F hH r_25b hx94.1 hx94.2.1 hx94.2.2 (b := y_26) y_26a dX6_reckonNext_94 ?_
                refine lv_aload_n F.1 F.2.1 dX6_reckonNext_95 rfl (lv_at hl 1 rfl) ?_
                refine g_getR (ci := 6) (k := 6) F hH rfl (by decide) iX6 hx.1 (by decide) rfl (b := nA) hx.2.2.2.2.2.1 k42 dX6_reckonNext_96 ?_
                refine lv_aload_n F.1 F.2.1 dX6_reckonNext_99 rfl (lv_at hl 1 rfl) ?_
                refine g_getR (ci := 6) (k := 6) F hH rfl (by decide) iX6 hx.1 (by decide) rfl (b := nA) hx.2.2.2.2.2.1 k42 dX6_reckonNext_100 ?_
                refine lv_iload_n F.1 F.2.1 dX6_reckonNext_103 rfl (lv_at hl 0 rfl) ?_
                have hx104 : 0 ≤ j ∧ j < ((16 : Nat) : Int) ∧ j ≤ 2147483647 := ⟨by omega, by omega, by omega⟩
                obtain ⟨y_27, y_27a, y_27b, y_27c, y_27d, y_27e⟩ := hx.2.2.2.2.2.2.2 (j).toNat (by omega)
                refine g_aldR F hH hx.2.2.2.2.2.2.1 hx104.1 hx104.2.1 hx104.2.2 (b := y_27) y_27a dX6_reckonNext_104 ?_
                have r1 : rob AR nA j.toNat = y_27 := rob_e y_27a
                have rl : rob AR (gh 6 pA) j.toNat = y_26 := rob_e y_26a
                have hlI : I_19 y_26 = I y_26 := fN _ (gO_ne y_26b (gR_x10 hv hx.1).2.1 (by decide)) (fun r hr e9 => gO_ne (isRA_o hx.2.2.2.2.2.2 hr).2.1 y_26b (by decide) e9)
                have hlA : AI_20 (gh 3 y_26) = AI (gh 3 y_26) := nAf_ln fM hv hx.1 y_26b hx.2.2.2.2.2.2
                have hlc9 : lnC (I_19 y_26) (AI_20 (gh 3 y_26)) (cc j.toNat) := lnC_m (by have q9 := hln j.toNat (by omega); rw [rl] at q9; exact q9) hlI hlA
                have hcj := hcK j.toNat (by omega) (by omega)
                have hno9 : ∀ q, q < j.toNat → rob AR nA q ≠ y_27 := fun q hq e9 => absurd (hDn q j.toNat (by omega) (by omega) (by rw [e9, r1])) (by omega)
                have b_28 := gI_line hv y_26b
                unfold vLineI at b_28
                obtain ⟨b_29a, b_29b, b_29c, b_29d, b_29e, b_29f, b_29g, b_29h⟩ := gI_rows hv y_27b
                refine g_calli (g_runV (As := [.ref y_26, .ref nA, .ref y_27]) (rest := []) (ci := 3) F hl.1 hH hS hz (c_X3_reckonf l g gh (cc j.toNat) j.toNat cl I_19 R J AI_20 AJ AR (gh 23 0) y_26 nA y_27 hv r_24b y_26b y_27b (by omega) hx.2.2.2.2.2.2 (by omega) hlc9 hcj.1 (by omega) (fun q hq => (hst q hq).2) hno9) (cwV 3 F.2.2.2.2.1 gX6_reckonNext_X3_reckon rfl rfl rfl hdX3_reckon ⟨Nat.le_of_ble_eq_true rfl, Nat.le_of_ble_eq_true rfl⟩) r_24b (by decide) rfl rfl rfl (Nat.le_of_ble_eq_true rfl) dX6_reckonNext_105 ⟨Nat.zero_le _, Nat.zero_le _⟩) hS (fun v_36 I_30 R_31 J_32 AI_33 AJ_34 AR_35 H locs zv_36 hp_37 hH hS => ?_)
                dsimp only at hp_37
                obtain ⟨rfl, rfl, rfl, rfl, hv, rfq, q_38, kIq, kAq, qvw⟩ := hp_37
                have rf := rF_t rf rfq
                have u_39p : I_30 pA = I pA := rf pA 2 hx.2.2.1 (by decide)
                have u_39p1 : (I_30 pA 1).toInt = (I pA 1).toInt := by rw [u_39p]
                have u_39p2 : (I_30 pA 2).toInt = (I pA 2).toInt := by rw [u_39p]
                have hfi : ∀ b, b ≠ rob AR nA j.toNat → I_30 b = I_19 b := by rw [r1]; exact kIq
                have hfa : kA gh (rob AR nA j.toNat) AI_20 AI_33 := by rw [r1]; exact kAq
                have fN := nIf_t fN (nIf_n (nA := nA) (by omega) hfi)
                have fM := nAf_t fM (nAf_k (nA := nA) (by omega) hfa)
                have heF : ∀ q, q < j.toNat → (rfC gh AR I_30 AI_33 nA) q = (rfC gh AR I_19 AI_20 nA) q := fun q hq => rfC_k (hfi _ (fun e9 => absurd (hDn q j.toNat (by omega) (by omega) e9) (by omega))) (kA_x hfa hv (gR_x4 hv hx.1).2 (isRA_o hx.2.2.2.2.2.2 (by omega)).2.1 (isRA_o hx.2.2.2.2.2.2 (by omega)).2.1 (fun e9 => absurd (hDn q j.toNat (by omega) (by omega) e9) (by omega)))
                have hst : stA (I pA 2).toInt cc (tbS (AI (gh 0 ch)) nb (rfC gh AR I AI bA) sg) cl (rfC gh AR I_30 AI_33 nA) j.toNat := st_up hcl (by omega) heF hst
                have qvw9 := st_vc hcj.1 heF qvw
                have hCH : AI_33 (gh 0 ch) = AI (gh 0 ch) := nAf_o fM hv hx.1 hch hx.2.2.2.2.2.2 hc39 hchn
                have hIc : I_30 ch = I ch := fN ch hc39 hchn
                have hnbN : (I_30 ch 3).toInt = (nb : Int) := by rw [hIc]; exact hnb
                have hpI : I_30 pA = I pA := rf pA 2 hx.2.2.1 (by decide)
                have hp1 : (I_30 pA 1).toInt = (nr : Int) := by rw [hpI]; exact hlen
                have hp2 : (I_30 pA 2).toInt = (I pA 2).toInt := by rw [hpI]
                refine lv_istore (lv' := [(4, .int (iI v_36)), (3, .int (iI j)), (0, .ref x), (1, .ref ch), (2, .int (iI sg))]) F.1 F.2.1 dX6_reckonNext_108 hl (by decide) rfl (fun ls hl => ?_)
                refine lv_iload F.1 F.2.1 dX6_reckonNext_110 (lv_at hl 0 rfl) ?_
                refine z_if_eq (tgt := 118) F dX6_reckonNext_112 (by decide) zv_36 (fun c_40 => ?_) (fun c_40 => ?_)
                · have eFn : (rfC gh AR I_30 AI_33 nA) j.toNat = ((I_30 y_27 3).toInt.toNat, AI_33 (gh 0 y_27)) := by unfold rfC; rw [r1]
                  have hst9 := st_vw hst (by omega) hcj eFn (by rw [show (0 : Int) = v_36 by omega]; exact qvw9)
                  rw [show j.toNat + 1 = (j + 1).toNat by omega] at hst9
                  refine z_iinc (lv' := [(3, .int (iI (j + 1))), (4, .int (iI v_36)), (0, .ref x), (1, .ref ch), (2, .int (iI sg))]) F dX6_reckonNext_118 hl (k := 1) rfl (by decide) rfl (fun ls hl => ?_)
                  refine z_goto (tgt := 71) F dX6_reckonNext_121 (by decide) ?_
                  exact ih71 (j + 1) I_30 AI_33 H locs ls ⟨by omega, by omega⟩ hv rf (by omega) fN fM hst9 (by omega) (by omega) hH hS (lv_sub hl [0, 2, 3, 4] rfl)
                · refine lv_iload F.1 F.2.1 dX6_reckonNext_115 (lv_at hl 0 rfl) ?_
                  exact g_iret F hr hlk hH hS hz zv_36 ⟨rfl, rfl, rfl, rfl, hv, rf, by first | omega | rfl | (dsimp only; omega), fN, fM, Or.inr ⟨tIz_0 qfb hz0, j.toNat, by omega, fun q hq => (hst q hq).1, Or.inr ⟨by omega, by unfold stF; rw [if_neg (by omega)]; exact ⟨by omega, _, _, qvw9⟩⟩⟩, fun h9 => by (try dsimp only at h9); first | omega | (rw [show nr = j.toNat by omega]; exact hst)⟩ dX6_reckonNext_117
          exact cut_71_20 (((16 - ((I_14 pA 2).toInt)) + 1 : Int).toNat) ((I_14 pA 2).toInt) I_14 AI_15 H locs ls (zr_t _) hv rf (by omega) fN fM (by rw [show (I_14 pA 2).toInt.toNat = i.toNat by omega]; exact hst) (by omega) (by omega) hH hS (lv_sub hl [0, 1, 2, 3] rfl)
        · refine lv_aload_n F.1 F.2.1 dX6_reckonNext_25 rfl (lv_at hl 1 rfl) ?_
          refine lv_aload_n F.1 F.2.1 dX6_reckonNext_26 rfl (lv_at hl 2 rfl) ?_
          refine lv_iload_n F.1 F.2.1 dX6_reckonNext_27 rfl (lv_at hl 0 rfl) ?_
          have b_41 := gI_x hv hx.1
          obtain ⟨b_42a, b_42b, b_42c, b_42d, b_42e, b_42f, b_42g, b_42h⟩ := gI_rows hv hch
          refine g_callv (g_runV (As := [.ref ch, .int (iI i)]) (rest := []) (ci := 6) F hl.1 hH hS hz (c_X6_pickChangesf l g gh pA bA nA nb I_14 R J AI_15 AJ AR x ch i zi hv hx hch (by omega) hnbN (by rw [hCH]; exact hbt) hc39 (by omega)) (cwV 2 F.2.2.2.2.1 gX6_reckonNext_X6_pickChanges rfl rfl rfl hdX6_pickChanges ⟨Nat.le_of_ble_eq_true rfl, Nat.le_of_ble_eq_true rfl⟩) hx.1 (by decide) rfl rfl rfl (Nat.le_of_ble_eq_true rfl) dX6_reckonNext_28 ⟨Nat.zero_le _, Nat.zero_le _⟩) hS (fun I_43 R_44 J_45 AI_46 AJ_47 AR_48 H locs hp_49 hH hS => ?_)
          dsimp only at hp_49
          obtain ⟨rfl, rfl, rfl, rfl, hv, rfq, qT9, qM9, qB9⟩ := hp_49
          have rf := rF_t rf rfq
          have u_50p : I_43 pA = I pA := rf pA 2 hx.2.2.1 (by decide)
          have u_50p1 : (I_43 pA 1).toInt = (I pA 1).toInt := by rw [u_50p]
          have u_50p2 : (I_43 pA 2).toInt = (I pA 2).toInt := by rw [u_50p]
          rw [hCH] at qB9
          have fN := nIf_t fN (nIf_c (nA := nA) qT9)
          have fM := nAf_t fM (nAf_c (nA := nA) qM9)
          have heF : ∀ q, q < i.toNat → (rfC gh AR I_43 AI_46 nA) q = (rfC gh AR I_14 AI_15 nA) q := fun q hq => rfC_k (qT9 _ (nA39 q (by omega))) (qM9 _ (nA39c q (by omega)) (nA29 q (by omega)))
          have hst : stA (I pA 2).toInt cc (tbS (AI (gh 0 ch)) nb (rfC gh AR I AI bA) sg) cl (rfC gh AR I_43 AI_46 nA) i.toNat := st_up hcl (by omega) heF hst
          have hCH : AI_46 (gh 0 ch) = AI (gh 0 ch) := nAf_o fM hv hx.1 hch hx.2.2.2.2.2.2 hc39 hchn
          have hIc : I_43 ch = I ch := fN ch hc39 hchn
          have hnbN : (I_43 ch 3).toInt = (nb : Int) := by rw [hIc]; exact hnb
          have hpI : I_43 pA = I pA := rf pA 2 hx.2.2.1 (by decide)
          have hp1 : (I_43 pA 1).toInt = (nr : Int) := by rw [hpI]; exact hlen
          have hp2 : (I_43 pA 2).toInt = (I pA 2).toInt := by rw [hpI]
          refine lv_aload_n F.1 F.2.1 dX6_reckonNext_31 rfl (lv_at hl 1 rfl) ?_
          refine g_getR (ci := 6) (k := 6) F hH rfl (by decide) iX6 hx.1 (by decide) rfl (b := nA) hx.2.2.2.2.2.1 k42 dX6_reckonNext_32 ?_
          refine lv_iload_n F.1 F.2.1 dX6_reckonNext_35 rfl (lv_at hl 0 rfl) ?_
          have hx36 : 0 ≤ i ∧ i < ((16 : Nat) : Int) ∧ i ≤ 2147483647 := ⟨by omega, by omega, by omega⟩
          obtain ⟨y_51, y_51a, y_51b, y_51c, y_51d, y_51e⟩ := hx.2.2.2.2.2.2.2 (i).toNat (by omega)
          refine g_aldR F hH hx.2.2.2.2.2.2.1 hx36.1 hx36.2.1 hx36.2.2 (b := y_51) y_51a dX6_reckonNext_36 ?_
          refine lv_aload_n F.1 F.2.1 dX6_reckonNext_37 rfl (lv_at hl 1 rfl) ?_
          refine g_getR (ci := 6) (k := 5) F hH rfl (by decide) iX6 hx.1 (by decide) rfl (b := bA) hx.2.2.2.1 k38 dX6_reckonNext_38 ?_
          refine lv_iload_n F.1 F.2.1 dX6_reckonNext_41 rfl (lv_at hl 0 rfl) ?_
          have hx42 : 0 ≤ i ∧ i < ((16 : Nat) : Int) ∧ i ≤ 2147483647 := ⟨by omega, by omega, by omega⟩
          obtain ⟨y_52, y_52a, y_52b, y_52c, y_52d, y_52e⟩ := hx.2.2.2.2.1.2 (i).toNat (by omega)
          refine g_aldR F hH hx.2.2.2.2.1.1 hx42.1 hx42.2.1 hx42.2.2 (b := y_52) y_52a dX6_reckonNext_42 ?_
          refine lv_aload_n F.1 F.2.1 dX6_reckonNext_43 rfl (lv_at hl 1 rfl) ?_
          obtain ⟨r_53a, r_53b, r_53c, r_53d⟩ := gR_x10 hv hx.1
          refine g_getR (ci := 6) (k := 10) F hH rfl (by decide) iX6 hx.1 (by decide) rfl (b := gh 39 0) r_53a k60 dX6_reckonNext_44 ?_
          refine lv_iload_n F.1 F.2.1 dX6_reckonNext_47 rfl (lv_at hl 3 rfl) ?_
          have r1 : rob AR nA i.toNat = y_51 := rob_e y_51a
          have r2 : rob AR bA i.toNat = y_52 := rob_e y_52a
          have hy12 : y_52 ≠ y_51 := by rw [← r1, ← r2]; exact hDx i.toNat i.toNat (by omega) (by omega)
          have hy39 : y_52 ≠ gh 39 0 := fun e9 => by have q9 := y_52c; rw [e9, (gR_x10 hv hx.1).2.2.1] at q9; exact absurd q9 (by decide)
          have hyn : ∀ r, r < 16 → rob AR nA r ≠ y_52 := fun r hr e9 => hDx i.toNat r (by omega) hr (by rw [e9, r2])
          have hc1 : gh 39 0 ≠ y_51 := by rw [← r1]; exact (nA39 i.toNat (by omega)).symm
          have hy2I : I_43 y_52 = I y_52 := fN _ hy39 hyn
          have hy2A : AI_46 (gh 0 y_52) = AI (gh 0 y_52) := nAf_o fM hv hx.1 y_52b hx.2.2.2.2.2.2 hy39 hyn
          have hbi := hbg i.toNat (by omega)
          have eFb : (rfC gh AR I AI bA) i.toNat = ((I y_52 3).toInt.toNat, AI (gh 0 y_52)) := by unfold rfC; rw [r2]
          have hnx9 : (I_43 y_52 3).toInt = (((I y_52 3).toInt.toNat : Nat) : Int) := by rw [hy2I]; have q9 := (gI_rows hv y_52b).2.2.1; rw [hy2I] at q9; omega
          have hok9 : okB (AI_46 (gh 0 y_52)) (I y_52 3).toInt.toNat := by rw [hy2A]; have q9 := hbi.1; rw [eFb] at q9; exact q9
          have hSS9 : ∀ t, (tbS (AI (gh 0 ch)) nb (rfC gh AR I AI bA) sg) i.toNat t = bS (AI_46 (gh 0 y_52)) (I y_52 3).toInt.toNat t + iI sg * bS (AI_46 (gh 0 (gh 39 0))) (I_43 (gh 39 0) 3).toInt.toNat t := fun t => by
            rw [hy2A, bS_B qB9.1]; unfold tbS; rw [eFb, show ((i.toNat : Nat) : Int) = i by omega]
          obtain ⟨b_54a, b_54b, b_54c, b_54d, b_54e, b_54f, b_54g, b_54h⟩ := gI_rows hv y_51b
          obtain ⟨b_55a, b_55b, b_55c, b_55d, b_55e, b_55f, b_55g, b_55h⟩ := gI_rows hv y_52b
          obtain ⟨b_56a, b_56b, b_56c, b_56d, b_56e, b_56f, b_56g, b_56h⟩ := gI_rows hv r_53b
          refine g_calli (g_runV (As := [.ref y_52, .ref (gh 39 0), .int (iI sg)]) (rest := []) (ci := 4) F hl.1 hH hS hz (c_X4_gatherf l g gh ((I y_52 3).toInt.toNat) ((I_43 (gh 39 0) 3).toInt.toNat) ((tbS (AI (gh 0 ch)) nb (rfC gh AR I AI bA) sg) i.toNat) I_43 R J AI_46 AJ AR y_51 y_52 (gh 39 0) sg zsg hv y_51b y_52b r_53b (by omega) (by omega) hy12 hc1 h10.2.2.2 hnx9 (by omega) hok9 (okB_of qB9.1) hSS9) (cwV 3 F.2.2.2.2.1 gX6_reckonNext_X4_gather rfl rfl rfl hdX4_gather ⟨Nat.le_of_ble_eq_true rfl, Nat.le_of_ble_eq_true rfl⟩) y_51b (by decide) rfl rfl rfl (Nat.le_of_ble_eq_true rfl) dX6_reckonNext_48 ⟨Nat.zero_le _, Nat.zero_le _⟩) hS (fun v_63 I_57 R_58 J_59 AI_60 AJ_61 AR_62 H locs zv_63 hp_64 hH hS => ?_)
          dsimp only at hp_64
          obtain ⟨rfl, rfl, rfl, rfl, hv, q_65, q_66, qga⟩ := hp_64
          have rf := rF_t rf (rF_o y_51b q_65)
          have u_67p : I_57 pA = I pA := rf pA 2 hx.2.2.1 (by decide)
          have u_67p1 : (I_57 pA 1).toInt = (I pA 1).toInt := by rw [u_67p]
          have u_67p2 : (I_57 pA 2).toInt = (I pA 2).toInt := by rw [u_67p]
          have hfi : ∀ b, b ≠ rob AR nA i.toNat → I_57 b = I_43 b := by rw [r1]; exact q_65
          have hfa : ∀ b, b ≠ gh 0 (rob AR nA i.toNat) → AI_60 b = AI_46 b := by rw [r1]; exact q_66
          have fN := nIf_t fN (nIf_n (nA := nA) (by omega) hfi)
          have fM := nAf_t fM (nAf_n (nA := nA) (by omega) hfa)
          have heF : ∀ q, q < i.toNat → (rfC gh AR I_57 AI_60 nA) q = (rfC gh AR I_43 AI_46 nA) q := fun q hq => rfC_k (hfi _ (fun e9 => absurd (hDn q i.toNat (by omega) (by omega) e9) (by omega))) (hfa _ (nAne q i.toNat (by omega) (by omega) (by omega)))
          have hst : stA (I pA 2).toInt cc (tbS (AI (gh 0 ch)) nb (rfC gh AR I AI bA) sg) cl (rfC gh AR I_57 AI_60 nA) i.toNat := st_up hcl (by omega) heF hst
          have hl120 := (gI_rows hv y_51b).2.2.2.1
          rw [y_51c] at qga hl120
          have hl0 := (gI_rows hv y_51b).2.2.1
          have hCH : AI_60 (gh 0 ch) = AI (gh 0 ch) := nAf_o fM hv hx.1 hch hx.2.2.2.2.2.2 hc39 hchn
          have hIc : I_57 ch = I ch := fN ch hc39 hchn
          have hnbN : (I_57 ch 3).toInt = (nb : Int) := by rw [hIc]; exact hnb
          have hpI : I_57 pA = I pA := rf pA 2 hx.2.2.1 (by decide)
          have hp1 : (I_57 pA 1).toInt = (nr : Int) := by rw [hpI]; exact hlen
          have hp2 : (I_57 pA 2).toInt = (I pA 2).toInt := by rw [hpI]
          refine z_if_ne (tgt := 57) F dX6_reckonNext_51 (by decide) zv_63 (fun c_68 => ?_) (fun c_68 => ?_)
          · have hga9 := (qga.resolve_right (fun h => absurd h.1 (by omega))).2
            have eFn : (rfC gh AR I_57 AI_60 nA) i.toNat = ((I_57 y_51 3).toInt.toNat, AI_60 (gh 0 y_51)) := by unfold rfC; rw [r1]
            have hst9 := st_tb hst (by omega) eFn hbi.2.2 hbz hga9 (by omega)
            rw [show i.toNat + 1 = (i + 1).toNat by omega] at hst9
            refine z_iinc (lv' := [(3, .int (iI (i + 1))), (0, .ref x), (1, .ref ch), (2, .int (iI sg))]) F dX6_reckonNext_57 hl (k := 0) rfl (by decide) rfl (fun ls hl => ?_)
            refine z_goto (tgt := 14) F dX6_reckonNext_60 (by decide) ?_
            exact ih14 (i + 1) I_57 AI_60 H locs ls ⟨by omega, by omega⟩ hv rf (by omega) fN fM hst9 (by omega) (by omega) hH hS (lv_sub hl [0, 1, 2, 3] rfl)
          · refine z_bipush F dX6_reckonNext_54 (by decide) ?_
            exact g_iret F hr hlk hH hS hz ⟨by decide, by decide⟩ ⟨rfl, rfl, rfl, rfl, hv, rf, by first | omega | rfl | (dsimp only; omega), fN, fM, Or.inr ⟨tIz_0 qfb hz0, i.toNat, by omega, fun q hq => (hst q hq).1, Or.inr ⟨by omega, by unfold stF; rw [if_pos (by omega)]; exact ⟨rfl, (qga.resolve_left (fun h => absurd h.1 (by omega))).2⟩⟩⟩, fun h9 => by (try dsimp only at h9); first | omega | (rw [show nr = j.toNat by omega]; exact hst)⟩ dX6_reckonNext_56
    exact cut_14_15 (((16 - 0) + 1 : Int).toNat) 0 I AI_6 H locs ls ⟨by decide, by decide⟩ hv rf (by omega) fN fM st_0 (by omega) (by omega) hH hS (lv_sub hl [0, 1, 2, 3] rfl)
  · refine z_bipush F dX6_reckonNext_9 (by decide) ?_
    exact g_iret F hr hlk hH hS hz ⟨by decide, by decide⟩ ⟨rfl, rfl, rfl, rfl, hv, rf, by first | omega | rfl | (dsimp only; omega), nIf_r, fM, Or.inl ⟨tIz_1 qfb (by omega), rfl⟩, fun h9 => by (try dsimp only at h9); first | omega | (rw [show nr = j.toNat by omega]; exact hst)⟩ dX6_reckonNext_11
