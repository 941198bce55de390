section
def rmX6_reckonNextf : Room := { frames := 6, cells := 0, slots := 0, locals := 190 }
set_option maxHeartbeats 4000000 in
set_option maxRecDepth 100000 in
/-- all relations as they were behind the changes -/
theorem c_X6_reckonNextf (l : Launch) (g : gG) (gh : gGh) (pA bA nA : Nat) (nb nr : Nat) (cc : Nat → LC) (cl : Nat → Int) (I : gI) (R : gR) (J : gJ) (AI : gI) (AJ : gJ) (AR : gR) (x : Nat) (ch : Nat) (sg : Int) (zsg : zr sg) (hv : gInv g gh R AR I AI) (hx : xS g gh R AR x pA bA nA) (hch : gO g ch 4) (h5 : gh 2 ch = 5) (hnb : (I ch 3).toInt = (nb : Int)) (hbt : btO (AI (gh 0 ch)) nb) (hc39 : ch ≠ gh 39 0) (hc40 : gh 1 ch = 40) (hlen : (I pA 1).toInt = (nr : Int)) (htb2 : 0 ≤ (I pA 2).toInt ∧ (I pA 2).toInt ≤ (nr : Int) ∧ nr ≤ 16) (hln : ∀ r, r < nr → lnC (I (rob AR (gh 6 pA) r)) (AI (gh 3 (rob AR (gh 6 pA) r))) (cc r)) (hcK : ∀ r : Nat, r < nr → (I pA 2).toInt ≤ (r : Int) → cOK (cc r) r cl ∧ cZ (cc r) r cl) (hbg : ∀ r, r < nr → bgOK (rfC gh AR I AI bA) cl r) (hbz : btZ cl (AI (gh 0 ch)) nb) (htb : ∀ i, i < nb → 0 ≤ ((AI (gh 0 ch)) (6 * i)).toInt ∧ ((AI (gh 0 ch)) (6 * i)).toInt < (I pA 2).toInt) (hDn : rsD AR nA 16) (hDx : rsX AR bA 16 nA 16) (hchn : ∀ r, r < 16 → rob AR nA r ≠ ch) : gMet l g yX6_reckonNext wsX6_reckonNext rmX6_reckonNextf [.ref x, .ref ch, .int (iI sg)] (I, R, J, AI, AJ, AR) (gQi g (fun (z : Int) (w : gS) => R = w.2.1 ∧ J = w.2.2.1 ∧ AJ = w.2.2.2.2.1 ∧ AR = w.2.2.2.2.2 ∧ (gInv g gh R AR (w.1) (w.2.2.2.1)) ∧ (rF g I (w.1)) ∧ (-4 ≤ z ∧ z ≤ 0) ∧ (nIf gh AR nA I (w.1)) ∧ (nAf gh AR nA AI (w.2.2.2.1)) ∧ (rnP (I pA 2).toInt nr cc (∃ i, i < nb ∧ blw (AI (gh 0 ch)) (rfC gh AR I AI bA) sg i) (tbS (AI (gh 0 ch)) nb (rfC gh AR I AI bA) sg) z (rfC gh AR (w.1) (w.2.2.2.1) nA)) ∧ (z = 0 → stA (I pA 2).toInt cc (tbS (AI (gh 0 ch)) nb (rfC gh AR I AI bA) sg) cl (rfC gh AR (w.1) (w.2.2.2.1) nA) nr))) := by
  refine gStart (cc := cX6_reckonNext) (maxL := 5) (ret := (some (.int))) (by decide) rfl (Nat.le_of_ble_eq_true rfl) ?_
  intro p e s m below meth c ls F hr hlk hH hz hS hl
  have hl : lv_has ls 5 [(0, .ref x), (1, .ref ch), (2, .int (iI sg))] := hl
  have hS : va_S (gA g) s.heap s.heap [] := hS
  obtain ⟨H, hHe⟩ : ∃ H : Heap, H = s.heap := ⟨_, rfl⟩
  obtain ⟨locs, hlo⟩ : ∃ k : List Loc, k = [] := ⟨_, rfl⟩
  have hH : gH g I R J AI AJ AR H := by rw [hHe]; exact hH
  have hS : va_S (gA g) s.heap H locs := by rw [hHe, hlo]; exact hS
  suffices hw : W p l e rmX6_reckonNextf s m ([.ref x, .ref ch, .int (iI sg)] : List Value).toArray below meth c H locs 0 0 (MQ below (gQi g (fun (z : Int) (w : gS) => R = w.2.1 ∧ J = w.2.2.1 ∧ AJ = w.2.2.2.2.1 ∧ AR = w.2.2.2.2.2 ∧ (gInv g gh R AR (w.1) (w.2.2.2.1)) ∧ (rF g I (w.1)) ∧ (-4 ≤ z ∧ z ≤ 0) ∧ (nIf gh AR nA I (w.1)) ∧ (nAf gh AR nA AI (w.2.2.2.1)) ∧ (rnP (I pA 2).toInt nr cc (∃ i, i < nb ∧ blw (AI (gh 0 ch)) (rfC gh AR I AI bA) sg i) (tbS (AI (gh 0 ch)) nb (rfC gh AR I AI bA) sg) z (rfC gh AR (w.1) (w.2.2.2.1) nA)) ∧ (z = 0 → stA (I pA 2).toInt cc (tbS (AI (gh 0 ch)) nb (rfC gh AR I AI bA) sg) cl (rfC gh AR (w.1) (w.2.2.2.1) nA) nr))) ([.ref x, .ref ch, .int (iI sg)] : List Value).toArray s 0 0 (gA g)) (F0 m 0 ls []) by
    rw [hHe, hlo] at hw; exact hw
  clear hHe hlo
  have rf : rF g I I := rF_r
  have hcl := cLt_of hcK
  have h10 := gR_x10 hv hx.1
  have nA39 : ∀ q, q < 16 → rob AR nA q ≠ gh 39 0 := fun q hq e9 => by have q9 := (isRA_o hx.2.2.2.2.2.2 hq).2.2.1; rw [e9, h10.2.2.1] at q9; exact absurd q9 (by decide)
  have nA39c : ∀ q, q < 16 → gh 0 (rob AR nA q) ≠ gh 0 (gh 39 0) := fun q hq => cells_ne hv h10.2.1 (isRA_o hx.2.2.2.2.2.2 hq).2.1 (nA39 q hq)
  have nA29 : ∀ q, q < 16 → gh 0 (rob AR nA q) ≠ gh 29 0 := fun q hq => ne_9 (cells_9 hv (isRA_o hx.2.2.2.2.2.2 hq).2.1) (ro29 hv hx.1) (by decide)
  have nAne : ∀ q p, q < 16 → p < 16 → q ≠ p → gh 0 (rob AR nA q) ≠ gh 0 (rob AR nA p) := fun q p hq hp h => cells_ne hv (isRA_o hx.2.2.2.2.2.2 hp).2.1 (isRA_o hx.2.2.2.2.2.2 hq).2.1 (fun e9 => h (hDn q p hq hp e9))
  have iX6 : ∀ w ∈ u_ws RX6 TX6 18, w ∈ wsX6_reckonNext := (by decide +kernel)
  have iX2 : ∀ w ∈ u_ws RX2 TX2 3, w ∈ wsX6_reckonNext := (by decide +kernel)
  have k23 : Cond.fieldLink RX6 23 (TX6 3).1 (TX6 3).2.1 (TX6 3).2.2.1 ∈ wsX6_reckonNext := List.mem_of_getElem? (i := 1) rfl
  have k122 : Cond.fieldLink RX6 122 (TX2 2).1 (TX2 2).2.1 (TX2 2).2.2.1 ∈ wsX6_reckonNext := List.mem_of_getElem? (i := 2) rfl
  have k42 : Cond.fieldLink RX6 42 (TX6 6).1 (TX6 6).2.1 (TX6 6).2.2.1 ∈ wsX6_reckonNext := List.mem_of_getElem? (i := 3) rfl
  have k38 : Cond.fieldLink RX6 38 (TX6 5).1 (TX6 5).2.1 (TX6 5).2.2.1 ∈ wsX6_reckonNext := List.mem_of_getElem? (i := 4) rfl
  have k60 : Cond.fieldLink RX6 60 (TX6 10).1 (TX6 10).2.1 (TX6 10).2.2.1 ∈ wsX6_reckonNext := List.mem_of_getElem? (i := 5) rfl
  have k96 : Cond.fieldLink RX6 96 (TX2 1).1 (TX2 1).2.1 (TX2 1).2.2.1 ∈ wsX6_reckonNext := List.mem_of_getElem? (i := 6) rfl
  have k30 : Cond.fieldLink RX6 30 (TX6 4).1 (TX6 4).2.1 (TX6 4).2.2.1 ∈ wsX6_reckonNext := List.mem_of_getElem? (i := 7) rfl
  have k113 : Cond.fieldLink RX6 113 (TX2 0).1 (TX2 0).2.1 (TX2 0).2.2.1 ∈ wsX6_reckonNext := List.mem_of_getElem? (i := 8) rfl
  refine lv_aload_n F.1 F.2.1 dX6_reckonNext_0 rfl (lv_at hl 0 rfl) ?_
  refine lv_aload_n F.1 F.2.1 dX6_reckonNext_1 rfl (lv_at hl 1 rfl) ?_
  refine lv_iload_n F.1 F.2.1 dX6_reckonNext_2 rfl (lv_at hl 2 rfl) ?_
  have b_1 := gI_x hv hx.1
  obtain ⟨b_2a, b_2b, b_2c, b_2d, b_2e, b_2f, b_2g, b_2h⟩ := gI_rows hv hch
  refine g_calli (g_runV (As := [.ref ch, .int (iI sg)]) (rest := []) (ci := 6) F hl.1 hH hS hz (c_X6_fallsBelowZerof l g gh pA bA nA nb I R J AI AJ AR x ch sg zsg hv hx hch (by omega) (by omega) (fun i hi => (hbg _ (by have := htb i hi; omega)).1)) (cwV 2 F.2.2.2.2.1 gX6_reckonNext_X6_fallsBelowZero rfl rfl rfl hdX6_fallsBelowZero ⟨Nat.le_of_ble_eq_true rfl, Nat.le_of_ble_eq_true rfl⟩) hx.1 (by decide) rfl rfl rfl (Nat.le_of_ble_eq_true rfl) dX6_reckonNext_3 ⟨Nat.zero_le _, Nat.zero_le _⟩) hS (fun v_9 I_3 R_4 J_5 AI_6 AJ_7 AR_8 H locs zv_9 hp_10 hH hS => ?_)
  dsimp only at hp_10
  obtain ⟨rfl, rfl, rfl, rfl, rfl, hv, q_11, q_12, qfb⟩ := hp_10
  have fM : nAf gh AR nA AI AI_6 := nAf_y q_12
  have fN : nIf gh AR nA I I := nIf_r
  refine z_if_eq (tgt := 12) F dX6_reckonNext_6 (by decide) zv_9 (fun c_13 => ?_) (fun c_13 => ?_)
  · have hz0 : v_9 = 0 := by omega
    refine z_iconst F dX6_reckonNext_12 ?_
    refine lv_istore_n (lv' := [(3, .int (iI 0)), (0, .ref x), (1, .ref ch), (2, .int (iI sg))]) F.1 F.2.1 dX6_reckonNext_13 rfl hl (by decide) rfl (fun ls hl => ?_)
    have cut_14_15 : ∀ (NN : Nat) (i : Int) (I_14 : gI) (AI_15 : gI) (H : Heap) (locs : List Loc) (ls : Array Slot), zr i → (gInv g gh R AR I_14 AI_15) → (rF g I I_14) → (0 ≤ i ∧ i ≤ 16) → (nIf gh AR nA I I_14) → (nAf gh AR nA AI AI_15) → (stA (I pA 2).toInt cc (tbS (AI (gh 0 ch)) nb (rfC gh AR I AI bA) sg) cl (rfC gh AR I_14 AI_15 nA) i.toNat) → (i ≤ (I pA 2).toInt) → (16 - i) < ((NN : Nat) : Int) → gH g I_14 R J AI_15 AJ AR H → va_S (gA g) s.heap H locs → lv_has ls 5 [(3, .int (iI i)), (0, .ref x), (1, .ref ch), (2, .int (iI sg))] → W p l e rmX6_reckonNextf s m ([.ref x, .ref ch, .int (iI sg)] : List Value).toArray below meth c H locs 0 0 (MQ below (gQi g (fun (z : Int) (w : gS) => R = w.2.1 ∧ J = w.2.2.1 ∧ AJ = w.2.2.2.2.1 ∧ AR = w.2.2.2.2.2 ∧ (gInv g gh R AR (w.1) (w.2.2.2.1)) ∧ (rF g I (w.1)) ∧ (-4 ≤ z ∧ z ≤ 0) ∧ (nIf gh AR nA I (w.1)) ∧ (nAf gh AR nA AI (w.2.2.2.1)) ∧ (rnP (I pA 2).toInt nr cc (∃ i, i < nb ∧ blw (AI (gh 0 ch)) (rfC gh AR I AI bA) sg i) (tbS (AI (gh 0 ch)) nb (rfC gh AR I AI bA) sg) z (rfC gh AR (w.1) (w.2.2.2.1) nA)) ∧ (z = 0 → stA (I pA 2).toInt cc (tbS (AI (gh 0 ch)) nb (rfC gh AR I AI bA) sg) cl (rfC gh AR (w.1) (w.2.2.2.1) nA) nr))) ([.ref x, .ref ch, .int (iI sg)] : List Value).toArray s 0 0 (gA g)) (F0 m 14 ls []) := by
      intro NN14
      induction NN14 with
      | zero =>
        intro i I_14 AI_15 H locs ls zi hv rf hi fN fM hst hi2 hm14 hH hS hl
        exact absurd hm14 (by omega)
      | succ NN14 ih14 =>
        intro i I_14 AI_15 H locs ls zi hv rf hi fN fM hst hi2 hm14 hH hS hl
        have hCH : AI_15 (gh 0 ch) = AI (gh 0 ch) := nAf_o fM hv hx.1 hch hx.2.2.2.2.2.2 hc39 hchn
        have hIc : I_14 ch = I ch := fN ch hc39 hchn
        have hnbN : (I_14 ch 3).toInt = (nb : Int) := by rw [hIc]; exact hnb
        have hpI : I_14 pA = I pA := rf pA 2 hx.2.2.1 (by decide)
        have hp1 : (I_14 pA 1).toInt = (nr : Int) := by rw [hpI]; exact hlen
        have hp2 : (I_14 pA 2).toInt = (I pA 2).toInt := by rw [hpI]
        refine lv_iload_n F.1 F.2.1 dX6_reckonNext_14 rfl (lv_at hl 0 rfl) ?_
        refine lv_aload_n F.1 F.2.1 dX6_reckonNext_15 rfl (lv_at hl 1 rfl) ?_
        refine g_getR (ci := 6) (k := 3) F hH rfl (by decide) iX6 hx.1 (by decide) rfl (b := pA) hx.2.1 k23 dX6_reckonNext_16 ?_
        refine g_getI (ci := 2) (k := 2) F hH rfl (by decide) iX2 hx.2.2.1 (by decide) rfl k122 dX6_reckonNext_19 ?_
        have b_17 := gI_plan hv hx.2.2.1
        refine z_icmp_ge (tgt := 63) F dX6_reckonNext_22 (by decide) zi (zr_t _) (fun c_18 => ?_) (fun c_18 => ?_)
        · refine lv_aload_n F.1 F.2.1 dX6_reckonNext_63 rfl (lv_at hl 1 rfl) ?_
          refine g_getR (ci := 6) (k := 3) F hH rfl (by decide) iX6 hx.1 (by decide) rfl (b := pA) hx.2.1 k23 dX6_reckonNext_64 ?_
          refine g_getI (ci := 2) (k := 2) F hH rfl (by decide) iX2 hx.2.2.1 (by decide) rfl k122 dX6_reckonNext_67 ?_
          refine lv_istore_n (lv' := [(3, .int (iI ((I_14 pA 2).toInt))), (0, .ref x), (1, .ref ch), (2, .int (iI sg))]) F.1 F.2.1 dX6_reckonNext_70 rfl hl (by decide) rfl (fun ls hl => ?_)
          have cut_71_20 : ∀ (NN : Nat) (j : Int) (I_19 : gI) (AI_20 : gI) (H : Heap) (locs : List Loc) (ls : Array Slot), zr j → (gInv g gh R AR I_19 AI_20) → (rF g I I_19) → (0 ≤ j ∧ j ≤ 16) → (nIf gh AR nA I I_19) → (nAf gh AR nA AI AI_20) → (stA (I pA 2).toInt cc (tbS (AI (gh 0 ch)) nb (rfC gh AR I AI bA) sg) cl (rfC gh AR I_19 AI_20 nA) j.toNat) → ((I pA 2).toInt ≤ j ∧ j ≤ (nr : Int)) → (16 - j) < ((NN : Nat) : Int) → gH g I_19 R J AI_20 AJ AR H → va_S (gA g) s.heap H locs → lv_has ls 5 [(3, .int (iI j)), (0, .ref x), (1, .ref ch), (2, .int (iI sg))] → W p l e rmX6_reckonNextf s m ([.ref x, .ref ch, .int (iI sg)] : List Value).toArray below meth c H locs 0 0 (MQ below (gQi g (fun (z : Int) (w : gS) => R = w.2.1 ∧ J = w.2.2.1 ∧ AJ = w.2.2.2.2.1 ∧ AR = w.2.2.2.2.2 ∧ (gInv g gh R AR (w.1) (w.2.2.2.1)) ∧ (rF g I (w.1)) ∧ (-4 ≤ z ∧ z ≤ 0) ∧ (nIf gh AR nA I (w.1)) ∧ (nAf gh AR nA AI (w.2.2.2.1)) ∧ (rnP (I pA 2).toInt nr cc (∃ i, i < nb ∧ blw (AI (gh 0 ch)) (rfC gh AR I AI bA) sg i) (tbS (AI (gh 0 ch)) nb (rfC gh AR I AI bA) sg) z (rfC gh AR (w.1) (w.2.2.2.1) nA)) ∧ (z = 0 → stA (I pA 2).toInt cc (tbS (AI (gh 0 ch)) nb (rfC gh AR I AI bA) sg) cl (rfC gh AR (w.1) (w.2.2.2.1) nA) nr))) ([.ref x, .ref ch, .int (iI sg)] : List Value).toArray s 0 0 (gA g)) (F0 m 71 ls []) := by
            intro NN71
            induction NN71 with
            | zero =>
              intro j I_19 AI_20 H locs ls zj hv rf hj fN fM hst hj2 hm71 hH hS hl
              exact absurd hm71 (by omega)
            | succ NN71 ih71 =>
              intro j I_19 AI_20 H locs ls zj hv rf hj fN fM hst hj2 hm71 hH hS hl
              have hCH : AI_20 (gh 0 ch) = AI (gh 0 ch) := nAf_o fM hv hx.1 hch hx.2.2.2.2.2.2 hc39 hchn
              have hIc : I_19 ch = I ch := fN ch hc39 hchn
              have hnbN : (I_19 ch 3).toInt = (nb : Int) := by rw [hIc]; exact hnb
              have hpI : I_19 pA = I pA := rf pA 2 hx.2.2.1 (by decide)
              have hp1 : (I_19 pA 1).toInt = (nr : Int) := by rw [hpI]; exact hlen
              have hp2 : (I_19 pA 2).toInt = (I pA 2).toInt := by rw [hpI]
              refine lv_iload_n F.1 F.2.1 dX6_reckonNext_71 rfl (lv_at hl 0 rfl) ?_
              refine lv_aload_n F.1 F.2.1 dX6_reckonNext_72 rfl (lv_at hl 1 rfl) ?_
              refine g_getR (ci := 6) (k := 3) F hH rfl (by decide) iX6 hx.1 (by decide) rfl (b := pA) hx.2.1 k23 dX6_reckonNext_73 ?_
              refine g_getI (ci := 2) (k := 1) F hH rfl (by decide) iX2 hx.2.2.1 (by decide) rfl k96 dX6_reckonNext_76 ?_
              have b_22 := gI_plan hv hx.2.2.1
              refine z_icmp_ge (tgt := 124) F dX6_reckonNext_79 (by decide) zj (zr_t _) (fun c_23 => ?_) (fun c_23 => ?_)
              · refine z_iconst F dX6_reckonNext_124 ?_
                exact g_iret F hr hlk hH hS hz ⟨by decide, by decide⟩ ⟨rfl, rfl, rfl, rfl, hv, rf, by first | omega | rfl | (dsimp only; omega), fN, fM, Or.inr ⟨tIz_0 qfb hz0, j.toNat, by omega, fun q hq => (hst q hq).1, Or.inl ⟨by omega, rfl⟩⟩, fun h9 => by (try dsimp only at h9); first | omega | (rw [show nr = j.toNat by omega]; exact hst)⟩ dX6_reckonNext_125
              · refine lv_aload_n F.1 F.2.1 dX6_reckonNext_82 rfl (lv_at hl 1 rfl) ?_
                obtain ⟨r_24a, r_24b⟩ := gR_x4 hv hx.1
                refine g_getR (ci := 6) (k := 4) F hH rfl (by decide) iX6 hx.1 (by decide) rfl (b := gh 23 0) r_24a k30 dX6_reckonNext_83 ?_
                refine lv_aload_n F.1 F.2.1 dX6_reckonNext_86 rfl (lv_at hl 1 rfl) ?_
                refine g_getR (ci := 6) (k := 3) F hH rfl (by decide) iX6 hx.1 (by decide) rfl (b := pA) hx.2.1 k23 dX6_reckonNext_87 ?_
                obtain ⟨r_25a, r_25b⟩ := gR_lines hv hx.2.2.1
                refine g_getR (ci := 2) (k := 0) F hH rfl (by decide) iX2 hx.2.2.1 (by decide) rfl (b := gh 6 pA) r_25a k113 dX6_reckonNext_90 ?_
                refine lv_iload_n F.1 F.2.1 dX6_reckonNext_93 rfl (lv_at hl 0 rfl) ?_
                have hx94 : 0 ≤ j ∧ j < ((16 : Nat) : Int) ∧ j ≤ 2147483647 := ⟨by omega, by omega, by omega⟩
                obtain ⟨y_26, y_26a, y_26b, y_26c, y_26d⟩ := gA_lines hv hx.2.2.1 (z := j) (by omega) (by omega)
                refine g_aldL F hH r_25b hx94.1 hx94.2.1 hx94.2.2 (b := y_26) y_26a dX6_reckonNext_94 ?_
                refine lv_aload_n F.1 F.2.1 dX6_reckonNext_95 rfl (lv_at hl 1 rfl) ?_
                refine g_getR (ci := 6) (k := 6) F hH rfl (by decide) iX6 hx.1 (by decide) rfl (b := nA) hx.2.2.2.2.2.1 k42 dX6_reckonNext_96 ?_
                refine lv_aload_n F.1 F.2.1 dX6_reckonNext_99 rfl (lv_at hl 1 rfl) ?_
                refine g_getR (ci := 6) (k := 6) F hH rfl (by decide) iX6 hx.1 (by decide) rfl (b := nA) hx.2.2.2.2.2.1 k42 dX6_reckonNext_100 ?_
                refine lv_iload_n F.1 F.2.1 dX6_reckonNext_103 rfl (lv_at hl 0 rfl) ?_
                have hx104 : 0 ≤ j ∧ j < ((16 : Nat) : Int) ∧ j ≤ 2147483647 := ⟨by omega, by omega, by omega⟩
                obtain ⟨y_27, y_27a, y_27b, y_27c, y_27d, y_27e⟩ := hx.2.2.2.2.2.2.2 (j).toNat (by omega)
                refine g_aldR F hH hx.2.2.2.2.2.2.1 hx104.1 hx104.2.1 hx104.2.2 (b := y_27) y_27a dX6_reckonNext_104 ?_
                have r1 : rob AR nA j.toNat = y_27 := rob_e y_27a
                have rl : rob AR (gh 6 pA) j.toNat = y_26 := rob_e y_26a
                have hlI : I_19 y_26 = I y_26 := fN _ (gO_ne y_26b (gR_x10 hv hx.1).2.1 (by decide)) (fun r hr e9 => gO_ne (isRA_o hx.2.2.2.2.2.2 hr).2.1 y_26b (by decide) e9)
                have hlA : AI_20 (gh 3 y_26) = AI (gh 3 y_26) := nAf_ln fM hv hx.1 y_26b hx.2.2.2.2.2.2
                have hlc9 : lnC (I_19 y_26) (AI_20 (gh 3 y_26)) (cc j.toNat) := lnC_m (by have q9 := hln j.toNat (by omega); rw [rl] at q9; exact q9) hlI hlA
                have hcj := hcK j.toNat (by omega) (by omega)
                have hno9 : ∀ q, q < j.toNat → rob AR nA q ≠ y_27 := fun q hq e9 => absurd (hDn q j.toNat (by omega) (by omega) (by rw [e9, r1])) (by omega)
                have b_28 := gI_line hv y_26b
                unfold vLineI at b_28
                obtain ⟨b_29a, b_29b, b_29c, b_29d, b_29e, b_29f, b_29g, b_29h⟩ := gI_rows hv y_27b
                refine g_calli (g_runV (As := [.ref y_26, .ref nA, .ref y_27]) (rest := []) (ci := 3) F hl.1 hH hS hz (c_X3_reckonf l g gh (cc j.toNat) j.toNat cl I_19 R J AI_20 AJ AR (gh 23 0) y_26 nA y_27 hv r_24b y_26b y_27b (by omega) hx.2.2.2.2.2.2 (by omega) hlc9 hcj.1 (by omega) (fun q hq => (hst q hq).2) hno9) (cwV 3 F.2.2.2.2.1 gX6_reckonNext_X3_reckon rfl rfl rfl hdX3_reckon ⟨Nat.le_of_ble_eq_true rfl, Nat.le_of_ble_eq_true rfl⟩) r_24b (by decide) rfl rfl rfl (Nat.le_of_ble_eq_true rfl) dX6_reckonNext_105 ⟨Nat.zero_le _, Nat.zero_le _⟩) hS (fun v_36 I_30 R_31 J_32 AI_33 AJ_34 AR_35 H locs zv_36 hp_37 hH hS => ?_)
                dsimp only at hp_37
                obtain ⟨rfl, rfl, rfl, rfl, hv, rfq, q_38, kIq, kAq, qvw⟩ := hp_37
                have rf := rF_t rf rfq
                have u_39p : I_30 pA = I pA := rf pA 2 hx.2.2.1 (by decide)
                have u_39p1 : (I_30 pA 1).toInt = (I pA 1).toInt := by rw [u_39p]
                have u_39p2 : (I_30 pA 2).toInt = (I pA 2).toInt := by rw [u_39p]
                have hfi : ∀ b, b ≠ rob AR nA j.toNat → I_30 b = I_19 b := by rw [r1]; exact kIq
                have hfa : kA gh (rob AR nA j.toNat) AI_20 AI_33 := by rw [r1]; exact kAq
                have fN := nIf_t fN (nIf_n (nA := nA) (by omega) hfi)
                have fM := nAf_t fM (nAf_k (nA := nA) (by omega) hfa)
                have heF : ∀ q, q < j.toNat → (rfC gh AR I_30 AI_33 nA) q = (rfC gh AR I_19 AI_20 nA) q := fun q hq => rfC_k (hfi _ (fun e9 => absurd (hDn q j.toNat (by omega) (by omega) e9) (by omega))) (kA_x hfa hv (gR_x4 hv hx.1).2 (isRA_o hx.2.2.2.2.2.2 (by omega)).2.1 (isRA_o hx.2.2.2.2.2.2 (by omega)).2.1 (fun e9 => absurd (hDn q j.toNat (by omega) (by omega) e9) (by omega)))
                have hst : stA (I pA 2).toInt cc (tbS (AI (gh 0 ch)) nb (rfC gh AR I AI bA) sg) cl (rfC gh AR I_30 AI_33 nA) j.toNat := st_up hcl (by omega) heF hst
                have qvw9 := st_vc hcj.1 heF qvw
                have hCH : AI_33 (gh 0 ch) = AI (gh 0 ch) := nAf_o fM hv hx.1 hch hx.2.2.2.2.2.2 hc39 hchn
                have hIc : I_30 ch = I ch := fN ch hc39 hchn
                have hnbN : (I_30 ch 3).toInt = (nb : Int) := by rw [hIc]; exact hnb
                have hpI : I_30 pA = I pA := rf pA 2 hx.2.2.1 (by decide)
                have hp1 : (I_30 pA 1).toInt = (nr : Int) := by rw [hpI]; exact hlen
                have hp2 : (I_30 pA 2).toInt = (I pA 2).toInt := by rw [hpI]
                refine lv_istore (lv' := [(4, .int (iI v_36)), (3, .int (iI j)), (0, .ref x), (1, .ref ch), (2, .int (iI sg))]) F.1 F.2.1 dX6_reckonNext_108 hl (by decide) rfl (fun ls hl => ?_)
                refine lv_iload F.1 F.2.1 dX6_reckonNext_110 (lv_at hl 0 rfl) ?_
                refine z_if_eq (tgt := 118) F dX6_reckonNext_112 (by decide) zv_36 (fun c_40 => ?_) (fun c_40 => ?_)
                · have eFn : (rfC gh AR I_30 AI_33 nA) j.toNat = ((I_30 y_27 3).toInt.toNat, AI_33 (gh 0 y_27)) := by unfold rfC; rw [r1]
                  have hst9 := st_vw hst (by omega) hcj eFn (by rw [show (0 : Int) = v_36 by omega]; exact qvw9)
                  rw [show j.toNat + 1 = (j + 1).toNat by omega] at hst9
                  refine z_iinc (lv' := [(3, .int (iI (j + 1))), (4, .int (iI v_36)), (0, .ref x), (1, .ref ch), (2, .int (iI sg))]) F dX6_reckonNext_118 hl (k := 1) rfl (by decide) rfl (fun ls hl => ?_)
                  refine z_goto (tgt := 71) F dX6_reckonNext_121 (by decide) ?_
                  exact ih71 (j + 1) I_30 AI_33 H locs ls ⟨by omega, by omega⟩ hv rf (by omega) fN fM hst9 (by omega) (by omega) hH hS (lv_sub hl [0, 2, 3, 4] rfl)
                · refine lv_iload F.1 F.2.1 dX6_reckonNext_115 (lv_at hl 0 rfl) ?_
                  exact g_iret F hr hlk hH hS hz zv_36 ⟨rfl, rfl, rfl, rfl, hv, rf, by first | omega | rfl | (dsimp only; omega), fN, fM, Or.inr ⟨tIz_0 qfb hz0, j.toNat, by omega, fun q hq => (hst q hq).1, Or.inr ⟨by omega, by unfold stF; rw [if_neg (by omega)]; exact ⟨by omega, _, _, qvw9⟩⟩⟩, fun h9 => by (try dsimp only at h9); first | omega | (rw [show nr = j.toNat by omega]; exact hst)⟩ dX6_reckonNext_117
          exact cut_71_20 (((16 - ((I_14 pA 2).toInt)) + 1 : Int).toNat) ((I_14 pA 2).toInt) I_14 AI_15 H locs ls (zr_t _) hv rf (by omega) fN fM (by rw [show (I_14 pA 2).toInt.toNat = i.toNat by omega]; exact hst) (by omega) (by omega) hH hS (lv_sub hl [0, 1, 2, 3] rfl)
        · refine lv_aload_n F.1 F.2.1 dX6_reckonNext_25 rfl (lv_at hl 1 rfl) ?_
          refine lv_aload_n F.1 F.2.1 dX6_reckonNext_26 rfl (lv_at hl 2 rfl) ?_
          refine lv_iload_n F.1 F.2.1 dX6_reckonNext_27 rfl (lv_at hl 0 rfl) ?_
          have b_41 := gI_x hv hx.1
          obtain ⟨b_42a, b_42b, b_42c, b_42d, b_42e, b_42f, b_42g, b_42h⟩ := gI_rows hv hch
          refine g_callv (g_runV (As := [.ref ch, .int (iI i)]) (rest := []) (ci := 6) F hl.1 hH hS hz (c_X6_pickChangesf l g gh pA bA nA nb I_14 R J AI_15 AJ AR x ch i zi hv hx hch (by omega) hnbN (by rw [hCH]; exact hbt) hc39 (by omega)) (cwV 2 F.2.2.2.2.1 gX6_reckonNext_X6_pickChanges rfl rfl rfl hdX6_pickChanges ⟨Nat.le_of_ble_eq_true rfl, Nat.le_of_ble_eq_true rfl⟩) hx.1 (by decide) rfl rfl rfl (Nat.le_of_ble_eq_true rfl) dX6_reckonNext_28 ⟨Nat.zero_le _, Nat.zero_le _⟩) hS (fun I_43 R_44 J_45 AI_46 AJ_47 AR_48 H locs hp_49 hH hS => ?_)
          dsimp only at hp_49
          obtain ⟨rfl, rfl, rfl, rfl, hv, rfq, qT9, qM9, qB9⟩ := hp_49
          have rf := rF_t rf rfq
          have u_50p : I_43 pA = I pA := rf pA 2 hx.2.2.1 (by decide)
          have u_50p1 : (I_43 pA 1).toInt = (I pA 1).toInt := by rw [u_50p]
          have u_50p2 : (I_43 pA 2).toInt = (I pA 2).toInt := by rw [u_50p]
          rw [hCH] at qB9
          have fN := nIf_t fN (nIf_c (nA := nA) qT9)
          have fM := nAf_t fM (nAf_c (nA := nA) qM9)
          have heF : ∀ q, q < i.toNat → (rfC gh AR I_43 AI_46 nA) q = (rfC gh AR I_14 AI_15 nA) q := fun q hq => rfC_k (qT9 _ (nA39 q (by omega))) (qM9 _ (nA39c q (by omega)) (nA29 q (by omega)))
          have hst : stA (I pA 2).toInt cc (tbS (AI (gh 0 ch)) nb (rfC gh AR I AI bA) sg) cl (rfC gh AR I_43 AI_46 nA) i.toNat := st_up hcl (by omega) heF hst
          have hCH : AI_46 (gh 0 ch) = AI (gh 0 ch) := nAf_o fM hv hx.1 hch hx.2.2.2.2.2.2 hc39 hchn
          have hIc : I_43 ch = I ch := fN ch hc39 hchn
          have hnbN : (I_43 ch 3).toInt = (nb : Int) := by rw [hIc]; exact hnb
          have hpI : I_43 pA = I pA := rf pA 2 hx.2.2.1 (by decide)
          have hp1 : (I_43 pA 1).toInt = (nr : Int) := by rw [hpI]; exact hlen
          have hp2 : (I_43 pA 2).toInt = (I pA 2).toInt := by rw [hpI]
          refine lv_aload_n F.1 F.2.1 dX6_reckonNext_31 rfl (lv_at hl 1 rfl) ?_
          refine g_getR (ci := 6) (k := 6) F hH rfl (by decide) iX6 hx.1 (by decide) rfl (b := nA) hx.2.2.2.2.2.1 k42 dX6_reckonNext_32 ?_
          refine lv_iload_n F.1 F.2.1 dX6_reckonNext_35 rfl (lv_at hl 0 rfl) ?_
          have hx36 : 0 ≤ i ∧ i < ((16 : Nat) : Int) ∧ i ≤ 2147483647 := ⟨by omega, by omega, by omega⟩
          obtain ⟨y_51, y_51a, y_51b, y_51c, y_51d, y_51e⟩ := hx.2.2.2.2.2.2.2 (i).toNat (by omega)
          refine g_aldR F hH hx.2.2.2.2.2.2.1 hx36.1 hx36.2.1 hx36.2.2 (b := y_51) y_51a dX6_reckonNext_36 ?_
          refine lv_aload_n F.1 F.2.1 dX6_reckonNext_37 rfl (lv_at hl 1 rfl) ?_
          refine g_getR (ci := 6) (k := 5) F hH rfl (by decide) iX6 hx.1 (by decide) rfl (b := bA) hx.2.2.2.1 k38 dX6_reckonNext_38 ?_
          refine lv_iload_n F.1 F.2.1 dX6_reckonNext_41 rfl (lv_at hl 0 rfl) ?_
          have hx42 : 0 ≤ i ∧ i < ((16 : Nat) : Int) ∧ i ≤ 2147483647 := ⟨by omega, by omega, by omega⟩
          obtain ⟨y_52, y_52a, y_52b, y_52c, y_52d, y_52e⟩ := hx.2.2.2.2.1.2 (i).toNat (by omega)
          refine g_aldR F hH hx.2.2.2.2.1.1 hx42.1 hx42.2.1 hx42.2.2 (b := y_52) y_52a dX6_reckonNext_42 ?_
          refine lv_aload_n F.1 F.2.1 dX6_reckonNext_43 rfl (lv_at hl 1 rfl) ?_
          obtain ⟨r_53a, r_53b, r_53c, r_53d⟩ := gR_x10 hv hx.1
          refine g_getR (ci := 6) (k := 10) F hH rfl (by decide) iX6 hx.1 (by decide) rfl (b := gh 39 0) r_53a k60 dX6_reckonNext_44 ?_
          refine lv_iload_n F.1 F.2.1 dX6_reckonNext_47 rfl (lv_at hl 3 rfl) ?_
          have r1 : rob AR nA i.toNat = y_51 := rob_e y_51a
          have r2 : rob AR bA i.toNat = y_52 := rob_e y_52a
          have hy12 : y_52 ≠ y_51 := by rw [← r1, ← r2]; exact hDx i.toNat i.toNat (by omega) (by omega)
          have hy39 : y_52 ≠ gh 39 0 := fun e9 => by have q9 := y_52c; rw [e9, (gR_x10 hv hx.1).2.2.1] at q9; exact absurd q9 (by decide)
          have hyn : ∀ r, r < 16 → rob AR nA r ≠ y_52 := fun r hr e9 => hDx i.toNat r (by omega) hr (by rw [e9, r2])
          have hc1 : gh 39 0 ≠ y_51 := by rw [← r1]; exact (nA39 i.toNat (by omega)).symm
          have hy2I : I_43 y_52 = I y_52 := fN _ hy39 hyn
          have hy2A : AI_46 (gh 0 y_52) = AI (gh 0 y_52) := nAf_o fM hv hx.1 y_52b hx.2.2.2.2.2.2 hy39 hyn
          have hbi := hbg i.toNat (by omega)
          have eFb : (rfC gh AR I AI bA) i.toNat = ((I y_52 3).toInt.toNat, AI (gh 0 y_52)) := by unfold rfC; rw [r2]
          have hnx9 : (I_43 y_52 3).toInt = (((I y_52 3).toInt.toNat : Nat) : Int) := by rw [hy2I]; have q9 := (gI_rows hv y_52b).2.2.1; rw [hy2I] at q9; omega
          have hok9 : okB (AI_46 (gh 0 y_52)) (I y_52 3).toInt.toNat := by rw [hy2A]; have q9 := hbi.1; rw [eFb] at q9; exact q9
          have hSS9 : ∀ t, (tbS (AI (gh 0 ch)) nb (rfC gh AR I AI bA) sg) i.toNat t = bS (AI_46 (gh 0 y_52)) (I y_52 3).toInt.toNat t + iI sg * bS (AI_46 (gh 0 (gh 39 0))) (I_43 (gh 39 0) 3).toInt.toNat t := fun t => by
            rw [hy2A, bS_B qB9.1]; unfold tbS; rw [eFb, show ((i.toNat : Nat) : Int) = i by omega]
          obtain ⟨b_54a, b_54b, b_54c, b_54d, b_54e, b_54f, b_54g, b_54h⟩ := gI_rows hv y_51b
          obtain ⟨b_55a, b_55b, b_55c, b_55d, b_55e, b_55f, b_55g, b_55h⟩ := gI_rows hv y_52b
          obtain ⟨b_56a, b_56b, b_56c, b_56d, b_56e, b_56f, b_56g, b_56h⟩ := gI_rows hv r_53b
          refine g_calli (g_runV (As := [.ref y_52, .ref (gh 39 0), .int (iI sg)]) (rest := []) (ci := 4) F hl.1 hH hS hz (c_X4_gatherf l g gh ((I y_52 3).toInt.toNat) ((I_43 (gh 39 0) 3).toInt.toNat) ((tbS (AI (gh 0 ch)) nb (rfC gh AR I AI bA) sg) i.toNat) I_43 R J AI_46 AJ AR y_51 y_52 (gh 39 0) sg zsg hv y_51b y_52b r_53b (by omega) (by omega) hy12 hc1 h10.2.2.2 hnx9 (by omega) hok9 (okB_of qB9.1) hSS9) (cwV 3 F.2.2.2.2.1 gX6_reckonNext_X4_gather rfl rfl rfl hdX4_gather ⟨Nat.le_of_ble_eq_true rfl, Nat.le_of_ble_eq_true rfl⟩) y_51b (by decide) rfl rfl rfl (Nat.le_of_ble_eq_true rfl) dX6_reckonNext_48 ⟨Nat.zero_le _, Nat.zero_le _⟩) hS (fun v_63 I_57 R_58 J_59 AI_60 AJ_61 AR_62 H locs zv_63 hp_64 hH hS => ?_)
          dsimp only at hp_64
          obtain ⟨rfl, rfl, rfl, rfl, hv, q_65, q_66, qga⟩ := hp_64
          have rf := rF_t rf (rF_o y_51b q_65)
          have u_67p : I_57 pA = I pA := rf pA 2 hx.2.2.1 (by decide)
          have u_67p1 : (I_57 pA 1).toInt = (I pA 1).toInt := by rw [u_67p]
          have u_67p2 : (I_57 pA 2).toInt = (I pA 2).toInt := by rw [u_67p]
          have hfi : ∀ b, b ≠ rob AR nA i.toNat → I_57 b = I_43 b := by rw [r1]; exact q_65
          have hfa : ∀ b, b ≠ gh 0 (rob AR nA i.toNat) → AI_60 b = AI_46 b := by rw [r1]; exact q_66
          have fN := nIf_t fN (nIf_n (nA := nA) (by omega) hfi)
          have fM := nAf_t fM (nAf_n (nA := nA) (by omega) hfa)
          have heF : ∀ q, q < i.toNat → (rfC gh AR I_57 AI_60 nA) q = (rfC gh AR I_43 AI_46 nA) q := fun q hq => rfC_k (hfi _ (fun e9 => absurd (hDn q i.toNat (by omega) (by omega) e9) (by omega))) (hfa _ (nAne q i.toNat (by omega) (by omega) (by omega)))
          have hst : stA (I pA 2).toInt cc (tbS (AI (gh 0 ch)) nb (rfC gh AR I AI bA) sg) cl (rfC gh AR I_57 AI_60 nA) i.toNat := st_up hcl (by omega) heF hst
          have hl120 := (gI_rows hv y_51b).2.2.2.1
          rw [y_51c] at qga hl120
          have hl0 := (gI_rows hv y_51b).2.2.1
          have hCH : AI_60 (gh 0 ch) = AI (gh 0 ch) := nAf_o fM hv hx.1 hch hx.2.2.2.2.2.2 hc39 hchn
          have hIc : I_57 ch = I ch := fN ch hc39 hchn
          have hnbN : (I_57 ch 3).toInt = (nb : Int) := by rw [hIc]; exact hnb
          have hpI : I_57 pA = I pA := rf pA 2 hx.2.2.1 (by decide)
          have hp1 : (I_57 pA 1).toInt = (nr : Int) := by rw [hpI]; exact hlen
          have hp2 : (I_57 pA 2).toInt = (I pA 2).toInt := by rw [hpI]
          refine z_if_ne (tgt := 57) F dX6_reckonNext_51 (by decide) zv_63 (fun c_68 => ?_) (fun c_68 => ?_)
          · have hga9 := (qga.resolve_right (fun h => absurd h.1 (by omega))).2
            have eFn : (rfC gh AR I_57 AI_60 nA) i.toNat = ((I_57 y_51 3).toInt.toNat, AI_60 (gh 0 y_51)) := by unfold rfC; rw [r1]
            have hst9 := st_tb hst (by omega) eFn hbi.2.2 hbz hga9 (by omega)
            rw [show i.toNat + 1 = (i + 1).toNat by omega] at hst9
            refine z_iinc (lv' := [(3, .int (iI (i + 1))), (0, .ref x), (1, .ref ch), (2, .int (iI sg))]) F dX6_reckonNext_57 hl (k := 0) rfl (by decide) rfl (fun ls hl => ?_)
            refine z_goto (tgt := 14) F dX6_reckonNext_60 (by decide) ?_
            exact ih14 (i + 1) I_57 AI_60 H locs ls ⟨by omega, by omega⟩ hv rf (by omega) fN fM hst9 (by omega) (by omega) hH hS (lv_sub hl [0, 1, 2, 3] rfl)
          · refine z_bipush F dX6_reckonNext_54 (by decide) ?_
            exact g_iret F hr hlk hH hS hz ⟨by decide, by decide⟩ ⟨rfl, rfl, rfl, rfl, hv, rf, by first | omega | rfl | (dsimp only; omega), fN, fM, Or.inr ⟨tIz_0 qfb hz0, i.toNat, by omega, fun q hq => (hst q hq).1, Or.inr ⟨by omega, by unfold stF; rw [if_pos (by omega)]; exact ⟨rfl, (qga.resolve_left (fun h => absurd h.1 (by omega))).2⟩⟩⟩, fun h9 => by (try dsimp only at h9); first | omega | (rw [show nr = j.toNat by omega]; exact hst)⟩ dX6_reckonNext_56
    exact cut_14_15 (((16 - 0) + 1 : Int).toNat) 0 I AI_6 H locs ls ⟨by decide, by decide⟩ hv rf (by omega) fN fM st_0 (by omega) (by omega) hH hS (lv_sub hl [0, 1, 2, 3] rfl)
  · refine z_bipush F dX6_reckonNext_9 (by decide) ?_
    exact g_iret F hr hlk hH hS hz ⟨by decide, by decide⟩ ⟨rfl, rfl, rfl, rfl, hv, rf, by first | omega | rfl | (dsimp only; omega), nIf_r, fM, Or.inl ⟨tIz_1 qfb (by omega), rfl⟩, fun h9 => by (try dsimp only at h9); first | omega | (rw [show nr = j.toNat by omega]; exact hst)⟩ dX6_reckonNext_11
end
section
def rmX6_takeNextf : Room := { frames := 3, cells := 0, slots := 0, locals := 113 }
set_option maxHeartbeats 4000000 in
set_option maxRecDepth 100000 in
/-- takes the next bags -/
theorem c_X6_takeNextf (l : Launch) (g : gG) (gh : gGh) (pA bA nA : Nat) (nr : Nat) (cl : Nat → Int) (I : gI) (R : gR) (J : gJ) (AI : gI) (AJ : gJ) (AR : gR) (x : Nat) (hv : gInv g gh R AR I AI) (hx : xS g gh R AR x pA bA nA) (hlen : (I pA 1).toInt = (nr : Int)) (hnr : nr ≤ 16) (hbg : ∀ r, r < nr → bgOK (rfC gh AR I AI bA) cl r) (hbn : ∀ r, r < nr → bgOK (rfC gh AR I AI nA) cl r) (hDm : rsD AR (gh 35 0) 16) : gMet l g yX6_takeNext wsX6_takeNext rmX6_takeNextf [.ref x] (I, R, J, AI, AJ, AR) (gQv g (fun w : gS => J = w.2.2.1 ∧ AJ = w.2.2.2.2.1 ∧ AR = w.2.2.2.2.2 ∧ (gInv g gh (w.2.1) AR (w.1) (w.2.2.2.1)) ∧ (rF g I (w.1)) ∧ (xS g gh (w.2.1) AR x pA nA bA) ∧ (∀ b k, b ≠ x ∨ (k ≠ 5 ∧ k ≠ 6) → (w.2.1) b k = R b k) ∧ (∀ b, (∀ r, r < 16 → rob AR (gh 35 0) r ≠ b) → (w.1) b = I b) ∧ (∀ b, (∀ r, r < 16 → gh 0 (rob AR (gh 35 0) r) ≠ b) → (w.2.2.2.1) b = AI b) ∧ (∀ r, r < nr → mvQ gh AR I AI bA nA (w.1) (w.2.2.2.1) r))) := by
  refine gStart (cc := cX6_takeNext) (maxL := 2) (ret := none) (by decide) rfl (Nat.le_of_ble_eq_true rfl) ?_
  intro p e s m below meth c ls F hr hlk hH hz hS hl
  have hl : lv_has ls 2 [(0, .ref x)] := hl
  have hS : va_S (gA g) s.heap s.heap [] := hS
  obtain ⟨H, hHe⟩ : ∃ H : Heap, H = s.heap := ⟨_, rfl⟩
  obtain ⟨locs, hlo⟩ : ∃ k : List Loc, k = [] := ⟨_, rfl⟩
  have hH : gH g I R J AI AJ AR H := by rw [hHe]; exact hH
  have hS : va_S (gA g) s.heap H locs := by rw [hHe, hlo]; exact hS
  suffices hw : W p l e rmX6_takeNextf s m ([.ref x] : List Value).toArray below meth c H locs 0 0 (MQ below (gQv g (fun w : gS => J = w.2.2.1 ∧ AJ = w.2.2.2.2.1 ∧ AR = w.2.2.2.2.2 ∧ (gInv g gh (w.2.1) AR (w.1) (w.2.2.2.1)) ∧ (rF g I (w.1)) ∧ (xS g gh (w.2.1) AR x pA nA bA) ∧ (∀ b k, b ≠ x ∨ (k ≠ 5 ∧ k ≠ 6) → (w.2.1) b k = R b k) ∧ (∀ b, (∀ r, r < 16 → rob AR (gh 35 0) r ≠ b) → (w.1) b = I b) ∧ (∀ b, (∀ r, r < 16 → gh 0 (rob AR (gh 35 0) r) ≠ b) → (w.2.2.2.1) b = AI b) ∧ (∀ r, r < nr → mvQ gh AR I AI bA nA (w.1) (w.2.2.2.1) r))) ([.ref x] : List Value).toArray s 0 0 (gA g)) (F0 m 0 ls []) by
    rw [hHe, hlo] at hw; exact hw
  clear hHe hlo
  have rf : rF g I I := rF_r
  have h35 := gR_x7 hv hx.1
  have iX6 : ∀ w ∈ u_ws RX6 TX6 18, w ∈ wsX6_takeNext := (by decide +kernel)
  have iX2 : ∀ w ∈ u_ws RX2 TX2 3, w ∈ wsX6_takeNext := (by decide +kernel)
  have k23 : Cond.fieldLink RX6 23 (TX6 3).1 (TX6 3).2.1 (TX6 3).2.2.1 ∈ wsX6_takeNext := List.mem_of_getElem? (i := 1) rfl
  have k96 : Cond.fieldLink RX6 96 (TX2 1).1 (TX2 1).2.1 (TX2 1).2.2.1 ∈ wsX6_takeNext := List.mem_of_getElem? (i := 2) rfl
  have k45 : Cond.fieldLink RX6 45 (TX6 7).1 (TX6 7).2.1 (TX6 7).2.2.1 ∈ wsX6_takeNext := List.mem_of_getElem? (i := 3) rfl
  have k42 : Cond.fieldLink RX6 42 (TX6 6).1 (TX6 6).2.1 (TX6 6).2.2.1 ∈ wsX6_takeNext := List.mem_of_getElem? (i := 4) rfl
  have k38 : Cond.fieldLink RX6 38 (TX6 5).1 (TX6 5).2.1 (TX6 5).2.2.1 ∈ wsX6_takeNext := List.mem_of_getElem? (i := 5) rfl
  refine z_iconst F dX6_takeNext_0 ?_
  refine lv_istore_n (lv' := [(1, .int (iI 0)), (0, .ref x)]) F.1 F.2.1 dX6_takeNext_1 rfl hl (by decide) rfl (fun ls hl => ?_)
  have cut_2_2 : ∀ (NN : Nat) (i : Int) (I_1 : gI) (AI_2 : gI) (H : Heap) (locs : List Loc) (ls : Array Slot), zr i → (gInv g gh R AR I_1 AI_2) → (rF g I I_1) → (0 ≤ i ∧ i ≤ 16) → (∀ b, (∀ r, r < 16 → rob AR (gh 35 0) r ≠ b) → I_1 b = I b) → (∀ b, (∀ r, r < 16 → gh 0 (rob AR (gh 35 0) r) ≠ b) → AI_2 b = AI b) → (∀ r : Nat, (r : Int) < i → mvQ gh AR I AI bA nA I_1 AI_2 r) → (16 - i) < ((NN : Nat) : Int) → gH g I_1 R J AI_2 AJ AR H → va_S (gA g) s.heap H locs → lv_has ls 2 [(1, .int (iI i)), (0, .ref x)] → W p l e rmX6_takeNextf s m ([.ref x] : List Value).toArray below meth c H locs 0 0 (MQ below (gQv g (fun w : gS => J = w.2.2.1 ∧ AJ = w.2.2.2.2.1 ∧ AR = w.2.2.2.2.2 ∧ (gInv g gh (w.2.1) AR (w.1) (w.2.2.2.1)) ∧ (rF g I (w.1)) ∧ (xS g gh (w.2.1) AR x pA nA bA) ∧ (∀ b k, b ≠ x ∨ (k ≠ 5 ∧ k ≠ 6) → (w.2.1) b k = R b k) ∧ (∀ b, (∀ r, r < 16 → rob AR (gh 35 0) r ≠ b) → (w.1) b = I b) ∧ (∀ b, (∀ r, r < 16 → gh 0 (rob AR (gh 35 0) r) ≠ b) → (w.2.2.2.1) b = AI b) ∧ (∀ r, r < nr → mvQ gh AR I AI bA nA (w.1) (w.2.2.2.1) r))) ([.ref x] : List Value).toArray s 0 0 (gA g)) (F0 m 2 ls []) := by
    intro NN2
    induction NN2 with
    | zero =>
      intro i I_1 AI_2 H locs ls zi hv rf hi fT fM hmv hm2 hH hS hl
      exact absurd hm2 (by omega)
    | succ NN2 ih2 =>
      intro i I_1 AI_2 H locs ls zi hv rf hi fT fM hmv hm2 hH hS hl
      have hpI : I_1 pA = I pA := rf pA 2 hx.2.2.1 (by decide)
      have hp1 : (I_1 pA 1).toInt = (nr : Int) := by rw [hpI]; exact hlen
      refine lv_iload_n F.1 F.2.1 dX6_takeNext_2 rfl (lv_at hl 0 rfl) ?_
      refine lv_aload_n F.1 F.2.1 dX6_takeNext_3 rfl (lv_at hl 1 rfl) ?_
      refine g_getR (ci := 6) (k := 3) F hH rfl (by decide) iX6 hx.1 (by decide) rfl (b := pA) hx.2.1 k23 dX6_takeNext_4 ?_
      refine g_getI (ci := 2) (k := 1) F hH rfl (by decide) iX2 hx.2.2.1 (by decide) rfl k96 dX6_takeNext_7 ?_
      have b_4 := gI_plan hv hx.2.2.1
      refine z_icmp_ge (tgt := 42) F dX6_takeNext_10 (by decide) zi (zr_t _) (fun c_5 => ?_) (fun c_5 => ?_)
      · refine lv_aload_n F.1 F.2.1 dX6_takeNext_42 rfl (lv_at hl 1 rfl) ?_
        refine g_getR (ci := 6) (k := 5) F hH rfl (by decide) iX6 hx.1 (by decide) rfl (b := bA) hx.2.2.2.1 k38 dX6_takeNext_43 ?_
        refine lv_astore_n (lv' := [(1, .ref bA), (0, .ref x)]) F.1 F.2.1 dX6_takeNext_46 rfl hl (by decide) rfl (fun ls hl => ?_)
        refine lv_aload_n F.1 F.2.1 dX6_takeNext_47 rfl (lv_at hl 1 rfl) ?_
        refine lv_aload_n F.1 F.2.1 dX6_takeNext_48 rfl (lv_at hl 1 rfl) ?_
        refine g_getR (ci := 6) (k := 6) F hH rfl (by decide) iX6 hx.1 (by decide) rfl (b := nA) hx.2.2.2.2.2.1 k42 dX6_takeNext_49 ?_
        refine g_putR (ci := 6) (k := 5) F hH hS rfl (by decide) iX6 hx.1 (by decide) tyX6 tyX6_ok nmX6 rfl (ty := tyX6 5) rfl rfl rfl rfl k38 dX6_takeNext_52 (fun H locs hH hS => ?_)
        obtain ⟨R_6, eR_6⟩ : ∃ qQ, qQ = gup2 R x 5 (some (nA)) := ⟨_, rfl⟩
        rw [← eR_6] at hH
        have kR_6 : ∀ b, b ≠ x → R_6 b = R b := fun b hb => by rw [eR_6]; exact funext fun j => gup2_a _ _ hb
        have hv : gInv g gh R_6 AR I_1 AI_2 := by rw [eR_6]; exact gInv_Rx hv hx.1 (Or.inr ⟨Or.inl rfl, hx.2.2.2.2.2.2⟩)
        refine lv_aload_n F.1 F.2.1 dX6_takeNext_55 rfl (lv_at hl 1 rfl) ?_
        refine lv_aload_n F.1 F.2.1 dX6_takeNext_56 rfl (lv_at hl 0 rfl) ?_
        refine g_putR (ci := 6) (k := 6) F hH hS rfl (by decide) iX6 hx.1 (by decide) tyX6 tyX6_ok nmX6 rfl (ty := tyX6 6) rfl rfl rfl rfl k42 dX6_takeNext_57 (fun H locs hH hS => ?_)
        obtain ⟨R_7, eR_7⟩ : ∃ qQ, qQ = gup2 R_6 x 6 (some (bA)) := ⟨_, rfl⟩
        rw [← eR_7] at hH
        have kR_7 : ∀ b, b ≠ x → R_7 b = R_6 b := fun b hb => by rw [eR_7]; exact funext fun j => gup2_a _ _ hb
        have hv : gInv g gh R_7 AR I_1 AI_2 := by rw [eR_7]; exact gInv_Rx hv hx.1 (Or.inr ⟨Or.inr rfl, hx.2.2.2.2.1⟩)
        have xs2 : xS g gh R_7 AR x pA nA bA := ⟨hx.1, by rw [eR_7, gup2_k _ _ (by decide), eR_6, gup2_k _ _ (by decide)]; exact hx.2.1, hx.2.2.1, by rw [eR_7, gup2_k _ _ (by decide), eR_6, gup2_s], hx.2.2.2.2.2.2, by rw [eR_7, gup2_s], hx.2.2.2.2.1⟩
        have rk : ∀ b k, b ≠ x ∨ (k ≠ 5 ∧ k ≠ 6) → R_7 b k = R b k := fun b k h => by
          rw [eR_7, eR_6]
          rcases h with h | h
          · rw [gup2_a _ _ h, gup2_a _ _ h]
          · rw [gup2_k _ _ h.2, gup2_k _ _ h.1]
        exact g_vret F hr hlk hH hS hz ⟨rfl, rfl, rfl, hv, rf, xs2, rk, fT, fM, fun r hr => hmv r (by omega)⟩ dX6_takeNext_60
      · refine lv_aload_n F.1 F.2.1 dX6_takeNext_13 rfl (lv_at hl 1 rfl) ?_
        obtain ⟨r_8a, r_8b⟩ := gR_x7 hv hx.1
        refine g_getR (ci := 6) (k := 7) F hH rfl (by decide) iX6 hx.1 (by decide) rfl (b := gh 35 0) r_8a k45 dX6_takeNext_14 ?_
        refine lv_iload_n F.1 F.2.1 dX6_takeNext_17 rfl (lv_at hl 0 rfl) ?_
        have hx18 : 0 ≤ i ∧ i < ((16 : Nat) : Int) ∧ i ≤ 2147483647 := ⟨by omega, by omega, by omega⟩
        obtain ⟨y_9, y_9a, y_9b, y_9c, y_9d, y_9e⟩ := r_8b.2 (i).toNat (by omega)
        refine g_aldR F hH r_8b.1 hx18.1 hx18.2.1 hx18.2.2 (b := y_9) y_9a dX6_takeNext_18 ?_
        refine lv_aload_n F.1 F.2.1 dX6_takeNext_19 rfl (lv_at hl 1 rfl) ?_
        refine g_getR (ci := 6) (k := 6) F hH rfl (by decide) iX6 hx.1 (by decide) rfl (b := nA) hx.2.2.2.2.2.1 k42 dX6_takeNext_20 ?_
        refine lv_iload_n F.1 F.2.1 dX6_takeNext_23 rfl (lv_at hl 0 rfl) ?_
        have hx24 : 0 ≤ i ∧ i < ((16 : Nat) : Int) ∧ i ≤ 2147483647 := ⟨by omega, by omega, by omega⟩
        obtain ⟨y_10, y_10a, y_10b, y_10c, y_10d, y_10e⟩ := hx.2.2.2.2.2.2.2 (i).toNat (by omega)
        refine g_aldR F hH hx.2.2.2.2.2.2.1 hx24.1 hx24.2.1 hx24.2.2 (b := y_10) y_10a dX6_takeNext_24 ?_
        refine lv_aload_n F.1 F.2.1 dX6_takeNext_25 rfl (lv_at hl 1 rfl) ?_
        refine g_getR (ci := 6) (k := 5) F hH rfl (by decide) iX6 hx.1 (by decide) rfl (b := bA) hx.2.2.2.1 k38 dX6_takeNext_26 ?_
        refine lv_iload_n F.1 F.2.1 dX6_takeNext_29 rfl (lv_at hl 0 rfl) ?_
        have hx30 : 0 ≤ i ∧ i < ((16 : Nat) : Int) ∧ i ≤ 2147483647 := ⟨by omega, by omega, by omega⟩
        obtain ⟨y_11, y_11a, y_11b, y_11c, y_11d, y_11e⟩ := hx.2.2.2.2.1.2 (i).toNat (by omega)
        refine g_aldR F hH hx.2.2.2.2.1.1 hx30.1 hx30.2.1 hx30.2.2 (b := y_11) y_11a dX6_takeNext_30 ?_
        refine z_iconst F dX6_takeNext_31 ?_
        have rm : rob AR (gh 35 0) i.toNat = y_9 := rob_e y_9a
        have rn : rob AR nA i.toNat = y_10 := rob_e y_10a
        have rb : rob AR bA i.toNat = y_11 := rob_e y_11a
        have hmn : ∀ r, r < 16 → rob AR (gh 35 0) r ≠ y_10 := fun r hr e9 => by have q9 := (isRA_o h35.2 hr).2.2.1; rw [e9, y_10c] at q9; exact absurd q9 (by decide)
        have hcn : ∀ r, r < 16 → gh 0 (rob AR (gh 35 0) r) ≠ gh 0 y_10 := fun r hr => cells_ne hv y_10b (isRA_o h35.2 hr).2.1 (hmn r hr)
        have hIn : I_1 y_10 = I y_10 := fT _ hmn
        have hAn : AI_2 (gh 0 y_10) = AI (gh 0 y_10) := fM _ hcn
        have hln : (I_1 y_10 3).toInt = (((I y_10 3).toInt.toNat : Nat) : Int) := by have q9 := (gI_rows hv y_10b).2.2.1; rw [hIn] at q9 ⊢; omega
        have hkn := hbn i.toNat (by omega)
        unfold bgOK rfC at hkn; rw [rn] at hkn; dsimp only at hkn
        have hon : okB (AI_2 (gh 0 y_10)) (I y_10 3).toInt.toNat := by rw [hAn]; exact hkn.1
        have hmb : ∀ r, r < 16 → rob AR (gh 35 0) r ≠ y_11 := fun r hr e9 => by have q9 := (isRA_o h35.2 hr).2.2.1; rw [e9, y_11c] at q9; exact absurd q9 (by decide)
        have hcb : ∀ r, r < 16 → gh 0 (rob AR (gh 35 0) r) ≠ gh 0 y_11 := fun r hr => cells_ne hv y_11b (isRA_o h35.2 hr).2.1 (hmb r hr)
        have hIb : I_1 y_11 = I y_11 := fT _ hmb
        have hAb : AI_2 (gh 0 y_11) = AI (gh 0 y_11) := fM _ hcb
        have hlb : (I_1 y_11 3).toInt = (((I y_11 3).toInt.toNat : Nat) : Int) := by have q9 := (gI_rows hv y_11b).2.2.1; rw [hIb] at q9 ⊢; omega
        have hkb := hbg i.toNat (by omega)
        unfold bgOK rfC at hkb; rw [rb] at hkb; dsimp only at hkb
        have hob : okB (AI_2 (gh 0 y_11)) (I y_11 3).toInt.toNat := by rw [hAb]; exact hkb.1
        obtain ⟨b_12a, b_12b, b_12c, b_12d, b_12e, b_12f, b_12g, b_12h⟩ := gI_rows hv y_9b
        obtain ⟨b_13a, b_13b, b_13c, b_13d, b_13e, b_13f, b_13g, b_13h⟩ := gI_rows hv y_10b
        obtain ⟨b_14a, b_14b, b_14c, b_14d, b_14e, b_14f, b_14g, b_14h⟩ := gI_rows hv y_11b
        refine g_calli (g_runV (As := [.ref y_10, .ref y_11, .int (iI ((-1)))]) (rest := []) (ci := 4) F hl.1 hH hS hz (c_X4_gatherf l g gh ((I y_10 3).toInt.toNat) ((I y_11 3).toInt.toNat) (fun t => bS (AI_2 (gh 0 y_10)) (I y_10 3).toInt.toNat t + iI (-1) * bS (AI_2 (gh 0 y_11)) (I y_11 3).toInt.toNat t) I_1 R J AI_2 AJ AR y_9 y_10 y_11 (-1) ⟨by decide, by decide⟩ hv y_9b y_10b y_11b (by omega) (by omega) (by rw [← rm]; exact (hmn i.toNat (by omega)).symm) (by rw [← rm]; exact (hmb i.toNat (by omega)).symm) (by omega) hln hlb hon hob (fun _ => rfl)) (cwV 3 F.2.2.2.2.1 gX6_takeNext_X4_gather rfl rfl rfl hdX4_gather ⟨Nat.le_of_ble_eq_true rfl, Nat.le_of_ble_eq_true rfl⟩) y_9b (by decide) rfl rfl rfl (Nat.le_of_ble_eq_true rfl) dX6_takeNext_32 ⟨Nat.zero_le _, Nat.zero_le _⟩) hS (fun v_21 I_15 R_16 J_17 AI_18 AJ_19 AR_20 H locs zv_21 hp_22 hH hS => ?_)
        dsimp only at hp_22
        obtain ⟨rfl, rfl, rfl, rfl, hv, q_23, q_24, qga⟩ := hp_22
        have rf := rF_t rf (rF_o y_9b q_23)
        have u_25p : I_15 pA = I pA := rf pA 2 hx.2.2.1 (by decide)
        have u_25p1 : (I_15 pA 1).toInt = (I pA 1).toInt := by rw [u_25p]
        have u_25p2 : (I_15 pA 2).toInt = (I pA 2).toInt := by rw [u_25p]
        refine lv_pop F.1 F.2.1 dX6_takeNext_35 rfl ?_
        have hfi : ∀ b, b ≠ rob AR (gh 35 0) i.toNat → I_15 b = I_1 b := by rw [rm]; exact q_23
        have hfa : ∀ b, b ≠ gh 0 (rob AR (gh 35 0) i.toNat) → AI_18 b = AI_2 b := by rw [rm]; exact q_24
        have hga9 := (qga.resolve_right (fun h => by have q8 := ga_cnt hkn.1 hkb.1 (by rw [← hAn, ← hAb]; exact h.2); rw [y_9c] at q8; have q7 := hkn.2.1; have q6 := hkb.2.1; omega)).2
        have hl0 := (gI_rows hv y_9b).2.2.1
        have fT : ∀ b, (∀ r, r < 16 → rob AR (gh 35 0) r ≠ b) → I_15 b = I b := fun b hb => (hfi b (fun e9 => hb i.toNat (by omega) e9.symm)).trans (fT b hb)
        have fM : ∀ b, (∀ r, r < 16 → gh 0 (rob AR (gh 35 0) r) ≠ b) → AI_18 b = AI b := fun b hb => (hfa b (fun e9 => hb i.toNat (by omega) e9.symm)).trans (fM b hb)
        have hmv9 : ∀ r : Nat, (r : Int) < i + 1 → mvQ gh AR I AI bA nA I_15 AI_18 r := fun r hr => by
          by_cases e9 : (r : Int) < i
          · have q9 := hmv r e9
            have ne : rob AR (gh 35 0) r ≠ rob AR (gh 35 0) i.toNat := fun e8 => absurd (hDm r i.toNat (by omega) (by omega) e8) (by omega)
            unfold mvQ at q9 ⊢
            rw [hfi _ ne, hfa _ (cells_ne hv (isRA_o h35.2 (by omega)).2.1 (isRA_o h35.2 (by omega)).2.1 ne)]; exact q9
          · rw [show r = i.toNat by omega]; unfold mvQ; rw [rm, rn, rb, ← hAn, ← hAb]; exact ⟨hga9, by omega⟩
        refine z_iinc (lv' := [(1, .int (iI (i + 1))), (0, .ref x)]) F dX6_takeNext_36 hl (k := 0) rfl (by decide) rfl (fun ls hl => ?_)
        refine z_goto (tgt := 2) F dX6_takeNext_39 (by decide) ?_
        exact ih2 (i + 1) I_15 AI_18 H locs ls ⟨by omega, by omega⟩ hv rf (by omega) fT fM hmv9 (by omega) hH hS (lv_sub hl [0, 1] rfl)
  exact cut_2_2 (((16 - 0) + 1 : Int).toNat) 0 I AI H locs ls ⟨by decide, by decide⟩ hv rf (by omega) (fun _ _ => rfl) (fun _ _ => rfl) (fun r hr => absurd hr (by omega)) (by omega) hH hS (lv_sub hl [0, 1] rfl)
end
section
def rmX6_rememberf : Room := { frames := 2, cells := 0, slots := 0, locals := 81 }
set_option maxHeartbeats 4000000 in
set_option maxRecDepth 100000 in
/-- remembers a batch -/
theorem c_X6_rememberf (l : Launch) (g : gG) (gh : gGh) (pA bA nA : Nat) (nb : Nat) (I : gI) (R : gR) (J : gJ) (AI : gI) (AJ : gJ) (AR : gR) (x : Nat) (ch : Nat) (hv : gInv g gh R AR I AI) (hx : xS g gh R AR x pA bA nA) (hch : gO g ch 4) (h5 : gh 2 ch = 5) (hnb : (I ch 3).toInt = (nb : Int)) (hnb4 : nb ≤ 40) : gMet l g yX6_remember wsX6_remember rmX6_rememberf [.ref x, .ref ch] (I, R, J, AI, AJ, AR) (gQv g (fun w : gS => R = w.2.1 ∧ J = w.2.2.1 ∧ AJ = w.2.2.2.2.1 ∧ AR = w.2.2.2.2.2 ∧ (gInv g gh R AR (w.1) (w.2.2.2.1)) ∧ (xF g x I (w.1)) ∧ (∀ b j, b ≠ x ∨ (j ≠ 14 ∧ j ≠ 15) → b ≠ rob AR (gh 36 0) (I x 14).toInt.toNat → (w.1) b j = I b j) ∧ (∀ b, b ≠ gh 0 (rob AR (gh 36 0) (I x 14).toInt.toNat) → (w.2.2.2.1) b = AI b) ∧ (((w.1) x 14).toInt = ((I x 14).toInt + 1) % 8 ∧ ((I x 15).toInt < 8 → ((w.1) x 15).toInt = (I x 15).toInt + 1) ∧ ((I x 15).toInt = 8 → ((w.1) x 15).toInt = 8)) ∧ (((w.1) (rob AR (gh 36 0) (I x 14).toInt.toNat) 3).toInt = (nb : Int) ∧ rwA ((w.2.2.2.1) (gh 0 (rob AR (gh 36 0) (I x 14).toInt.toNat))) (AI (gh 0 ch)) nb))) := by
  refine gStart (cc := cX6_remember) (maxL := 2) (ret := none) (by decide) rfl (Nat.le_of_ble_eq_true rfl) ?_
  intro p e s m below meth c ls F hr hlk hH hz hS hl
  have hl : lv_has ls 2 [(0, .ref x), (1, .ref ch)] := hl
  have hS : va_S (gA g) s.heap s.heap [] := hS
  obtain ⟨H, hHe⟩ : ∃ H : Heap, H = s.heap := ⟨_, rfl⟩
  obtain ⟨locs, hlo⟩ : ∃ k : List Loc, k = [] := ⟨_, rfl⟩
  have hH : gH g I R J AI AJ AR H := by rw [hHe]; exact hH
  have hS : va_S (gA g) s.heap H locs := by rw [hHe, hlo]; exact hS
  suffices hw : W p l e rmX6_rememberf s m ([.ref x, .ref ch] : List Value).toArray below meth c H locs 0 0 (MQ below (gQv g (fun w : gS => R = w.2.1 ∧ J = w.2.2.1 ∧ AJ = w.2.2.2.2.1 ∧ AR = w.2.2.2.2.2 ∧ (gInv g gh R AR (w.1) (w.2.2.2.1)) ∧ (xF g x I (w.1)) ∧ (∀ b j, b ≠ x ∨ (j ≠ 14 ∧ j ≠ 15) → b ≠ rob AR (gh 36 0) (I x 14).toInt.toNat → (w.1) b j = I b j) ∧ (∀ b, b ≠ gh 0 (rob AR (gh 36 0) (I x 14).toInt.toNat) → (w.2.2.2.1) b = AI b) ∧ (((w.1) x 14).toInt = ((I x 14).toInt + 1) % 8 ∧ ((I x 15).toInt < 8 → ((w.1) x 15).toInt = (I x 15).toInt + 1) ∧ ((I x 15).toInt = 8 → ((w.1) x 15).toInt = 8)) ∧ (((w.1) (rob AR (gh 36 0) (I x 14).toInt.toNat) 3).toInt = (nb : Int) ∧ rwA ((w.2.2.2.1) (gh 0 (rob AR (gh 36 0) (I x 14).toInt.toNat))) (AI (gh 0 ch)) nb))) ([.ref x, .ref ch] : List Value).toArray s 0 0 (gA g)) (F0 m 0 ls []) by
    rw [hHe, hlo] at hw; exact hw
  clear hHe hlo
  have xf : xF g x I I := xF_r
  have iX6 : ∀ w ∈ u_ws RX6 TX6 18, w ∈ wsX6_remember := (by decide +kernel)
  have k74 : Cond.fieldLink RX6 74 (TX6 13).1 (TX6 13).2.1 (TX6 13).2.2.1 ∈ wsX6_remember := List.mem_of_getElem? (i := 1) rfl
  have k160 : Cond.fieldLink RX6 160 (TX6 14).1 (TX6 14).2.1 (TX6 14).2.2.1 ∈ wsX6_remember := List.mem_of_getElem? (i := 2) rfl
  have k100 : Cond.fieldLink RX6 100 (TX6 15).1 (TX6 15).2.1 (TX6 15).2.2.1 ∈ wsX6_remember := List.mem_of_getElem? (i := 3) rfl
  refine lv_aload_n F.1 F.2.1 dX6_remember_0 rfl (lv_at hl 0 rfl) ?_
  obtain ⟨r_1a, r_1b⟩ := gR_x13 hv hx.1
  refine g_getR (ci := 6) (k := 13) F hH rfl (by decide) iX6 hx.1 (by decide) rfl (b := gh 36 0) r_1a k74 dX6_remember_1 ?_
  refine lv_aload_n F.1 F.2.1 dX6_remember_4 rfl (lv_at hl 0 rfl) ?_
  refine g_getI (ci := 6) (k := 14) F hH rfl (by decide) iX6 hx.1 (by decide) rfl k160 dX6_remember_5 ?_
  have b_2 := gI_x hv hx.1
  have hx8 : 0 ≤ ((I x 14).toInt) ∧ ((I x 14).toInt) < ((8 : Nat) : Int) ∧ ((I x 14).toInt) ≤ 2147483647 := ⟨by omega, by omega, by omega⟩
  obtain ⟨y_3, y_3a, y_3b, y_3c, y_3d, y_3e⟩ := r_1b.2 (((I x 14).toInt)).toNat (by omega)
  refine g_aldR F hH r_1b.1 hx8.1 hx8.2.1 hx8.2.2 (b := y_3) y_3a dX6_remember_8 ?_
  have rh : rob AR (gh 36 0) (I x 14).toInt.toNat = y_3 := rob_e y_3a
  refine lv_aload_n F.1 F.2.1 dX6_remember_9 rfl (lv_at hl 1 rfl) ?_
  obtain ⟨b_4a, b_4b, b_4c, b_4d, b_4e, b_4f, b_4g, b_4h⟩ := gI_rows hv y_3b
  obtain ⟨b_5a, b_5b, b_5c, b_5d, b_5e, b_5f, b_5g, b_5h⟩ := gI_rows hv hch
  refine g_callv (g_runV (As := [.ref ch]) (rest := []) (ci := 4) F hl.1 hH hS hz (c_X4_copyFromf l g gh I R J AI AJ AR y_3 ch hv y_3b hch (by omega) (by first | exact hfz | omega)) (cwV 1 F.2.2.2.2.1 gX6_remember_X4_copyFrom rfl rfl rfl hdX4_copyFrom ⟨Nat.le_of_ble_eq_true rfl, Nat.le_of_ble_eq_true rfl⟩) y_3b (by decide) rfl rfl rfl (Nat.le_of_ble_eq_true rfl) dX6_remember_10 ⟨Nat.zero_le _, Nat.zero_le _⟩) hS (fun I_6 R_7 J_8 AI_9 AJ_10 AR_11 H locs hp_12 hH hS => ?_)
  dsimp only at hp_12
  obtain ⟨rfl, rfl, rfl, rfl, hv, q_13, q_14, qcp⟩ := hp_12
  have xf := xF_t xf (xF_rF hx.1 (rF_o y_3b q_13))
  have u_15 : (I_6 x 1).toInt = (I x 1).toInt := by rw [xf.2]
  have u_15p : I_6 pA = I pA := xf.1 pA 2 hx.2.2.1 (by decide) (by decide)
  have u_15p1 : (I_6 pA 1).toInt = (I pA 1).toInt := by rw [u_15p]
  have u_15p2 : (I_6 pA 2).toInt = (I pA 2).toInt := by rw [u_15p]
  have rI1 : ∀ b, b ≠ y_3 → I_6 b = I b := q_13
  have rA1 : ∀ b, b ≠ gh 0 y_3 → AI_9 b = AI b := q_14
  have hcp := qcp (by rw [y_3c, hnb]; omega)
  refine lv_aload_n F.1 F.2.1 dX6_remember_13 rfl (lv_at hl 0 rfl) ?_
  refine lv_aload_n F.1 F.2.1 dX6_remember_14 rfl (lv_at hl 0 rfl) ?_
  refine g_getI (ci := 6) (k := 14) F hH rfl (by decide) iX6 hx.1 (by decide) rfl k160 dX6_remember_15 ?_
  have b_16 := gI_x hv hx.1
  refine z_iconst F dX6_remember_18 ?_
  refine z_iadd F dX6_remember_19 ?_
  refine z_bipush F dX6_remember_20 (by decide) ?_
  refine z_irem F (by omega) (by omega) (by omega) (by omega) dX6_remember_22 ?_
  refine g_putI (ci := 6) (k := 14) F hH hS rfl (by decide) iX6 hx.1 (by decide) tyX6 tyX6_ok nmX6 rfl rfl rfl k160 dX6_remember_23 (fun H locs hH hS => ?_)
  obtain ⟨I_17, eI_17⟩ : ∃ qQ, qQ = gup2 I_6 x 14 (iI ((((I_6 x 14).toInt) + 1) % 8)) := ⟨_, rfl⟩
  rw [← eI_17] at hH
  have kI_17 : ∀ b, b ≠ x → I_17 b = I_6 b := fun b hb => by rw [eI_17]; exact funext fun j => gup2_a _ _ hb
  have w_18 : (I_17 x 14).toInt = (((I_6 x 14).toInt) + 1) % 8 := by rw [eI_17, gup2_s]; exact iI_val ⟨by omega, by omega⟩
  have hv : gInv g gh R AR I_17 AI_9 := by rw [eI_17]; exact gInv_x14 hv hx.1 (by omega) (by omega)
  have xf : xF g x I I_17 := xF_t xf (by rw [eI_17]; exact xF_k hx.1 (by decide))
  have w_18t : (I_17 x 1).toInt = (I x 1).toInt := by rw [xf.2]
  have w_18_15 : (I_17 x 15).toInt = (I_6 x 15).toInt := by rw [eI_17, gup2_k _ _ (by decide)]
  have rx14 : ∀ b j, b ≠ x ∨ (j ≠ 14 ∧ j ≠ 15) → I_17 b j = I_6 b j := fun b j h => by rw [eI_17]; rcases h with h | h; (· rw [gup2_a _ _ h]); (· rw [gup2_k _ _ (by omega)])
  have rv14 : (I_17 x 14).toInt = (((I_6 x 14).toInt) + 1) % 8 := by rw [eI_17, gup2_s]; exact iI_val ⟨by omega, by omega⟩
  refine lv_aload_n F.1 F.2.1 dX6_remember_26 rfl (lv_at hl 0 rfl) ?_
  refine lv_aload_n F.1 F.2.1 dX6_remember_27 rfl (lv_at hl 0 rfl) ?_
  refine g_getI (ci := 6) (k := 15) F hH rfl (by decide) iX6 hx.1 (by decide) rfl k100 dX6_remember_28 ?_
  have b_19 := gI_x hv hx.1
  refine z_iconst F dX6_remember_31 ?_
  refine z_iadd F dX6_remember_32 ?_
  refine z_bipush F dX6_remember_33 (by decide) ?_
  refine z_mmin (rest := [.ref x]) F hl.1 (List.mem_of_getElem? (i := 4) rfl) (List.mem_of_getElem? (i := 5) rfl) (List.mem_of_getElem? (i := 6) rfl) (List.mem_of_getElem? (i := 7) rfl) (Nat.le_of_ble_eq_true rfl) (Nat.le_of_ble_eq_true rfl) (Nat.zero_le _) (Nat.zero_le _) ⟨by omega, by omega⟩ ⟨by decide, by decide⟩ dX6_remember_35 (fun v_20 zv_20 qv_20 => ?_)
  refine g_putI (ci := 6) (k := 15) F hH hS rfl (by decide) iX6 hx.1 (by decide) tyX6 tyX6_ok nmX6 rfl rfl rfl k100 dX6_remember_38 (fun H locs hH hS => ?_)
  obtain ⟨I_21, eI_21⟩ : ∃ qQ, qQ = gup2 I_17 x 15 (iI (v_20)) := ⟨_, rfl⟩
  rw [← eI_21] at hH
  have kI_21 : ∀ b, b ≠ x → I_21 b = I_17 b := fun b hb => by rw [eI_21]; exact funext fun j => gup2_a _ _ hb
  have w_22 : (I_21 x 15).toInt = v_20 := by rw [eI_21, gup2_s]; exact iI_val ⟨by omega, by omega⟩
  have hv : gInv g gh R AR I_21 AI_9 := by rw [eI_21]; exact gInv_x15 hv hx.1 (by omega) (by omega)
  have xf : xF g x I I_21 := xF_t xf (by rw [eI_21]; exact xF_k hx.1 (by decide))
  have w_22t : (I_21 x 1).toInt = (I x 1).toInt := by rw [xf.2]
  have w_22_14 : (I_21 x 14).toInt = (I_17 x 14).toInt := by rw [eI_21, gup2_k _ _ (by decide)]
  have rx15 : ∀ b j, b ≠ x ∨ (j ≠ 14 ∧ j ≠ 15) → I_21 b j = I_6 b j := fun b j h => by rw [eI_21]; rcases h with h | h; (· rw [gup2_a _ _ h]; exact rx14 b j (Or.inl h)); (· rw [gup2_k _ _ (by omega)]; exact rx14 b j (Or.inr h))
  have rv15 : (I_21 x 15).toInt = v_20 := by rw [eI_21, gup2_s]; exact iI_val zv_20
  have rv14 : (I_21 x 14).toInt = (((I_6 x 14).toInt) + 1) % 8 := by rw [eI_21, gup2_k _ _ (by decide)]; exact rv14
  exact g_vret F hr hlk hH hS hz ⟨rfl, rfl, rfl, rfl, hv, xf, fun b j h h2 => (rx15 b j h).trans (congrFun (rI1 b (by rw [← rh]; exact h2)) j), by (try dsimp only); rw [rh]; exact rA1, by
      (try dsimp only)
      rw [rv14, rv15]
      have e14 : (I_6 x 14).toInt = (I x 14).toInt := by rw [rI1 x (gO_ne hx.1 y_3b (by decide))]
      have e15 : (I_6 x 15).toInt = (I x 15).toInt := by rw [rI1 x (gO_ne hx.1 y_3b (by decide))]
      exact ⟨by omega, fun h => by omega, fun h => by omega⟩, by
      (try dsimp only)
      rw [rh, rx15 _ 3 (Or.inr (by decide)), ← hnb]
      rw [show (I ch 3).toInt.toNat = nb by omega] at hcp
      exact ⟨hcp.1, hcp.2⟩⟩ dX6_remember_41
end
section
def rmX6_movedInViewsf : Room := { frames := 0, cells := 0, slots := 0, locals := 0 }
set_option maxHeartbeats 4000000 in
set_option maxRecDepth 100000 in
/-- what moved in views -/
theorem c_X6_movedInViewsf (l : Launch) (g : gG) (gh : gGh) (pA bA nA : Nat) (nr : Nat) (I : gI) (R : gR) (J : gJ) (AI : gI) (AJ : gJ) (AR : gR) (x : Nat) (hv : gInv g gh R AR I AI) (hx : xS g gh R AR x pA bA nA) (hlen : (I pA 1).toInt = (nr : Int)) (htb2 : 0 ≤ (I pA 2).toInt ∧ (I pA 2).toInt ≤ (nr : Int) ∧ nr ≤ 16) : gMet l g yX6_movedInViews wsX6_movedInViews rmX6_movedInViewsf [.ref x] (I, R, J, AI, AJ, AR) (gQi g (fun (z : Int) (w : gS) => I = w.1 ∧ R = w.2.1 ∧ J = w.2.2.1 ∧ AI = w.2.2.2.1 ∧ AJ = w.2.2.2.2.1 ∧ AR = w.2.2.2.2.2 ∧ (0 ≤ z ∧ z ≤ 3840) ∧ (z = smL (lnR AR I (gh 35 0)) (I pA 2).toInt.toNat (nr - (I pA 2).toInt.toNat)))) := by
  refine gStart (cc := cX6_movedInViews) (maxL := 3) (ret := (some (.int))) (by decide) rfl (Nat.le_of_ble_eq_true rfl) ?_
  intro p e s m below meth c ls F hr hlk hH hz hS hl
  have hl : lv_has ls 3 [(0, .ref x)] := hl
  have hS : va_S (gA g) s.heap s.heap [] := hS
  obtain ⟨H, hHe⟩ : ∃ H : Heap, H = s.heap := ⟨_, rfl⟩
  obtain ⟨locs, hlo⟩ : ∃ k : List Loc, k = [] := ⟨_, rfl⟩
  have hH : gH g I R J AI AJ AR H := by rw [hHe]; exact hH
  have hS : va_S (gA g) s.heap H locs := by rw [hHe, hlo]; exact hS
  suffices hw : W p l e rmX6_movedInViewsf s m ([.ref x] : List Value).toArray below meth c H locs 0 0 (MQ below (gQi g (fun (z : Int) (w : gS) => I = w.1 ∧ R = w.2.1 ∧ J = w.2.2.1 ∧ AI = w.2.2.2.1 ∧ AJ = w.2.2.2.2.1 ∧ AR = w.2.2.2.2.2 ∧ (0 ≤ z ∧ z ≤ 3840) ∧ (z = smL (lnR AR I (gh 35 0)) (I pA 2).toInt.toNat (nr - (I pA 2).toInt.toNat)))) ([.ref x] : List Value).toArray s 0 0 (gA g)) (F0 m 0 ls []) by
    rw [hHe, hlo] at hw; exact hw
  clear hHe hlo
  have iX6 : ∀ w ∈ u_ws RX6 TX6 18, w ∈ wsX6_movedInViews := (by decide +kernel)
  have iX4 : ∀ w ∈ u_ws RX4 TX4 4, w ∈ wsX6_movedInViews := (by decide +kernel)
  have iX2 : ∀ w ∈ u_ws RX2 TX2 3, w ∈ wsX6_movedInViews := (by decide +kernel)
  have k23 : Cond.fieldLink RX6 23 (TX6 3).1 (TX6 3).2.1 (TX6 3).2.2.1 ∈ wsX6_movedInViews := List.mem_of_getElem? (i := 1) rfl
  have k122 : Cond.fieldLink RX6 122 (TX2 2).1 (TX2 2).2.1 (TX2 2).2.2.1 ∈ wsX6_movedInViews := List.mem_of_getElem? (i := 2) rfl
  have k96 : Cond.fieldLink RX6 96 (TX2 1).1 (TX2 1).2.1 (TX2 1).2.2.1 ∈ wsX6_movedInViews := List.mem_of_getElem? (i := 3) rfl
  have k45 : Cond.fieldLink RX6 45 (TX6 7).1 (TX6 7).2.1 (TX6 7).2.2.1 ∈ wsX6_movedInViews := List.mem_of_getElem? (i := 4) rfl
  have k99 : Cond.fieldLink RX6 99 (TX4 3).1 (TX4 3).2.1 (TX4 3).2.2.1 ∈ wsX6_movedInViews := List.mem_of_getElem? (i := 5) rfl
  refine z_iconst F dX6_movedInViews_0 ?_
  refine lv_istore_n (lv' := [(1, .int (iI 0)), (0, .ref x)]) F.1 F.2.1 dX6_movedInViews_1 rfl hl (by decide) rfl (fun ls hl => ?_)
  refine lv_aload_n F.1 F.2.1 dX6_movedInViews_2 rfl (lv_at hl 1 rfl) ?_
  refine g_getR (ci := 6) (k := 3) F hH rfl (by decide) iX6 hx.1 (by decide) rfl (b := pA) hx.2.1 k23 dX6_movedInViews_3 ?_
  refine g_getI (ci := 2) (k := 2) F hH rfl (by decide) iX2 hx.2.2.1 (by decide) rfl k122 dX6_movedInViews_6 ?_
  have b_1 := gI_plan hv hx.2.2.1
  refine lv_istore_n (lv' := [(2, .int (iI ((I pA 2).toInt))), (1, .int (iI 0)), (0, .ref x)]) F.1 F.2.1 dX6_movedInViews_9 rfl hl (by decide) rfl (fun ls hl => ?_)
  have cut_10_1 : ∀ (NN : Nat) (sm i : Int) (H : Heap) (locs : List Loc) (ls : Array Slot), zr sm → zr i → (0 ≤ i ∧ i ≤ 16 ∧ 0 ≤ sm ∧ sm ≤ 240 * i) → (sm = smL (lnR AR I (gh 35 0)) (I pA 2).toInt.toNat (i - (I pA 2).toInt).toNat ∧ (I pA 2).toInt ≤ i ∧ i ≤ (nr : Int)) → (16 - i) < ((NN : Nat) : Int) → gH g I R J AI AJ AR H → va_S (gA g) s.heap H locs → lv_has ls 3 [(2, .int (iI i)), (1, .int (iI sm)), (0, .ref x)] → W p l e rmX6_movedInViewsf s m ([.ref x] : List Value).toArray below meth c H locs 0 0 (MQ below (gQi g (fun (z : Int) (w : gS) => I = w.1 ∧ R = w.2.1 ∧ J = w.2.2.1 ∧ AI = w.2.2.2.1 ∧ AJ = w.2.2.2.2.1 ∧ AR = w.2.2.2.2.2 ∧ (0 ≤ z ∧ z ≤ 3840) ∧ (z = smL (lnR AR I (gh 35 0)) (I pA 2).toInt.toNat (nr - (I pA 2).toInt.toNat)))) ([.ref x] : List Value).toArray s 0 0 (gA g)) (F0 m 10 ls []) := by
    intro NN10
    induction NN10 with
    | zero =>
      intro sm i H locs ls zsm zi hi hsm hm10 hH hS hl
      exact absurd hm10 (by omega)
    | succ NN10 ih10 =>
      intro sm i H locs ls zsm zi hi hsm hm10 hH hS hl
      refine lv_iload_n F.1 F.2.1 dX6_movedInViews_10 rfl (lv_at hl 0 rfl) ?_
      refine lv_aload_n F.1 F.2.1 dX6_movedInViews_11 rfl (lv_at hl 2 rfl) ?_
      refine g_getR (ci := 6) (k := 3) F hH rfl (by decide) iX6 hx.1 (by decide) rfl (b := pA) hx.2.1 k23 dX6_movedInViews_12 ?_
      refine g_getI (ci := 2) (k := 1) F hH rfl (by decide) iX2 hx.2.2.1 (by decide) rfl k96 dX6_movedInViews_15 ?_
      refine z_icmp_ge (tgt := 39) F dX6_movedInViews_18 (by decide) zi (zr_t _) (fun c_3 => ?_) (fun c_3 => ?_)
      · refine lv_iload_n F.1 F.2.1 dX6_movedInViews_39 rfl (lv_at hl 1 rfl) ?_
        exact g_iret F hr hlk hH hS hz zsm ⟨rfl, rfl, rfl, rfl, rfl, rfl, by first | omega | rfl | (dsimp only; omega), by (try dsimp only); rw [hsm.1]; congr 1; omega⟩ dX6_movedInViews_40
      · refine lv_iload_n F.1 F.2.1 dX6_movedInViews_21 rfl (lv_at hl 1 rfl) ?_
        refine lv_aload_n F.1 F.2.1 dX6_movedInViews_22 rfl (lv_at hl 2 rfl) ?_
        obtain ⟨r_4a, r_4b⟩ := gR_x7 hv hx.1
        refine g_getR (ci := 6) (k := 7) F hH rfl (by decide) iX6 hx.1 (by decide) rfl (b := gh 35 0) r_4a k45 dX6_movedInViews_23 ?_
        refine lv_iload_n F.1 F.2.1 dX6_movedInViews_26 rfl (lv_at hl 0 rfl) ?_
        have hx27 : 0 ≤ i ∧ i < ((16 : Nat) : Int) ∧ i ≤ 2147483647 := ⟨by omega, by omega, by omega⟩
        obtain ⟨y_5, y_5a, y_5b, y_5c, y_5d, y_5e⟩ := r_4b.2 (i).toNat (by omega)
        refine g_aldR F hH r_4b.1 hx27.1 hx27.2.1 hx27.2.2 (b := y_5) y_5a dX6_movedInViews_27 ?_
        have rm : (I y_5 3).toInt = (lnR AR I (gh 35 0)) i.toNat := by unfold lnR; rw [rob_e y_5a]
        refine g_getI (ci := 4) (k := 3) F hH rfl (by decide) iX4 y_5b (by decide) rfl k99 dX6_movedInViews_28 ?_
        obtain ⟨b_6a, b_6b, b_6c, b_6d, b_6e, b_6f, b_6g, b_6h⟩ := gI_rows hv y_5b
        refine z_iadd F dX6_movedInViews_31 ?_
        refine lv_istore_n (lv' := [(1, .int (iI (sm + ((I y_5 3).toInt)))), (2, .int (iI i)), (0, .ref x)]) F.1 F.2.1 dX6_movedInViews_32 rfl hl (by decide) rfl (fun ls hl => ?_)
        refine z_iinc (lv' := [(2, .int (iI (i + 1))), (1, .int (iI (sm + ((I y_5 3).toInt)))), (0, .ref x)]) F dX6_movedInViews_33 hl (k := 1) rfl (by decide) rfl (fun ls hl => ?_)
        refine z_goto (tgt := 10) F dX6_movedInViews_36 (by decide) ?_
        exact ih10 (sm + ((I y_5 3).toInt)) (i + 1) H locs ls ⟨by omega, by omega⟩ ⟨by omega, by omega⟩ (by omega) ⟨by rw [show (i + 1 - (I pA 2).toInt).toNat = (i - (I pA 2).toInt).toNat + 1 by omega, smL, ← hsm.1, rm]; congr 2; omega, by omega, by omega⟩ (by omega) hH hS (lv_sub hl [0, 1, 2] rfl)
  exact cut_10_1 (((16 - ((I pA 2).toInt)) + 1 : Int).toNat) 0 ((I pA 2).toInt) H locs ls ⟨by decide, by decide⟩ (zr_t _) (by omega) ⟨by rw [show ((I pA 2).toInt - (I pA 2).toInt).toNat = 0 by omega]; rfl, by omega, by omega⟩ (by omega) hH hS (lv_sub hl [0, 1, 2] rfl)
end
section
def rmX6_isRelationf : Room := { frames := 0, cells := 0, slots := 0, locals := 0 }
set_option maxHeartbeats 4000000 in
set_option maxRecDepth 100000 in
/-- a relation -/
theorem c_X6_isRelationf (l : Launch) (g : gG) (gh : gGh) (pA bA nA : Nat) (I : gI) (R : gR) (J : gJ) (AI : gI) (AJ : gJ) (AR : gR) (x : Nat) (rel : Int) (zrel : zr rel) (hv : gInv g gh R AR I AI) (hx : xS g gh R AR x pA bA nA) : gMet l g yX6_isRelation wsX6_isRelation rmX6_isRelationf [.ref x, .int (iI rel)] (I, R, J, AI, AJ, AR) (gQi g (fun (z : Int) (w : gS) => I = w.1 ∧ R = w.2.1 ∧ J = w.2.2.1 ∧ AI = w.2.2.2.1 ∧ AJ = w.2.2.2.2.1 ∧ AR = w.2.2.2.2.2 ∧ ((z = 0 ∨ z = 1) ∧ (z = 1 → 0 ≤ rel ∧ rel < (I pA 1).toInt ∧ rel ≤ 15)) ∧ (z = 0 → rel < 0 ∨ (I pA 1).toInt ≤ rel))) := by
  refine gStart (cc := cX6_isRelation) (maxL := 2) (ret := (some (.boolean))) (by decide) rfl (Nat.le_of_ble_eq_true rfl) ?_
  intro p e s m below meth c ls F hr hlk hH hz hS hl
  have hl : lv_has ls 2 [(0, .ref x), (1, .int (iI rel))] := hl
  have hS : va_S (gA g) s.heap s.heap [] := hS
  obtain ⟨H, hHe⟩ : ∃ H : Heap, H = s.heap := ⟨_, rfl⟩
  obtain ⟨locs, hlo⟩ : ∃ k : List Loc, k = [] := ⟨_, rfl⟩
  have hH : gH g I R J AI AJ AR H := by rw [hHe]; exact hH
  have hS : va_S (gA g) s.heap H locs := by rw [hHe, hlo]; exact hS
  suffices hw : W p l e rmX6_isRelationf s m ([.ref x, .int (iI rel)] : List Value).toArray below meth c H locs 0 0 (MQ below (gQi g (fun (z : Int) (w : gS) => I = w.1 ∧ R = w.2.1 ∧ J = w.2.2.1 ∧ AI = w.2.2.2.1 ∧ AJ = w.2.2.2.2.1 ∧ AR = w.2.2.2.2.2 ∧ ((z = 0 ∨ z = 1) ∧ (z = 1 → 0 ≤ rel ∧ rel < (I pA 1).toInt ∧ rel ≤ 15)) ∧ (z = 0 → rel < 0 ∨ (I pA 1).toInt ≤ rel))) ([.ref x, .int (iI rel)] : List Value).toArray s 0 0 (gA g)) (F0 m 0 ls []) by
    rw [hHe, hlo] at hw; exact hw
  clear hHe hlo
  have iX6 : ∀ w ∈ u_ws RX6 TX6 18, w ∈ wsX6_isRelation := (by decide +kernel)
  have iX2 : ∀ w ∈ u_ws RX2 TX2 3, w ∈ wsX6_isRelation := (by decide +kernel)
  have k23 : Cond.fieldLink RX6 23 (TX6 3).1 (TX6 3).2.1 (TX6 3).2.2.1 ∈ wsX6_isRelation := List.mem_of_getElem? (i := 1) rfl
  have k96 : Cond.fieldLink RX6 96 (TX2 1).1 (TX2 1).2.1 (TX2 1).2.2.1 ∈ wsX6_isRelation := List.mem_of_getElem? (i := 2) rfl
  refine lv_iload_n F.1 F.2.1 dX6_isRelation_0 rfl (lv_at hl 1 rfl) ?_
  refine z_if_lt (tgt := 19) F dX6_isRelation_1 (by decide) zrel (fun c_1 => ?_) (fun c_1 => ?_)
  · refine z_iconst F dX6_isRelation_19 ?_
    exact g_zret F hr hlk hH hS hz (by omega) ⟨rfl, rfl, rfl, rfl, rfl, rfl, ⟨by omega, fun _ => by omega⟩, fun h9 => by omega⟩ dX6_isRelation_20
  · refine lv_iload_n F.1 F.2.1 dX6_isRelation_4 rfl (lv_at hl 1 rfl) ?_
    refine lv_aload_n F.1 F.2.1 dX6_isRelation_5 rfl (lv_at hl 0 rfl) ?_
    refine g_getR (ci := 6) (k := 3) F hH rfl (by decide) iX6 hx.1 (by decide) rfl (b := pA) hx.2.1 k23 dX6_isRelation_6 ?_
    refine g_getI (ci := 2) (k := 1) F hH rfl (by decide) iX2 hx.2.2.1 (by decide) rfl k96 dX6_isRelation_9 ?_
    have b_2 := gI_plan hv hx.2.2.1
    refine z_icmp_ge (tgt := 19) F dX6_isRelation_12 (by decide) zrel (zr_t _) (fun c_3 => ?_) (fun c_3 => ?_)
    · refine z_iconst F dX6_isRelation_19 ?_
      exact g_zret F hr hlk hH hS hz (by omega) ⟨rfl, rfl, rfl, rfl, rfl, rfl, ⟨by omega, fun _ => by omega⟩, fun h9 => by omega⟩ dX6_isRelation_20
    · refine z_iconst F dX6_isRelation_15 ?_
      refine z_goto (tgt := 20) F dX6_isRelation_16 (by decide) ?_
      exact g_zret F hr hlk hH hS hz (by omega) ⟨rfl, rfl, rfl, rfl, rfl, rfl, ⟨by omega, fun _ => by omega⟩, fun h9 => by omega⟩ dX6_isRelation_20
end
section
/-- what an undone batch leaves -/
def cmU (gh : gGh) (AR : gR) (x bA nA nr : Nat) (I AI : gI) (Fn : RF) (I' AI' : gI) : Prop :=
  (∀ r, r < nr → rfC gh AR I' AI' nA r = Fn r) ∧ (∀ r, r < nr → isB (rfC gh AR I' AI' (gh 35 0) r).2 (rfC gh AR I' AI' (gh 35 0) r).1 (fun t => bS (Fn r).2 (Fn r).1 t + iI (-1) * bS (rfC gh AR I AI bA r).2 (rfC gh AR I AI bA r).1 t) zM) ∧
  (∀ k, k < 8 → rfC gh AR I' AI' (gh 36 0) k = rfC gh AR I AI (gh 36 0) k) ∧ ((I' x 14).toInt = ((I x 14).toInt + 7) % 8 ∧ (I' x 15).toInt = (I x 15).toInt - 1 ∧ I' x 16 = I x 16 ∧ I' x 17 = I x 17) ∧
  I' (gh 37 0) = I (gh 37 0) ∧ AI' (gh 0 (gh 37 0)) = AI (gh 0 (gh 37 0)) ∧ I' (gh 38 0) = I (gh 38 0)
section Undo
variable {g : gG} {gh : gGh} {R AR : gR} {I I0 I1 I2 AI AI1 AI2 Iq AIq : gI} {x pA bA nA nr r : Nat}
theorem gl_o (hv : gInv g gh R AR Iq AIq) (hp : gO g pA 2) (hr : r < 16) : gO g (rob AR (gh 6 pA) r) 0 := by
  obtain ⟨y, a, b, _⟩ := (hv.2.2.2.1 pA hp).1.2.2.1 r hr
  rw [rob_e a]; exact b
theorem un_x (hv : gInv g gh R AR Iq AIq) (hx : xS g gh R AR x pA bA nA) (fN : nIf gh AR nA I0 I1) (t1 : ∀ b, (∀ r, r < 16 → rob AR (gh 35 0) r ≠ b) → I2 b = I1 b) : I2 x = I0 x := by
  have h35 := (gR_x7 hv hx.1).2
  have h39 := (gR_x10 hv hx.1).2
  rw [t1 x (fun r hr => gO_ne (isRA_o h35 hr).2.1 hx.1 (by decide)), fN x (gO_ne hx.1 h39.1 (by decide)) (fun r hr => (gO_ne hx.1 (isRA_o hx.2.2.2.2.2.2 hr).2.1 (by decide)).symm)]
theorem un_15 (hv : gInv g gh R AR Iq AIq) (hx : xS g gh R AR x pA bA nA) (fN : nIf gh AR nA I0 I1) (t1 : ∀ b, (∀ r, r < 16 → rob AR (gh 35 0) r ≠ b) → I2 b = I1 b) : (I2 x 15).toInt = (I0 x 15).toInt := by rw [un_x hv hx fN t1]
theorem un_yes (hv : gInv g gh R AR Iq AIq) (hx : xS g gh R AR x pA bA nA) (hD : xD gh AR bA nA) (hn : nr ≤ 16) (wx : ∀ b j, b ≠ x ∨ (j ≠ 14 ∧ j ≠ 15) → I0 b j = I b j) (w14 : (I0 x 14).toInt = ((I x 14).toInt + 7) % 8) (w15 : (I0 x 15).toInt = (I x 15).toInt - 1) (fN : nIf gh AR nA I0 I1) (fM : nAf gh AR nA AI AI1)
    (t1 : ∀ b, (∀ r, r < 16 → rob AR (gh 35 0) r ≠ b) → I2 b = I1 b) (t2 : ∀ b, (∀ r, r < 16 → gh 0 (rob AR (gh 35 0) r) ≠ b) → AI2 b = AI1 b) (t3 : ∀ r, r < nr → mvQ gh AR I1 AI1 bA nA I2 AI2 r) : cmU gh AR x bA nA nr I AI (rfC gh AR I1 AI1 nA) I2 AI2 := by
  have hb := hx.2.2.2.2.1
  have hnn := hx.2.2.2.2.2.2
  have h35 := (gR_x7 hv hx.1).2
  have h36 := (gR_x13 hv hx.1).2
  have h37 := (gR_x8 hv hx.1).2
  have h38 := (gR_x9 hv hx.1).2
  have h39 := (gR_x10 hv hx.1).2
  have bags := cmS_n hv hx hD fN fM
  have eX := un_x hv hx fN t1
  have wo : ∀ b, b ≠ x → I0 b = I b := fun b h => funext fun j => wx b j (Or.inl h)
  have w0 : ∀ b r, rfC gh AR I0 AI b r = rfC gh AR I AI b r := fun b r => by unfold rfC; rw [wx _ 3 (Or.inr (by decide))]
  have take : ∀ {b n lim key}, isRA g gh AR b n lim key → lim ≠ 240 → ∀ r, r < n → rfC gh AR I2 AI2 b r = rfC gh AR I1 AI1 b r := fun {b n lim key} h hl r hr => by
    have o := isRA_o h hr
    have nm : ∀ q, q < 16 → rob AR (gh 35 0) q ≠ rob AR b r := fun q hq => ra_ne h35 h (Or.inl (fun e => hl e.symm)) hq hr
    exact rfC_k (t1 _ nm) (t2 _ (fun q hq => cells_ne hv o.2.1 (isRA_o h35 hq).2.1 (nm q hq)))
  have one : ∀ {o lim}, gO g o 4 → gh 1 o = lim → lim = 40 → gh 2 o = 5 → o ≠ gh 39 0 ∧ (∀ r, r < 16 → rob AR nA r ≠ o) ∧ ∀ r, r < 16 → rob AR (gh 35 0) r ≠ o := fun {o lim} ho h1 hl h2 => ⟨fun e => by rw [e, h39.2.2] at h2; exact absurd h2 (by decide), fun r hr => ra_ne1 hnn h1 h2 (Or.inr (by decide)) hr, fun r hr => ra_ne1 h35 h1 h2 (Or.inr (by decide)) hr⟩
  have o37 := one h37.1 h37.2.1 rfl h37.2.2
  have o38 := one h38.1 h38.2.1 rfl h38.2.2
  refine ⟨fun r hr => take hnn (by decide) r (by omega), fun r hr => ?_, fun k hk => ?_, ?_, ?_, ?_, ?_⟩
  · have q := (t3 r hr).1
    have eb := (bags.1 r (by omega)).trans (w0 bA r)
    rw [← eb]
    exact q
  · exact (take h36 (by decide) k hk).trans ((bags.2.2 k hk).trans (w0 _ k))
  · rw [eX]
    exact ⟨w14, w15, wx x 16 (Or.inr (by decide)), wx x 17 (Or.inr (by decide))⟩
  · rw [t1 _ o37.2.2, fN _ o37.1 o37.2.1, wo _ (gO_ne h37.1 hx.1 (by decide))]
  · rw [t2 _ (fun r hr => cells_ne hv h37.1 (isRA_o h35 hr).2.1 (o37.2.2 r hr)), nAf_o fM hv hx.1 h37.1 hnn o37.1 o37.2.1]
  · rw [t1 _ o38.2.2, fN _ o38.1 o38.2.1, wo _ (gO_ne h38.1 hx.1 (by decide))]
end Undo
section CmS1
variable {g : gG} {gh : gGh} {R AR : gR} {I I1 I2 AI AI1 AI2 Iq AIq : gI} {x pA bA nA : Nat}
theorem cmS_1 (hv : gInv g gh R AR Iq AIq) (hx : xS g gh R AR x pA bA nA) (hD : xD gh AR bA nA) (h : cmS gh AR x bA I AI I1 AI1) (fi : ∀ b, b ≠ gh 40 0 → I2 b = I1 b) (fa : ∀ b, b ≠ gh 0 (gh 40 0) → AI2 b = AI1 b) : cmS gh AR x bA I AI I2 AI2 := by
  have hb := hx.2.2.2.2.1
  have h35 := (gR_x7 hv hx.1).2
  have h36 := (gR_x13 hv hx.1).2
  have h40 := (gR_x11 hv hx.1).2
  have keep : ∀ o, gO g o 4 → o ≠ gh 40 0 → I2 o = I1 o ∧ AI2 (gh 0 o) = AI1 (gh 0 o) := fun o ho hn => ⟨fi o hn, fa _ (cells_ne hv h40.1 ho hn)⟩
  refine ⟨fun r hr => ?_, fun r hr => ?_, fun r hr => ?_⟩
  · have k := keep _ (isRA_o hb hr).2.1 (ra_ne1 hb h40.2.1 h40.2.2 (Or.inl (by decide)) hr)
    exact (rfC_k k.1 k.2).trans (h.1 r hr)
  · have k := keep _ (isRA_o h35 hr).2.1 (hD.2.2.2.2.2.2.2 r hr)
    exact (rfC_k k.1 k.2).trans (h.2.1 r hr)
  · have k := keep _ (isRA_o h36 hr).2.1 (ra_ne1 h36 h40.2.1 h40.2.2 (Or.inr (by decide)) hr)
    exact (rfC_k k.1 k.2).trans (h.2.2 r hr)
end CmS1
end
section
def rmX6_sizef : Room := { frames := 1, cells := 0, slots := 0, locals := 21 }
set_option maxHeartbeats 4000000 in
set_option maxRecDepth 100000 in
/-- size -/
theorem c_X6_sizef (l : Launch) (g : gG) (gh : gGh) (pA bA nA : Nat) (nr : Nat) (I : gI) (R : gR) (J : gJ) (AI : gI) (AJ : gJ) (AR : gR) (x : Nat) (rel : Int) (zrel : zr rel) (hv : gInv g gh R AR I AI) (hx : xS g gh R AR x pA bA nA) (hlen : (I pA 1).toInt = (nr : Int)) : gMet l g yX6_size wsX6_size rmX6_sizef [.ref x, .int (iI rel)] (I, R, J, AI, AJ, AR) (gQi g (fun (z : Int) (w : gS) => I = w.1 ∧ R = w.2.1 ∧ J = w.2.2.1 ∧ AI = w.2.2.2.1 ∧ AJ = w.2.2.2.2.1 ∧ AR = w.2.2.2.2.2 ∧ (((rel < 0 ∨ (nr : Int) ≤ rel) ∧ z = -1) ∨ ((0 ≤ rel ∧ rel < (nr : Int)) ∧ z = (((rfC gh AR I AI bA rel.toNat).1 : Nat) : Int))))) := by
  refine gStart (cc := cX6_size) (maxL := 2) (ret := (some (.int))) (by decide) rfl (Nat.le_of_ble_eq_true rfl) ?_
  intro p e s m below meth c ls F hr hlk hH hz hS hl
  have hl : lv_has ls 2 [(0, .ref x), (1, .int (iI rel))] := hl
  have hS : va_S (gA g) s.heap s.heap [] := hS
  obtain ⟨H, hHe⟩ : ∃ H : Heap, H = s.heap := ⟨_, rfl⟩
  obtain ⟨locs, hlo⟩ : ∃ k : List Loc, k = [] := ⟨_, rfl⟩
  have hH : gH g I R J AI AJ AR H := by rw [hHe]; exact hH
  have hS : va_S (gA g) s.heap H locs := by rw [hHe, hlo]; exact hS
  suffices hw : W p l e rmX6_sizef s m ([.ref x, .int (iI rel)] : List Value).toArray below meth c H locs 0 0 (MQ below (gQi g (fun (z : Int) (w : gS) => I = w.1 ∧ R = w.2.1 ∧ J = w.2.2.1 ∧ AI = w.2.2.2.1 ∧ AJ = w.2.2.2.2.1 ∧ AR = w.2.2.2.2.2 ∧ (((rel < 0 ∨ (nr : Int) ≤ rel) ∧ z = -1) ∨ ((0 ≤ rel ∧ rel < (nr : Int)) ∧ z = (((rfC gh AR I AI bA rel.toNat).1 : Nat) : Int))))) ([.ref x, .int (iI rel)] : List Value).toArray s 0 0 (gA g)) (F0 m 0 ls []) by
    rw [hHe, hlo] at hw; exact hw
  clear hHe hlo
  have iX6 : ∀ w ∈ u_ws RX6 TX6 18, w ∈ wsX6_size := (by decide +kernel)
  have iX4 : ∀ w ∈ u_ws RX4 TX4 4, w ∈ wsX6_size := (by decide +kernel)
  have k38 : Cond.fieldLink RX6 38 (TX6 5).1 (TX6 5).2.1 (TX6 5).2.2.1 ∈ wsX6_size := List.mem_of_getElem? (i := 1) rfl
  have k99 : Cond.fieldLink RX6 99 (TX4 3).1 (TX4 3).2.1 (TX4 3).2.2.1 ∈ wsX6_size := List.mem_of_getElem? (i := 2) rfl
  refine lv_aload_n F.1 F.2.1 dX6_size_0 rfl (lv_at hl 0 rfl) ?_
  refine lv_iload_n F.1 F.2.1 dX6_size_1 rfl (lv_at hl 1 rfl) ?_
  have b_1 := gI_x hv hx.1
  refine g_calli (g_runV (As := [.int (iI rel)]) (rest := []) (ci := 6) F hl.1 hH hS hz (c_X6_isRelationf l g gh pA bA nA I R J AI AJ AR x rel zrel hv hx) (cwV 1 F.2.2.2.2.1 gX6_size_X6_isRelation rfl rfl rfl hdX6_isRelation ⟨Nat.le_of_ble_eq_true rfl, Nat.le_of_ble_eq_true rfl⟩) hx.1 (by decide) rfl rfl rfl (Nat.le_of_ble_eq_true rfl) dX6_size_2 ⟨Nat.zero_le _, Nat.zero_le _⟩) hS (fun v_8 I_2 R_3 J_4 AI_5 AJ_6 AR_7 H locs zv_8 hp_9 hH hS => ?_)
  dsimp only at hp_9
  obtain ⟨rfl, rfl, rfl, rfl, rfl, rfl, q_10, qir⟩ := hp_9
  refine z_if_eq (tgt := 20) F dX6_size_5 (by decide) zv_8 (fun c_11 => ?_) (fun c_11 => ?_)
  · refine z_iconst F dX6_size_20 ?_
    exact g_iret F hr hlk hH hS hz ⟨by decide, by decide⟩ ⟨rfl, rfl, rfl, rfl, rfl, rfl, Or.inl ⟨by have q9 := qir (by omega); omega, rfl⟩⟩ dX6_size_21
  · refine lv_aload_n F.1 F.2.1 dX6_size_8 rfl (lv_at hl 0 rfl) ?_
    refine g_getR (ci := 6) (k := 5) F hH rfl (by decide) iX6 hx.1 (by decide) rfl (b := bA) hx.2.2.2.1 k38 dX6_size_9 ?_
    refine lv_iload_n F.1 F.2.1 dX6_size_12 rfl (lv_at hl 1 rfl) ?_
    have hx13 : 0 ≤ rel ∧ rel < ((16 : Nat) : Int) ∧ rel ≤ 2147483647 := ⟨by omega, by omega, by omega⟩
    obtain ⟨y_12, y_12a, y_12b, y_12c, y_12d, y_12e⟩ := hx.2.2.2.2.1.2 (rel).toNat (by omega)
    refine g_aldR F hH hx.2.2.2.2.1.1 hx13.1 hx13.2.1 hx13.2.2 (b := y_12) y_12a dX6_size_13 ?_
    have hsz : (I y_12 3).toInt = ((((rfC gh AR I AI bA rel.toNat)).1 : Nat) : Int) := by unfold rfC; rw [rob_e y_12a]; have q9 := (gI_rows hv y_12b).2.2.1; omega
    refine g_getI (ci := 4) (k := 3) F hH rfl (by decide) iX4 y_12b (by decide) rfl k99 dX6_size_14 ?_
    obtain ⟨b_13a, b_13b, b_13c, b_13d, b_13e, b_13f, b_13g, b_13h⟩ := gI_rows hv y_12b
    refine z_goto (tgt := 21) F dX6_size_17 (by decide) ?_
    exact g_iret F hr hlk hH hS hz (zr_t _) ⟨rfl, rfl, rfl, rfl, rfl, rfl, Or.inr ⟨by omega, hsz⟩⟩ dX6_size_21

def rmX6_movedf : Room := { frames := 1, cells := 0, slots := 0, locals := 21 }
set_option maxHeartbeats 4000000 in
set_option maxRecDepth 100000 in
/-- moved -/
theorem c_X6_movedf (l : Launch) (g : gG) (gh : gGh) (pA bA nA : Nat) (nr : Nat) (I : gI) (R : gR) (J : gJ) (AI : gI) (AJ : gJ) (AR : gR) (x : Nat) (rel : Int) (zrel : zr rel) (hv : gInv g gh R AR I AI) (hx : xS g gh R AR x pA bA nA) (hlen : (I pA 1).toInt = (nr : Int)) : gMet l g yX6_moved wsX6_moved rmX6_movedf [.ref x, .int (iI rel)] (I, R, J, AI, AJ, AR) (gQi g (fun (z : Int) (w : gS) => I = w.1 ∧ R = w.2.1 ∧ J = w.2.2.1 ∧ AI = w.2.2.2.1 ∧ AJ = w.2.2.2.2.1 ∧ AR = w.2.2.2.2.2 ∧ (((rel < 0 ∨ (nr : Int) ≤ rel) ∧ z = -1) ∨ ((0 ≤ rel ∧ rel < (nr : Int)) ∧ z = (((rfC gh AR I AI (gh 35 0) rel.toNat).1 : Nat) : Int))))) := by
  refine gStart (cc := cX6_moved) (maxL := 2) (ret := (some (.int))) (by decide) rfl (Nat.le_of_ble_eq_true rfl) ?_
  intro p e s m below meth c ls F hr hlk hH hz hS hl
  have hl : lv_has ls 2 [(0, .ref x), (1, .int (iI rel))] := hl
  have hS : va_S (gA g) s.heap s.heap [] := hS
  obtain ⟨H, hHe⟩ : ∃ H : Heap, H = s.heap := ⟨_, rfl⟩
  obtain ⟨locs, hlo⟩ : ∃ k : List Loc, k = [] := ⟨_, rfl⟩
  have hH : gH g I R J AI AJ AR H := by rw [hHe]; exact hH
  have hS : va_S (gA g) s.heap H locs := by rw [hHe, hlo]; exact hS
  suffices hw : W p l e rmX6_movedf s m ([.ref x, .int (iI rel)] : List Value).toArray below meth c H locs 0 0 (MQ below (gQi g (fun (z : Int) (w : gS) => I = w.1 ∧ R = w.2.1 ∧ J = w.2.2.1 ∧ AI = w.2.2.2.1 ∧ AJ = w.2.2.2.2.1 ∧ AR = w.2.2.2.2.2 ∧ (((rel < 0 ∨ (nr : Int) ≤ rel) ∧ z = -1) ∨ ((0 ≤ rel ∧ rel < (nr : Int)) ∧ z = (((rfC gh AR I AI (gh 35 0) rel.toNat).1 : Nat) : Int))))) ([.ref x, .int (iI rel)] : List Value).toArray s 0 0 (gA g)) (F0 m 0 ls []) by
    rw [hHe, hlo] at hw; exact hw
  clear hHe hlo
  have iX6 : ∀ w ∈ u_ws RX6 TX6 18, w ∈ wsX6_moved := (by decide +kernel)
  have iX4 : ∀ w ∈ u_ws RX4 TX4 4, w ∈ wsX6_moved := (by decide +kernel)
  have k45 : Cond.fieldLink RX6 45 (TX6 7).1 (TX6 7).2.1 (TX6 7).2.2.1 ∈ wsX6_moved := List.mem_of_getElem? (i := 1) rfl
  have k99 : Cond.fieldLink RX6 99 (TX4 3).1 (TX4 3).2.1 (TX4 3).2.2.1 ∈ wsX6_moved := List.mem_of_getElem? (i := 2) rfl
  refine lv_aload_n F.1 F.2.1 dX6_moved_0 rfl (lv_at hl 0 rfl) ?_
  refine lv_iload_n F.1 F.2.1 dX6_moved_1 rfl (lv_at hl 1 rfl) ?_
  have b_1 := gI_x hv hx.1
  refine g_calli (g_runV (As := [.int (iI rel)]) (rest := []) (ci := 6) F hl.1 hH hS hz (c_X6_isRelationf l g gh pA bA nA I R J AI AJ AR x rel zrel hv hx) (cwV 1 F.2.2.2.2.1 gX6_moved_X6_isRelation rfl rfl rfl hdX6_isRelation ⟨Nat.le_of_ble_eq_true rfl, Nat.le_of_ble_eq_true rfl⟩) hx.1 (by decide) rfl rfl rfl (Nat.le_of_ble_eq_true rfl) dX6_moved_2 ⟨Nat.zero_le _, Nat.zero_le _⟩) hS (fun v_8 I_2 R_3 J_4 AI_5 AJ_6 AR_7 H locs zv_8 hp_9 hH hS => ?_)
  dsimp only at hp_9
  obtain ⟨rfl, rfl, rfl, rfl, rfl, rfl, q_10, qir⟩ := hp_9
  refine z_if_eq (tgt := 20) F dX6_moved_5 (by decide) zv_8 (fun c_11 => ?_) (fun c_11 => ?_)
  · refine z_iconst F dX6_moved_20 ?_
    exact g_iret F hr hlk hH hS hz ⟨by decide, by decide⟩ ⟨rfl, rfl, rfl, rfl, rfl, rfl, Or.inl ⟨by have q9 := qir (by omega); omega, rfl⟩⟩ dX6_moved_21
  · refine lv_aload_n F.1 F.2.1 dX6_moved_8 rfl (lv_at hl 0 rfl) ?_
    obtain ⟨r_12a, r_12b⟩ := gR_x7 hv hx.1
    refine g_getR (ci := 6) (k := 7) F hH rfl (by decide) iX6 hx.1 (by decide) rfl (b := gh 35 0) r_12a k45 dX6_moved_9 ?_
    refine lv_iload_n F.1 F.2.1 dX6_moved_12 rfl (lv_at hl 1 rfl) ?_
    have hx13 : 0 ≤ rel ∧ rel < ((16 : Nat) : Int) ∧ rel ≤ 2147483647 := ⟨by omega, by omega, by omega⟩
    obtain ⟨y_13, y_13a, y_13b, y_13c, y_13d, y_13e⟩ := r_12b.2 (rel).toNat (by omega)
    refine g_aldR F hH r_12b.1 hx13.1 hx13.2.1 hx13.2.2 (b := y_13) y_13a dX6_moved_13 ?_
    have hsz : (I y_13 3).toInt = ((((rfC gh AR I AI (gh 35 0) rel.toNat)).1 : Nat) : Int) := by unfold rfC; rw [rob_e y_13a]; have q9 := (gI_rows hv y_13b).2.2.1; omega
    refine g_getI (ci := 4) (k := 3) F hH rfl (by decide) iX4 y_13b (by decide) rfl k99 dX6_moved_14 ?_
    obtain ⟨b_14a, b_14b, b_14c, b_14d, b_14e, b_14f, b_14g, b_14h⟩ := gI_rows hv y_13b
    refine z_goto (tgt := 21) F dX6_moved_17 (by decide) ?_
    exact g_iret F hr hlk hH hS hz (zr_t _) ⟨rfl, rfl, rfl, rfl, rfl, rfl, Or.inr ⟨by omega, hsz⟩⟩ dX6_moved_21
end
