def rmX6_startAnewg : Room := { frames := 0, cells := 0, slots := 0, locals := 0 }
set_option maxHeartbeats 4000000 in
set_option maxRecDepth 100000 in
/-- starts anew -/
theorem c_X6_startAnewg (l : Launch) (g : gG) (gh : gGh) (pA bA nA : Nat) (I : gI) (R : gR) (J : gJ) (AI : gI) (AJ : gJ) (AR : gR) (x : Nat) (hv : gInv g gh R AR I AI) (hx : xS g gh R AR x pA bA nA) (h37 : gh 42 0 ≠ 1) : gMet l g yX6_startAnew wsX6_startAnew rmX6_startAnewg [.ref x] (I, R, J, AI, AJ, AR) (gQv g (fun w : gS => R = w.2.1 ∧ J = w.2.2.1 ∧ AI = w.2.2.2.1 ∧ AJ = w.2.2.2.2.1 ∧ AR = w.2.2.2.2.2 ∧ (gInv g gh R AR (w.1) AI) ∧ (xF g x I (w.1)) ∧ (((w.1) (gh 37 0) 3).toInt = 0) ∧ (∀ r, r < 16 → ((w.1) (rob AR bA r) 3).toInt = 0 ∧ ((w.1) (rob AR (gh 35 0) r) 3).toInt = 0) ∧ (∀ b, gO g b 4 → (∀ r, r < 16 → rob AR bA r ≠ b) → (∀ r, r < 16 → rob AR (gh 35 0) r ≠ b) → b ≠ gh 37 0 → (w.1) b = I b) ∧ (((w.1) x 15).toInt = 0 ∧ ((w.1) x 16).toInt = 0 ∧ ((w.1) x 17).toInt = 0))) := by
  refine gStart (cc := cX6_startAnew) (maxL := 2) (ret := none) (by decide) rfl (Nat.le_of_ble_eq_true rfl) ?_
  intro p e s m below meth c ls F hr hlk hH hz hS hl
  have hl : lv_has ls 2 [(0, .ref x)] := hl
  have hS : va_S (gA g) s.heap s.heap [] := hS
  obtain ⟨H, hHe⟩ : ∃ H : Heap, H = s.heap := ⟨_, rfl⟩
  obtain ⟨locs, hlo⟩ : ∃ k : List Loc, k = [] := ⟨_, rfl⟩
  have hH : gH g I R J AI AJ AR H := by rw [hHe]; exact hH
  have hS : va_S (gA g) s.heap H locs := by rw [hHe, hlo]; exact hS
  suffices hw : W p l e rmX6_startAnewg s m ([.ref x] : List Value).toArray below meth c H locs 0 0 (MQ below (gQv g (fun w : gS => R = w.2.1 ∧ J = w.2.2.1 ∧ AI = w.2.2.2.1 ∧ AJ = w.2.2.2.2.1 ∧ AR = w.2.2.2.2.2 ∧ (gInv g gh R AR (w.1) AI) ∧ (xF g x I (w.1)) ∧ (((w.1) (gh 37 0) 3).toInt = 0) ∧ (∀ r, r < 16 → ((w.1) (rob AR bA r) 3).toInt = 0 ∧ ((w.1) (rob AR (gh 35 0) r) 3).toInt = 0) ∧ (∀ b, gO g b 4 → (∀ r, r < 16 → rob AR bA r ≠ b) → (∀ r, r < 16 → rob AR (gh 35 0) r ≠ b) → b ≠ gh 37 0 → (w.1) b = I b) ∧ (((w.1) x 15).toInt = 0 ∧ ((w.1) x 16).toInt = 0 ∧ ((w.1) x 17).toInt = 0))) ([.ref x] : List Value).toArray s 0 0 (gA g)) (F0 m 0 ls []) by
    rw [hHe, hlo] at hw; exact hw
  clear hHe hlo
  have xf : xF g x I I := xF_r
  have fRs : ∀ b, gO g b 4 → (∀ r, r < 16 → rob AR bA r ≠ b) → (∀ r, r < 16 → rob AR (gh 35 0) r ≠ b) → b ≠ gh 37 0 → I b = I b := fun _ _ _ _ _ => rfl
  have iX6 : ∀ w ∈ u_ws RX6 TX6 18, w ∈ wsX6_startAnew := (by decide +kernel)
  have iX4 : ∀ w ∈ u_ws RX4 TX4 4, w ∈ wsX6_startAnew := (by decide +kernel)
  have k38 : Cond.fieldLink RX6 38 (TX6 5).1 (TX6 5).2.1 (TX6 5).2.2.1 ∈ wsX6_startAnew := List.mem_of_getElem? (i := 1) rfl
  have k99 : Cond.fieldLink RX6 99 (TX4 3).1 (TX4 3).2.1 (TX4 3).2.2.1 ∈ wsX6_startAnew := List.mem_of_getElem? (i := 2) rfl
  have k45 : Cond.fieldLink RX6 45 (TX6 7).1 (TX6 7).2.1 (TX6 7).2.2.1 ∈ wsX6_startAnew := List.mem_of_getElem? (i := 3) rfl
  have k53 : Cond.fieldLink RX6 53 (TX6 8).1 (TX6 8).2.1 (TX6 8).2.2.1 ∈ wsX6_startAnew := List.mem_of_getElem? (i := 4) rfl
  have k100 : Cond.fieldLink RX6 100 (TX6 15).1 (TX6 15).2.1 (TX6 15).2.2.1 ∈ wsX6_startAnew := List.mem_of_getElem? (i := 5) rfl
  have k103 : Cond.fieldLink RX6 103 (TX6 16).1 (TX6 16).2.1 (TX6 16).2.2.1 ∈ wsX6_startAnew := List.mem_of_getElem? (i := 6) rfl
  have k106 : Cond.fieldLink RX6 106 (TX6 17).1 (TX6 17).2.1 (TX6 17).2.2.1 ∈ wsX6_startAnew := List.mem_of_getElem? (i := 7) rfl
  refine z_iconst F dX6_startAnew_0 ?_
  refine lv_istore_n (lv' := [(1, .int (iI 0)), (0, .ref x)]) F.1 F.2.1 dX6_startAnew_1 rfl hl (by decide) rfl (fun ls hl => ?_)
  have cut_2_1 : ∀ (NN : Nat) (i : Int) (I_1 : gI) (H : Heap) (locs : List Loc) (ls : Array Slot), zr i → (gInv g gh R AR I_1 AI) → (xF g x I I_1) → (0 ≤ i ∧ i ≤ 16) → (∀ r : Nat, r < 16 → (r : Int) < i → (I_1 (rob AR bA r) 3).toInt = 0 ∧ (I_1 (rob AR (gh 35 0) r) 3).toInt = 0) → (∀ b, gO g b 4 → (∀ r, r < 16 → rob AR bA r ≠ b) → (∀ r, r < 16 → rob AR (gh 35 0) r ≠ b) → b ≠ gh 37 0 → I_1 b = I b) → (16 - i) < ((NN : Nat) : Int) → gH g I_1 R J AI AJ AR H → va_S (gA g) s.heap H locs → lv_has ls 2 [(1, .int (iI i)), (0, .ref x)] → W p l e rmX6_startAnewg s m ([.ref x] : List Value).toArray below meth c H locs 0 0 (MQ below (gQv g (fun w : gS => R = w.2.1 ∧ J = w.2.2.1 ∧ AI = w.2.2.2.1 ∧ AJ = w.2.2.2.2.1 ∧ AR = w.2.2.2.2.2 ∧ (gInv g gh R AR (w.1) AI) ∧ (xF g x I (w.1)) ∧ (((w.1) (gh 37 0) 3).toInt = 0) ∧ (∀ r, r < 16 → ((w.1) (rob AR bA r) 3).toInt = 0 ∧ ((w.1) (rob AR (gh 35 0) r) 3).toInt = 0) ∧ (∀ b, gO g b 4 → (∀ r, r < 16 → rob AR bA r ≠ b) → (∀ r, r < 16 → rob AR (gh 35 0) r ≠ b) → b ≠ gh 37 0 → (w.1) b = I b) ∧ (((w.1) x 15).toInt = 0 ∧ ((w.1) x 16).toInt = 0 ∧ ((w.1) x 17).toInt = 0))) ([.ref x] : List Value).toArray s 0 0 (gA g)) (F0 m 2 ls []) := by
    intro NN2
    induction NN2 with
    | zero =>
      intro i I_1 H locs ls zi hv xf hi hzl fRs hm2 hH hS hl
      exact absurd hm2 (by omega)
    | succ NN2 ih2 =>
      intro i I_1 H locs ls zi hv xf hi hzl fRs hm2 hH hS hl
      refine lv_iload_n F.1 F.2.1 dX6_startAnew_2 rfl (lv_at hl 0 rfl) ?_
      refine z_bipush F dX6_startAnew_3 (by decide) ?_
      refine z_icmp_ge (tgt := 34) F dX6_startAnew_5 (by decide) zi ⟨by decide, by decide⟩ (fun c_3 => ?_) (fun c_3 => ?_)
      · refine lv_aload_n F.1 F.2.1 dX6_startAnew_34 rfl (lv_at hl 1 rfl) ?_
        obtain ⟨r_4a, r_4b, r_4c, r_4d⟩ := gR_x8 hv hx.1
        refine g_getR (ci := 6) (k := 8) F hH rfl (by decide) iX6 hx.1 (by decide) rfl (b := gh 37 0) r_4a k53 dX6_startAnew_35 ?_
        refine z_iconst F dX6_startAnew_38 ?_
        refine g_putI (ci := 4) (k := 3) F hH hS rfl (by decide) iX4 r_4b (by decide) tyX4 tyX4_ok nmX4 rfl rfl rfl k99 dX6_startAnew_39 (fun H locs hH hS => ?_)
        obtain ⟨I_5, eI_5⟩ : ∃ qQ, qQ = gup2 I_1 (gh 37 0) 3 (iI (0)) := ⟨_, rfl⟩
        rw [← eI_5] at hH
        have kI_5 : ∀ b, b ≠ (gh 37 0) → I_5 b = I_1 b := fun b hb => by rw [eI_5]; exact funext fun j => gup2_a _ _ hb
        have w_6 : (I_5 (gh 37 0) 3).toInt = 0 := by rw [eI_5, gup2_s]; exact iI_val ⟨by omega, by omega⟩
        have hv : gInv g gh R AR I_5 AI := by rw [eI_5]; exact gInv_len hv r_4b (by omega) (by omega) (by first | exact hfz | omega)
        have xf : xF g x I I_5 := xF_t xf (xF_rF hx.1 (rF_o r_4b kI_5))
        have w_7x : (I_5 x 1).toInt = (I x 1).toInt := by rw [xf.2]
        have hzl : ∀ r : Nat, r < 16 → (r : Int) < i → (I_5 (rob AR bA r) 3).toInt = 0 ∧ (I_5 (rob AR (gh 35 0) r) 3).toInt = 0 := fun r h1 h2 => ⟨zk3 eI_5 (hzl r h1 h2).1, zk3 eI_5 (hzl r h1 h2).2⟩
        have fRs : ∀ b, gO g b 4 → (∀ r, r < 16 → rob AR bA r ≠ b) → (∀ r, r < 16 → rob AR (gh 35 0) r ≠ b) → b ≠ gh 37 0 → I_5 b = I b := fun b hb h1 h2 h3 => (kI_5 b h3).trans (fRs b hb h1 h2 h3)
        refine lv_aload_n F.1 F.2.1 dX6_startAnew_42 rfl (lv_at hl 1 rfl) ?_
        refine z_iconst F dX6_startAnew_43 ?_
        refine g_putI (ci := 6) (k := 15) F hH hS rfl (by decide) iX6 hx.1 (by decide) tyX6 tyX6_ok nmX6 rfl rfl rfl k100 dX6_startAnew_44 (fun H locs hH hS => ?_)
        obtain ⟨I_8, eI_8⟩ : ∃ qQ, qQ = gup2 I_5 x 15 (iI (0)) := ⟨_, rfl⟩
        rw [← eI_8] at hH
        have kI_8 : ∀ b, b ≠ x → I_8 b = I_5 b := fun b hb => by rw [eI_8]; exact funext fun j => gup2_a _ _ hb
        have w_9 : (I_8 x 15).toInt = 0 := by rw [eI_8, gup2_s]; exact iI_val ⟨by omega, by omega⟩
        have hv : gInv g gh R AR I_8 AI := by rw [eI_8]; exact gInv_x15 hv hx.1 (by omega) (by omega)
        have xf : xF g x I I_8 := xF_t xf (by rw [eI_8]; exact xF_k hx.1 (by decide))
        have w_9t : (I_8 x 1).toInt = (I x 1).toInt := by rw [xf.2]
        have w_9_b : (I_8 (gh 37 0) 3).toInt = (I_5 (gh 37 0) 3).toInt := by rw [kI_8 _ (gO_ne (gR_x8 hv hx.1).2.1 hx.1 (by decide))]
        have w_9_14 : (I_8 x 14).toInt = (I_5 x 14).toInt := by rw [eI_8, gup2_k _ _ (by decide)]
        have hzl : ∀ r : Nat, r < 16 → (r : Int) < i → (I_8 (rob AR bA r) 3).toInt = 0 ∧ (I_8 (rob AR (gh 35 0) r) 3).toInt = 0 := fun r h1 h2 => ⟨zx3 eI_8 (by decide) (hzl r h1 h2).1, zx3 eI_8 (by decide) (hzl r h1 h2).2⟩
        have fRs : ∀ b, gO g b 4 → (∀ r, r < 16 → rob AR bA r ≠ b) → (∀ r, r < 16 → rob AR (gh 35 0) r ≠ b) → b ≠ gh 37 0 → I_8 b = I b := fun b hb h1 h2 h3 => (kI_8 b (gO_ne hb hx.1 (by decide))).trans (fRs b hb h1 h2 h3)
        have zx15 : (I_8 x 15).toInt = 0 := by rw [eI_8, gup2_s]; exact iI_val ⟨by decide, by decide⟩
        refine lv_aload_n F.1 F.2.1 dX6_startAnew_47 rfl (lv_at hl 1 rfl) ?_
        refine z_iconst F dX6_startAnew_48 ?_
        refine g_putI (ci := 6) (k := 16) F hH hS rfl (by decide) iX6 hx.1 (by decide) tyX6 tyX6_ok nmX6 rfl rfl rfl k103 dX6_startAnew_49 (fun H locs hH hS => ?_)
        obtain ⟨I_10, eI_10⟩ : ∃ qQ, qQ = gup2 I_8 x 16 (iI (0)) := ⟨_, rfl⟩
        rw [← eI_10] at hH
        have kI_10 : ∀ b, b ≠ x → I_10 b = I_8 b := fun b hb => by rw [eI_10]; exact funext fun j => gup2_a _ _ hb
        have hv : gInv g gh R AR I_10 AI := by rw [eI_10]; exact gInv_x16 hv hx.1
        have xf : xF g x I I_10 := xF_t xf (by rw [eI_10]; exact xF_k hx.1 (by decide))
        have w_11t : (I_10 x 1).toInt = (I x 1).toInt := by rw [xf.2]
        have w_11_b : (I_10 (gh 37 0) 3).toInt = (I_8 (gh 37 0) 3).toInt := by rw [kI_10 _ (gO_ne (gR_x8 hv hx.1).2.1 hx.1 (by decide))]
        have w_11_14 : (I_10 x 14).toInt = (I_8 x 14).toInt := by rw [eI_10, gup2_k _ _ (by decide)]
        have w_11_15 : (I_10 x 15).toInt = (I_8 x 15).toInt := by rw [eI_10, gup2_k _ _ (by decide)]
        have hzl : ∀ r : Nat, r < 16 → (r : Int) < i → (I_10 (rob AR bA r) 3).toInt = 0 ∧ (I_10 (rob AR (gh 35 0) r) 3).toInt = 0 := fun r h1 h2 => ⟨zx3 eI_10 (by decide) (hzl r h1 h2).1, zx3 eI_10 (by decide) (hzl r h1 h2).2⟩
        have fRs : ∀ b, gO g b 4 → (∀ r, r < 16 → rob AR bA r ≠ b) → (∀ r, r < 16 → rob AR (gh 35 0) r ≠ b) → b ≠ gh 37 0 → I_10 b = I b := fun b hb h1 h2 h3 => (kI_10 b (gO_ne hb hx.1 (by decide))).trans (fRs b hb h1 h2 h3)
        have zx16 : (I_10 x 16).toInt = 0 := by rw [eI_10, gup2_s]; exact iI_val ⟨by decide, by decide⟩
        have zx15 : (I_10 x 15).toInt = 0 := by rw [eI_10, gup2_k _ _ (by decide)]; exact zx15
        refine lv_aload_n F.1 F.2.1 dX6_startAnew_52 rfl (lv_at hl 1 rfl) ?_
        refine z_iconst F dX6_startAnew_53 ?_
        refine g_putI (ci := 6) (k := 17) F hH hS rfl (by decide) iX6 hx.1 (by decide) tyX6 tyX6_ok nmX6 rfl rfl rfl k106 dX6_startAnew_54 (fun H locs hH hS => ?_)
        obtain ⟨I_12, eI_12⟩ : ∃ qQ, qQ = gup2 I_10 x 17 (iI (0)) := ⟨_, rfl⟩
        rw [← eI_12] at hH
        have kI_12 : ∀ b, b ≠ x → I_12 b = I_10 b := fun b hb => by rw [eI_12]; exact funext fun j => gup2_a _ _ hb
        have hv : gInv g gh R AR I_12 AI := by rw [eI_12]; exact gInv_x17 hv hx.1
        have xf : xF g x I I_12 := xF_t xf (by rw [eI_12]; exact xF_k hx.1 (by decide))
        have w_13t : (I_12 x 1).toInt = (I x 1).toInt := by rw [xf.2]
        have w_13_b : (I_12 (gh 37 0) 3).toInt = (I_10 (gh 37 0) 3).toInt := by rw [kI_12 _ (gO_ne (gR_x8 hv hx.1).2.1 hx.1 (by decide))]
        have w_13_14 : (I_12 x 14).toInt = (I_10 x 14).toInt := by rw [eI_12, gup2_k _ _ (by decide)]
        have w_13_15 : (I_12 x 15).toInt = (I_10 x 15).toInt := by rw [eI_12, gup2_k _ _ (by decide)]
        have hzl : ∀ r : Nat, r < 16 → (r : Int) < i → (I_12 (rob AR bA r) 3).toInt = 0 ∧ (I_12 (rob AR (gh 35 0) r) 3).toInt = 0 := fun r h1 h2 => ⟨zx3 eI_12 (by decide) (hzl r h1 h2).1, zx3 eI_12 (by decide) (hzl r h1 h2).2⟩
        have fRs : ∀ b, gO g b 4 → (∀ r, r < 16 → rob AR bA r ≠ b) → (∀ r, r < 16 → rob AR (gh 35 0) r ≠ b) → b ≠ gh 37 0 → I_12 b = I b := fun b hb h1 h2 h3 => (kI_12 b (gO_ne hb hx.1 (by decide))).trans (fRs b hb h1 h2 h3)
        have zx17 : (I_12 x 17).toInt = 0 := by rw [eI_12, gup2_s]; exact iI_val ⟨by decide, by decide⟩
        have zx15 : (I_12 x 15).toInt = 0 := by rw [eI_12, gup2_k _ _ (by decide)]; exact zx15
        have zx16 : (I_12 x 16).toInt = 0 := by rw [eI_12, gup2_k _ _ (by decide)]; exact zx16
        exact g_vret F hr hlk hH hS hz ⟨rfl, rfl, rfl, rfl, rfl, hv, xf, by first | omega | rfl | (dsimp only; omega), fun r hr => hzl r hr (by omega), fRs, ⟨zx15, zx16, zx17⟩⟩ dX6_startAnew_57
      · refine lv_aload_n F.1 F.2.1 dX6_startAnew_8 rfl (lv_at hl 1 rfl) ?_
        refine g_getR (ci := 6) (k := 5) F hH rfl (by decide) iX6 hx.1 (by decide) rfl (b := bA) hx.2.2.2.1 k38 dX6_startAnew_9 ?_
        refine lv_iload_n F.1 F.2.1 dX6_startAnew_12 rfl (lv_at hl 0 rfl) ?_
        have hx13 : 0 ≤ i ∧ i < ((16 : Nat) : Int) ∧ i ≤ 2147483647 := ⟨by omega, by omega, by omega⟩
        obtain ⟨y_14, y_14a, y_14b, y_14c, y_14d, y_14e⟩ := hx.2.2.2.2.1.2 (i).toNat (by omega)
        refine g_aldR F hH hx.2.2.2.2.1.1 hx13.1 hx13.2.1 hx13.2.2 (b := y_14) y_14a dX6_startAnew_13 ?_
        refine z_iconst F dX6_startAnew_14 ?_
        refine g_putI (ci := 4) (k := 3) F hH hS rfl (by decide) iX4 y_14b (by decide) tyX4 tyX4_ok nmX4 rfl rfl rfl k99 dX6_startAnew_15 (fun H locs hH hS => ?_)
        obtain ⟨I_15, eI_15⟩ : ∃ qQ, qQ = gup2 I_1 y_14 3 (iI (0)) := ⟨_, rfl⟩
        rw [← eI_15] at hH
        have kI_15 : ∀ b, b ≠ y_14 → I_15 b = I_1 b := fun b hb => by rw [eI_15]; exact funext fun j => gup2_a _ _ hb
        have w_16 : (I_15 y_14 3).toInt = 0 := by rw [eI_15, gup2_s]; exact iI_val ⟨by omega, by omega⟩
        have hv : gInv g gh R AR I_15 AI := by rw [eI_15]; exact gInv_len hv y_14b (by omega) (by omega) (by first | exact hfz | omega)
        have xf : xF g x I I_15 := xF_t xf (xF_rF hx.1 (rF_o y_14b kI_15))
        have w_17x : (I_15 x 1).toInt = (I x 1).toInt := by rw [xf.2]
        have zy1 : (I_15 (rob AR bA i.toNat) 3).toInt = 0 := by rw [rob_e y_14a, eI_15, gup2_s]; exact iI_val ⟨by decide, by decide⟩
        have hzl : ∀ r : Nat, r < 16 → (r : Int) < i → (I_15 (rob AR bA r) 3).toInt = 0 ∧ (I_15 (rob AR (gh 35 0) r) 3).toInt = 0 := fun r h1 h2 => ⟨zk3 eI_15 (hzl r h1 h2).1, zk3 eI_15 (hzl r h1 h2).2⟩
        have fRs : ∀ b, gO g b 4 → (∀ r, r < 16 → rob AR bA r ≠ b) → (∀ r, r < 16 → rob AR (gh 35 0) r ≠ b) → b ≠ gh 37 0 → I_15 b = I b := fun b hb h1 h2 h3 => (kI_15 b (fun e => h1 i.toNat (by omega) (by rw [rob_e y_14a]; exact e.symm))).trans (fRs b hb h1 h2 h3)
        refine lv_aload_n F.1 F.2.1 dX6_startAnew_18 rfl (lv_at hl 1 rfl) ?_
        obtain ⟨r_18a, r_18b⟩ := gR_x7 hv hx.1
        refine g_getR (ci := 6) (k := 7) F hH rfl (by decide) iX6 hx.1 (by decide) rfl (b := gh 35 0) r_18a k45 dX6_startAnew_19 ?_
        refine lv_iload_n F.1 F.2.1 dX6_startAnew_22 rfl (lv_at hl 0 rfl) ?_
        have hx23 : 0 ≤ i ∧ i < ((16 : Nat) : Int) ∧ i ≤ 2147483647 := ⟨by omega, by omega, by omega⟩
        obtain ⟨y_19, y_19a, y_19b, y_19c, y_19d, y_19e⟩ := r_18b.2 (i).toNat (by omega)
        refine g_aldR F hH r_18b.1 hx23.1 hx23.2.1 hx23.2.2 (b := y_19) y_19a dX6_startAnew_23 ?_
        refine z_iconst F dX6_startAnew_24 ?_
        refine g_putI (ci := 4) (k := 3) F hH hS rfl (by decide) iX4 y_19b (by decide) tyX4 tyX4_ok nmX4 rfl rfl rfl k99 dX6_startAnew_25 (fun H locs hH hS => ?_)
        obtain ⟨I_20, eI_20⟩ : ∃ qQ, qQ = gup2 I_15 y_19 3 (iI (0)) := ⟨_, rfl⟩
        rw [← eI_20] at hH
        have kI_20 : ∀ b, b ≠ y_19 → I_20 b = I_15 b := fun b hb => by rw [eI_20]; exact funext fun j => gup2_a _ _ hb
        have w_21 : (I_20 y_19 3).toInt = 0 := by rw [eI_20, gup2_s]; exact iI_val ⟨by omega, by omega⟩
        have hv : gInv g gh R AR I_20 AI := by rw [eI_20]; exact gInv_len hv y_19b (by omega) (by omega) (by first | exact hfz | omega)
        have xf : xF g x I I_20 := xF_t xf (xF_rF hx.1 (rF_o y_19b kI_20))
        have w_22x : (I_20 x 1).toInt = (I x 1).toInt := by rw [xf.2]
        have zy2 : (I_20 (rob AR (gh 35 0) i.toNat) 3).toInt = 0 := by rw [rob_e y_19a, eI_20, gup2_s]; exact iI_val ⟨by decide, by decide⟩
        have zy1 := zk3 eI_20 zy1
        have hzl : ∀ r : Nat, r < 16 → (r : Int) < i → (I_20 (rob AR bA r) 3).toInt = 0 ∧ (I_20 (rob AR (gh 35 0) r) 3).toInt = 0 := fun r h1 h2 => ⟨zk3 eI_20 (hzl r h1 h2).1, zk3 eI_20 (hzl r h1 h2).2⟩
        have hzl : ∀ r : Nat, r < 16 → (r : Int) < i + 1 → (I_20 (rob AR bA r) 3).toInt = 0 ∧ (I_20 (rob AR (gh 35 0) r) 3).toInt = 0 := fun r h1 h2 => by
          by_cases q : (r : Int) < i
          · exact hzl r h1 q
          · have e9 : r = i.toNat := by omega
            rw [e9]; exact ⟨zy1, zy2⟩
        have fRs : ∀ b, gO g b 4 → (∀ r, r < 16 → rob AR bA r ≠ b) → (∀ r, r < 16 → rob AR (gh 35 0) r ≠ b) → b ≠ gh 37 0 → I_20 b = I b := fun b hb h1 h2 h3 => (kI_20 b (fun e => h2 i.toNat (by omega) (by rw [rob_e y_19a]; exact e.symm))).trans (fRs b hb h1 h2 h3)
        refine z_iinc (lv' := [(1, .int (iI (i + 1))), (0, .ref x)]) F dX6_startAnew_28 hl (k := 0) rfl (by decide) rfl (fun ls hl => ?_)
        refine z_goto (tgt := 2) F dX6_startAnew_31 (by decide) ?_
        exact ih2 (i + 1) I_20 H locs ls ⟨by omega, by omega⟩ hv xf (by omega) hzl fRs (by omega) hH hS (lv_sub hl [0, 1] rfl)
  exact cut_2_1 (((16 - 0) + 1 : Int).toNat) 0 I H locs ls ⟨by decide, by decide⟩ hv xf (by omega) (fun r h1 h2 => absurd h2 (by omega)) fRs (by omega) hH hS (lv_sub hl [0, 1] rfl)
