def rmX4_appendf : Room := { frames := 1, cells := 0, slots := 0, locals := 60 }
set_option maxHeartbeats 4000000 in
set_option maxRecDepth 100000 in
/-- a row of another comes behind all of these -/
theorem c_X4_appendf (l : Launch) (g : gG) (gh : gGh) (I : gI) (R : gR) (J : gJ) (AI : gI) (AJ : gJ) (AR : gR) (a : Nat) (o : Nat) (row : Int) (n : Int) (zrow : zr row) (zn : zr n) (hv : gInv g gh R AR I AI) (ha : gO g a 4) (ho : gO g o 4) (h4 : gh 2 a = 4) (h0 : 0 ≤ row) (h1 : row < (gh 1 o : Int)) : gMet l g yX4_append wsX4_append rmX4_appendf [.ref a, .ref o, .int (iI row), .int (iI n)] (I, R, J, AI, AJ, AR) (gQi g (fun (z : Int) (w : gS) => R = w.2.1 ∧ J = w.2.2.1 ∧ AJ = w.2.2.2.2.1 ∧ AR = w.2.2.2.2.2 ∧ (gInv g gh R AR (w.1) (w.2.2.2.1)) ∧ (∀ b, b ≠ a → (w.1) b = I b) ∧ (∀ b, b ≠ gh 0 a → (w.2.2.2.1) b = AI b) ∧ ((z = 0 ∧ (w.1) = I ∧ (w.2.2.2.1) = AI ∧ (gh 1 a : Int) ≤ (I a 3).toInt) ∨ (z = 1 ∧ (I a 3).toInt < (gh 1 a : Int) ∧ ((w.1) a 3).toInt = (I a 3).toInt + 1 ∧ apP (AI (gh 0 a)) ((w.2.2.2.1) (gh 0 a)) (AI (gh 0 o)) row (I a 3).toInt n)))) := by
  refine gStart (cc := cX4_append) (maxL := 5) (ret := (some (.boolean))) (by decide) rfl (Nat.le_of_ble_eq_true rfl) ?_
  intro p e s m below meth c ls F hr hlk hH hz hS hl
  have hl : lv_has ls 5 [(0, .ref a), (1, .ref o), (2, .int (iI row)), (3, .int (iI n))] := hl
  have hS : va_S (gA g) s.heap s.heap [] := hS
  obtain ⟨H, hHe⟩ : ∃ H : Heap, H = s.heap := ⟨_, rfl⟩
  obtain ⟨locs, hlo⟩ : ∃ k : List Loc, k = [] := ⟨_, rfl⟩
  have hH : gH g I R J AI AJ AR H := by rw [hHe]; exact hH
  have hS : va_S (gA g) s.heap H locs := by rw [hHe, hlo]; exact hS
  suffices hw : W p l e rmX4_appendf s m ([.ref a, .ref o, .int (iI row), .int (iI n)] : List Value).toArray below meth c H locs 0 0 (MQ below (gQi g (fun (z : Int) (w : gS) => R = w.2.1 ∧ J = w.2.2.1 ∧ AJ = w.2.2.2.2.1 ∧ AR = w.2.2.2.2.2 ∧ (gInv g gh R AR (w.1) (w.2.2.2.1)) ∧ (∀ b, b ≠ a → (w.1) b = I b) ∧ (∀ b, b ≠ gh 0 a → (w.2.2.2.1) b = AI b) ∧ ((z = 0 ∧ (w.1) = I ∧ (w.2.2.2.1) = AI ∧ (gh 1 a : Int) ≤ (I a 3).toInt) ∨ (z = 1 ∧ (I a 3).toInt < (gh 1 a : Int) ∧ ((w.1) a 3).toInt = (I a 3).toInt + 1 ∧ apP (AI (gh 0 a)) ((w.2.2.2.1) (gh 0 a)) (AI (gh 0 o)) row (I a 3).toInt n)))) ([.ref a, .ref o, .int (iI row), .int (iI n)] : List Value).toArray s 0 0 (gA g)) (F0 m 0 ls []) by
    rw [hHe, hlo] at hw; exact hw
  clear hHe hlo
  have iX4 : ∀ w ∈ u_ws RX4 TX4 4, w ∈ wsX4_append := (by decide +kernel)
  have k34 : Cond.fieldLink RX4 34 (TX4 3).1 (TX4 3).2.1 (TX4 3).2.2.1 ∈ wsX4_append := List.mem_of_getElem? (i := 1) rfl
  have k13 : Cond.fieldLink RX4 13 (TX4 1).1 (TX4 1).2.1 (TX4 1).2.2.1 ∈ wsX4_append := List.mem_of_getElem? (i := 2) rfl
  have k16 : Cond.fieldLink RX4 16 (TX4 2).1 (TX4 2).2.1 (TX4 2).2.2.1 ∈ wsX4_append := List.mem_of_getElem? (i := 3) rfl
  have k7 : Cond.fieldLink RX4 7 (TX4 0).1 (TX4 0).2.1 (TX4 0).2.2.1 ∈ wsX4_append := List.mem_of_getElem? (i := 4) rfl
  refine lv_aload_n F.1 F.2.1 dX4_append_0 rfl (lv_at hl 0 rfl) ?_
  refine g_getI (ci := 4) (k := 3) F hH rfl (by decide) iX4 ha (by decide) rfl k34 dX4_append_1 ?_
  obtain ⟨b_1a, b_1b, b_1c, b_1d, b_1e, b_1f, b_1g, b_1h⟩ := gI_rows hv ha
  refine lv_aload_n F.1 F.2.1 dX4_append_4 rfl (lv_at hl 0 rfl) ?_
  refine g_getI (ci := 4) (k := 1) F hH rfl (by decide) iX4 ha (by decide) rfl k13 dX4_append_5 ?_
  refine z_icmp_lt (tgt := 13) F dX4_append_8 (by decide) (zr_t _) (zr_t _) (fun c_2 => ?_) (fun c_2 => ?_)
  · refine lv_aload_n F.1 F.2.1 dX4_append_13 rfl (lv_at hl 0 rfl) ?_
    refine g_getI (ci := 4) (k := 3) F hH rfl (by decide) iX4 ha (by decide) rfl k34 dX4_append_14 ?_
    refine z_bipush F dX4_append_17 (by decide) ?_
    refine z_imul F dX4_append_19 ?_
    refine lv_istore (lv' := [(4, .int (iI (((I a 3).toInt) * 6))), (0, .ref a), (1, .ref o), (2, .int (iI row)), (3, .int (iI n))]) F.1 F.2.1 dX4_append_20 hl (by decide) rfl (fun ls hl => ?_)
    refine lv_aload_n F.1 F.2.1 dX4_append_22 rfl (lv_at hl 2 rfl) ?_
    obtain ⟨b_3a, b_3b, b_3c, b_3d, b_3e, b_3f, b_3g, b_3h⟩ := gI_rows hv ho
    obtain ⟨r_4a, r_4b⟩ := gR_cells hv ho
    refine g_getR (ci := 4) (k := 2) F hH rfl (by decide) iX4 ho (by decide) rfl (b := gh 0 o) r_4a k16 dX4_append_23 ?_
    refine lv_iload_n F.1 F.2.1 dX4_append_26 rfl (lv_at hl 3 rfl) ?_
    refine z_bipush F dX4_append_27 (by decide) ?_
    refine z_imul F dX4_append_29 ?_
    refine lv_aload_n F.1 F.2.1 dX4_append_30 rfl (lv_at hl 1 rfl) ?_
    obtain ⟨r_5a, r_5b⟩ := gR_cells hv ha
    refine g_getR (ci := 4) (k := 2) F hH rfl (by decide) iX4 ha (by decide) rfl (b := gh 0 a) r_5a k16 dX4_append_31 ?_
    refine lv_iload F.1 F.2.1 dX4_append_34 (lv_at hl 0 rfl) ?_
    refine lv_aload_n F.1 F.2.1 dX4_append_36 rfl (lv_at hl 1 rfl) ?_
    refine g_getI (ci := 4) (k := 0) F hH rfl (by decide) iX4 ha (by decide) rfl k7 dX4_append_37 ?_
    have hx40 : 0 ≤ (row * 6) ∧ 0 ≤ (((I a 3).toInt) * 6) ∧ 0 ≤ ((I a 0).toInt) ∧ (row * 6) + ((I a 0).toInt) ≤ ((6 * gh 1 o : Nat) : Int) ∧ (((I a 3).toInt) * 6) + ((I a 0).toInt) ≤ ((6 * gh 1 a : Nat) : Int) ∧ (row * 6) ≤ 2147483647 ∧ (((I a 3).toInt) * 6) ≤ 2147483647 ∧ ((I a 0).toInt) ≤ 2147483647 := ⟨by omega, by omega, by omega, by omega, by omega, by omega, by omega, by omega⟩
    refine g_copyi (rest := []) F hl.1 hH hS r_4b r_5b (List.mem_of_getElem? (i := 5) rfl) (List.mem_of_getElem? (i := 6) rfl) (List.mem_of_getElem? (i := 7) rfl) (List.mem_of_getElem? (i := 8) rfl) hx40 (Nat.le_of_ble_eq_true rfl) (Nat.le_of_ble_eq_true rfl) dX4_append_40 (fun H locs hH hS => ?_)
    obtain ⟨AI_6, eAI_6⟩ : ∃ qQ, qQ = gup1 AI (gh 0 a) (va_cpy (AI (gh 0 o)) (AI (gh 0 a)) ((row * 6)).toNat ((((I a 3).toInt) * 6)).toNat (((I a 0).toInt)).toNat) := ⟨_, rfl⟩
    rw [← eAI_6] at hH
    have kAI_6 : ∀ b, b ≠ (gh 0 a) → AI_6 b = AI b := fun b hb => by rw [eAI_6]; exact gup1_a _ _ hb
    have hv : gInv g gh R AR I AI_6 := gInv_four hv ha h4 kAI_6
    have p1 : AI_6 (gh 0 a) = va_cpy (AI (gh 0 o)) (AI (gh 0 a)) (row * 6).toNat ((I a 3).toInt * 6).toNat (4 : Int).toNat := by rw [eAI_6, gup1_s, show (I a 0).toInt = 4 by omega]
    refine lv_aload_n F.1 F.2.1 dX4_append_43 rfl (lv_at hl 1 rfl) ?_
    refine g_getR (ci := 4) (k := 2) F hH rfl (by decide) iX4 ha (by decide) rfl (b := gh 0 a) r_5a k16 dX4_append_44 ?_
    refine lv_iload F.1 F.2.1 dX4_append_47 (lv_at hl 0 rfl) ?_
    refine z_iconst F dX4_append_49 ?_
    refine z_iadd F dX4_append_50 ?_
    refine z_iconst F dX4_append_51 ?_
    have hx52 : 0 ≤ ((((I a 3).toInt) * 6) + 5) ∧ ((((I a 3).toInt) * 6) + 5) < ((6 * gh 1 a : Nat) : Int) ∧ ((((I a 3).toInt) * 6) + 5) ≤ 2147483647 := ⟨by omega, by omega, by omega⟩
    refine g_iast F hH hS r_5b hx52.1 hx52.2.1 hx52.2.2 dX4_append_52 (fun H locs hH hS => ?_)
    obtain ⟨AI_7, eAI_7⟩ : ∃ qQ, qQ = gup2 AI_6 (gh 0 a) (((((I a 3).toInt) * 6) + 5)).toNat (iI (0)) := ⟨_, rfl⟩
    rw [← eAI_7] at hH
    have kAI_7 : ∀ b, b ≠ (gh 0 a) → AI_7 b = AI_6 b := fun b hb => by rw [eAI_7]; exact funext fun j => gup2_a _ _ hb
    have hv : gInv g gh R AR I AI_7 := gInv_four hv ha h4 kAI_7
    have p3 : ∀ j : Nat, j ≠ ((I a 3).toInt * 6 + 5).toNat → AI_7 (gh 0 a) j = AI_6 (gh 0 a) j := fun j hj => by rw [eAI_7]; exact gup2_k _ _ hj
    have p3b : AI_7 (gh 0 a) ((I a 3).toInt * 6 + 5).toNat = 0 := by rw [eAI_7, gup2_s]; rfl
    refine lv_aload_n F.1 F.2.1 dX4_append_53 rfl (lv_at hl 1 rfl) ?_
    refine g_getR (ci := 4) (k := 2) F hH rfl (by decide) iX4 ha (by decide) rfl (b := gh 0 a) r_5a k16 dX4_append_54 ?_
    refine lv_iload F.1 F.2.1 dX4_append_57 (lv_at hl 0 rfl) ?_
    refine lv_aload_n F.1 F.2.1 dX4_append_59 rfl (lv_at hl 1 rfl) ?_
    refine g_getI (ci := 4) (k := 0) F hH rfl (by decide) iX4 ha (by decide) rfl k7 dX4_append_60 ?_
    refine z_iadd F dX4_append_63 ?_
    refine lv_iload_n F.1 F.2.1 dX4_append_64 rfl (lv_at hl 4 rfl) ?_
    have hx65 : 0 ≤ ((((I a 3).toInt) * 6) + ((I a 0).toInt)) ∧ ((((I a 3).toInt) * 6) + ((I a 0).toInt)) < ((6 * gh 1 a : Nat) : Int) ∧ ((((I a 3).toInt) * 6) + ((I a 0).toInt)) ≤ 2147483647 := ⟨by omega, by omega, by omega⟩
    refine g_iast F hH hS r_5b hx65.1 hx65.2.1 hx65.2.2 dX4_append_65 (fun H locs hH hS => ?_)
    obtain ⟨AI_8, eAI_8⟩ : ∃ qQ, qQ = gup2 AI_7 (gh 0 a) (((((I a 3).toInt) * 6) + ((I a 0).toInt))).toNat (iI (n)) := ⟨_, rfl⟩
    rw [← eAI_8] at hH
    have kAI_8 : ∀ b, b ≠ (gh 0 a) → AI_8 b = AI_7 b := fun b hb => by rw [eAI_8]; exact funext fun j => gup2_a _ _ hb
    have hv : gInv g gh R AR I AI_8 := gInv_four hv ha h4 kAI_8
    have p4 : ∀ j : Nat, j ≠ ((I a 3).toInt * 6 + 4).toNat → AI_8 (gh 0 a) j = AI_7 (gh 0 a) j := fun j hj => by rw [eAI_8]; exact gup2_k _ _ (by rw [show (I a 0).toInt = 4 by omega]; exact hj)
    have p4b : AI_8 (gh 0 a) ((I a 3).toInt * 6 + 4).toNat = iI n := by rw [← show (I a 0).toInt = 4 by omega, eAI_8, gup2_s]
    refine lv_aload_n F.1 F.2.1 dX4_append_66 rfl (lv_at hl 1 rfl) ?_
    refine lv_dup F.1 F.2.1 dX4_append_67 rfl ?_
    refine g_getI (ci := 4) (k := 3) F hH rfl (by decide) iX4 ha (by decide) rfl k34 dX4_append_68 ?_
    refine z_iconst F dX4_append_71 ?_
    refine z_iadd F dX4_append_72 ?_
    refine g_putI (ci := 4) (k := 3) F hH hS rfl (by decide) iX4 ha (by decide) tyX4 tyX4_ok nmX4 rfl rfl rfl k34 dX4_append_73 (fun H locs hH hS => ?_)
    obtain ⟨I_9, eI_9⟩ : ∃ qQ, qQ = gup2 I a 3 (iI (((I a 3).toInt) + 1)) := ⟨_, rfl⟩
    rw [← eI_9] at hH
    have kI_9 : ∀ b, b ≠ a → I_9 b = I b := fun b hb => by rw [eI_9]; exact funext fun j => gup2_a _ _ hb
    have w_10 : (I_9 a 3).toInt = ((I a 3).toInt) + 1 := by rw [eI_9, gup2_s]; exact iI_val ⟨by omega, by omega⟩
    have hv : gInv g gh R AR I_9 AI_8 := by rw [eI_9]; exact gInv_len hv ha (by omega) (by omega) (by first | exact hfz | omega)
    refine z_iconst F dX4_append_76 ?_
    exact g_zret F hr hlk hH hS hz (by omega) ⟨rfl, rfl, rfl, rfl, hv, fun b hb => kI_9 b hb, fun b hb => ((kAI_8 b hb).trans (kAI_7 b hb)).trans (kAI_6 b hb), Or.inr ⟨rfl, by omega, by (try dsimp only); omega, ap_p (by omega) (by omega) p1 p3 p3b p4 p4b⟩⟩ dX4_append_77
  · refine z_iconst F dX4_append_11 ?_
    exact g_zret F hr hlk hH hS hz (by omega) ⟨rfl, rfl, rfl, rfl, hv, fun _ _ => rfl, fun _ _ => rfl, Or.inl ⟨rfl, rfl, rfl, by omega⟩⟩ dX4_append_12

def rmX4_orderOfHeadsf : Room := { frames := 1, cells := 0, slots := 0, locals := 27 }
set_option maxHeartbeats 4000000 in
set_option maxRecDepth 100000 in
/-- which head is first -/
theorem c_X4_orderOfHeadsf (l : Launch) (g : gG) (gh : gGh) (I : gI) (R : gR) (J : gJ) (AI : gI) (AJ : gJ) (AR : gR) (a : Nat) (i : Int) (b : Nat) (j : Int) (zi : zr i) (zj : zr j) (hv : gInv g gh R AR I AI) (ha : gO g a 4) (hb : gO g b 4) (h4 : gh 2 a = 4) (h0 : 0 ≤ i) (h1 : 0 ≤ j) : gMet l g yX4_orderOfHeads wsX4_orderOfHeads rmX4_orderOfHeadsf [.ref a, .int (iI i), .ref b, .int (iI j)] (I, R, J, AI, AJ, AR) (gQi g (fun (z : Int) (w : gS) => I = w.1 ∧ R = w.2.1 ∧ J = w.2.2.1 ∧ AI = w.2.2.2.1 ∧ AJ = w.2.2.2.2.1 ∧ AR = w.2.2.2.2.2 ∧ (z ≤ 0 → i < (I a 3).toInt) ∧ (0 ≤ z → i < (I a 3).toInt → j < (I b 3).toInt) ∧ (((I a 3).toInt ≤ i ∧ z = 1) ∨ (i < (I a 3).toInt ∧ (I b 3).toInt ≤ j ∧ z = -1) ∨ (i < (I a 3).toInt ∧ j < (I b 3).toInt ∧ z = tc (tup (AI (gh 0 a)) i.toNat) (tup (AI (gh 0 b)) j.toNat))))) := by
  refine gStart (cc := cX4_orderOfHeads) (maxL := 4) (ret := (some (.int))) (by decide) rfl (Nat.le_of_ble_eq_true rfl) ?_
  intro p e s m below meth c ls F hr hlk hH hz hS hl
  have hl : lv_has ls 4 [(0, .ref a), (1, .int (iI i)), (2, .ref b), (3, .int (iI j))] := hl
  have hS : va_S (gA g) s.heap s.heap [] := hS
  obtain ⟨H, hHe⟩ : ∃ H : Heap, H = s.heap := ⟨_, rfl⟩
  obtain ⟨locs, hlo⟩ : ∃ k : List Loc, k = [] := ⟨_, rfl⟩
  have hH : gH g I R J AI AJ AR H := by rw [hHe]; exact hH
  have hS : va_S (gA g) s.heap H locs := by rw [hHe, hlo]; exact hS
  suffices hw : W p l e rmX4_orderOfHeadsf s m ([.ref a, .int (iI i), .ref b, .int (iI j)] : List Value).toArray below meth c H locs 0 0 (MQ below (gQi g (fun (z : Int) (w : gS) => I = w.1 ∧ R = w.2.1 ∧ J = w.2.2.1 ∧ AI = w.2.2.2.1 ∧ AJ = w.2.2.2.2.1 ∧ AR = w.2.2.2.2.2 ∧ (z ≤ 0 → i < (I a 3).toInt) ∧ (0 ≤ z → i < (I a 3).toInt → j < (I b 3).toInt) ∧ (((I a 3).toInt ≤ i ∧ z = 1) ∨ (i < (I a 3).toInt ∧ (I b 3).toInt ≤ j ∧ z = -1) ∨ (i < (I a 3).toInt ∧ j < (I b 3).toInt ∧ z = tc (tup (AI (gh 0 a)) i.toNat) (tup (AI (gh 0 b)) j.toNat))))) ([.ref a, .int (iI i), .ref b, .int (iI j)] : List Value).toArray s 0 0 (gA g)) (F0 m 0 ls []) by
    rw [hHe, hlo] at hw; exact hw
  clear hHe hlo
  have iX4 : ∀ w ∈ u_ws RX4 TX4 4, w ∈ wsX4_orderOfHeads := (by decide +kernel)
  have k34 : Cond.fieldLink RX4 34 (TX4 3).1 (TX4 3).2.1 (TX4 3).2.2.1 ∈ wsX4_orderOfHeads := List.mem_of_getElem? (i := 1) rfl
  have k16 : Cond.fieldLink RX4 16 (TX4 2).1 (TX4 2).2.1 (TX4 2).2.2.1 ∈ wsX4_orderOfHeads := List.mem_of_getElem? (i := 2) rfl
  refine lv_iload_n F.1 F.2.1 dX4_orderOfHeads_0 rfl (lv_at hl 1 rfl) ?_
  refine lv_aload_n F.1 F.2.1 dX4_orderOfHeads_1 rfl (lv_at hl 0 rfl) ?_
  refine g_getI (ci := 4) (k := 3) F hH rfl (by decide) iX4 ha (by decide) rfl k34 dX4_orderOfHeads_2 ?_
  obtain ⟨b_1a, b_1b, b_1c, b_1d, b_1e, b_1f, b_1g, b_1h⟩ := gI_rows hv ha
  refine z_icmp_lt (tgt := 10) F dX4_orderOfHeads_5 (by decide) zi (zr_t _) (fun c_2 => ?_) (fun c_2 => ?_)
  · refine lv_iload_n F.1 F.2.1 dX4_orderOfHeads_10 rfl (lv_at hl 3 rfl) ?_
    refine lv_aload_n F.1 F.2.1 dX4_orderOfHeads_11 rfl (lv_at hl 2 rfl) ?_
    refine g_getI (ci := 4) (k := 3) F hH rfl (by decide) iX4 hb (by decide) rfl k34 dX4_orderOfHeads_12 ?_
    obtain ⟨b_3a, b_3b, b_3c, b_3d, b_3e, b_3f, b_3g, b_3h⟩ := gI_rows hv hb
    refine z_icmp_lt (tgt := 20) F dX4_orderOfHeads_15 (by decide) zj (zr_t _) (fun c_4 => ?_) (fun c_4 => ?_)
    · refine lv_aload_n F.1 F.2.1 dX4_orderOfHeads_20 rfl (lv_at hl 0 rfl) ?_
      refine lv_iload_n F.1 F.2.1 dX4_orderOfHeads_21 rfl (lv_at hl 1 rfl) ?_
      refine lv_aload_n F.1 F.2.1 dX4_orderOfHeads_22 rfl (lv_at hl 2 rfl) ?_
      obtain ⟨r_5a, r_5b⟩ := gR_cells hv hb
      refine g_getR (ci := 4) (k := 2) F hH rfl (by decide) iX4 hb (by decide) rfl (b := gh 0 b) r_5a k16 dX4_orderOfHeads_23 ?_
      refine lv_iload_n F.1 F.2.1 dX4_orderOfHeads_26 rfl (lv_at hl 3 rfl) ?_
      refine z_bipush F dX4_orderOfHeads_27 (by decide) ?_
      refine z_imul F dX4_orderOfHeads_29 ?_
      refine g_calli (g_runV (As := [.int (iI i), .ref (gh 0 b), .int (iI (j * 6))]) (rest := []) (ci := 4) F hl.1 hH hS hz (c_X4_compareRowf l g gh (6 * gh 1 b) I R J AI AJ AR a i (gh 0 b) (j * 6) zi ⟨by omega, by omega⟩ hv ha (by omega) (by omega) r_5b (by omega) (by omega) (by omega)) (cwV 3 F.2.2.2.2.1 gX4_orderOfHeads_X4_compareRow rfl rfl rfl hdX4_compareRow ⟨Nat.le_of_ble_eq_true rfl, Nat.le_of_ble_eq_true rfl⟩) ha (by decide) rfl rfl rfl (Nat.le_of_ble_eq_true rfl) dX4_orderOfHeads_30 ⟨Nat.zero_le _, Nat.zero_le _⟩) hS (fun v_12 I_6 R_7 J_8 AI_9 AJ_10 AR_11 H locs zv_12 hp_13 hH hS => ?_)
      dsimp only at hp_13
      obtain ⟨rfl, rfl, rfl, rfl, rfl, rfl, q_14, qc⟩ := hp_13
      exact g_iret F hr hlk hH hS hz zv_12 ⟨rfl, rfl, rfl, rfl, rfl, rfl, fun _ => by omega, fun _ _ => by omega, Or.inr (Or.inr ⟨by omega, by omega, by (try dsimp only); rw [qc, h4, ry6_m (by omega), ry6_m (by omega)]; exact tc_ry⟩)⟩ dX4_orderOfHeads_33
    · refine z_iconst F dX4_orderOfHeads_18 ?_
      exact g_iret F hr hlk hH hS hz ⟨by decide, by decide⟩ ⟨rfl, rfl, rfl, rfl, rfl, rfl, fun _ => by omega, fun _ _ => by omega, Or.inr (Or.inl ⟨by omega, by omega, rfl⟩)⟩ dX4_orderOfHeads_19
  · refine z_iconst F dX4_orderOfHeads_8 ?_
    exact g_iret F hr hlk hH hS hz ⟨by decide, by decide⟩ ⟨rfl, rfl, rfl, rfl, rfl, rfl, fun _ => by omega, fun _ _ => by omega, Or.inl ⟨by omega, rfl⟩⟩ dX4_orderOfHeads_9

def rmX4_gatherf : Room := { frames := 2, cells := 0, slots := 0, locals := 84 }
set_option maxHeartbeats 4000000 in
set_option maxRecDepth 100000 in
/-- the amounts of two bags together -/
theorem c_X4_gatherf (l : Launch) (g : gG) (gh : gGh) (nx ny : Nat) (Sg : Tup → Int32) (I : gI) (R : gR) (J : gJ) (AI : gI) (AJ : gJ) (AR : gR) (a : Nat) (x : Nat) (y : Nat) (sign : Int) (zsign : zr sign) (hv : gInv g gh R AR I AI) (ha : gO g a 4) (hx : gO g x 4) (hy : gO g y 4) (h4 : gh 2 a = 4) (h5 : gh 2 x = 4) (hxa : x ≠ a) (hya : y ≠ a) (h6 : gh 2 y = 4) (hnx : (I x 3).toInt = (nx : Int)) (hny : (I y 3).toInt = (ny : Int)) (hA : okB (AI (gh 0 x)) nx) (hB : okB (AI (gh 0 y)) ny) (hSS : ∀ t, Sg t = bS (AI (gh 0 x)) nx t + iI sign * bS (AI (gh 0 y)) ny t) : gMet l g yX4_gather wsX4_gather rmX4_gatherf [.ref a, .ref x, .ref y, .int (iI sign)] (I, R, J, AI, AJ, AR) (gQi g (fun (z : Int) (w : gS) => R = w.2.1 ∧ J = w.2.2.1 ∧ AJ = w.2.2.2.2.1 ∧ AR = w.2.2.2.2.2 ∧ (gInv g gh R AR (w.1) (w.2.2.2.1)) ∧ (∀ b, b ≠ a → (w.1) b = I b) ∧ (∀ b, b ≠ gh 0 a → (w.2.2.2.1) b = AI b) ∧ ((z = 1 ∧ isB ((w.2.2.2.1) (gh 0 a)) ((w.1) a 3).toInt.toNat Sg zM) ∨ (z = 0 ∧ bigP (gh 1 a) (fun t => Sg t ≠ 0))))) := by
  refine gStart (cc := cX4_gather) (maxL := 10) (ret := (some (.boolean))) (by decide) rfl (Nat.le_of_ble_eq_true rfl) ?_
  intro p e s m below meth c ls F hr hlk hH hz hS hl
  have hl : lv_has ls 10 [(0, .ref a), (1, .ref x), (2, .ref y), (3, .int (iI sign))] := hl
  have hS : va_S (gA g) s.heap s.heap [] := hS
  obtain ⟨H, hHe⟩ : ∃ H : Heap, H = s.heap := ⟨_, rfl⟩
  obtain ⟨locs, hlo⟩ : ∃ k : List Loc, k = [] := ⟨_, rfl⟩
  have hH : gH g I R J AI AJ AR H := by rw [hHe]; exact hH
  have hS : va_S (gA g) s.heap H locs := by rw [hHe, hlo]; exact hS
  suffices hw : W p l e rmX4_gatherf s m ([.ref a, .ref x, .ref y, .int (iI sign)] : List Value).toArray below meth c H locs 0 0 (MQ below (gQi g (fun (z : Int) (w : gS) => R = w.2.1 ∧ J = w.2.2.1 ∧ AJ = w.2.2.2.2.1 ∧ AR = w.2.2.2.2.2 ∧ (gInv g gh R AR (w.1) (w.2.2.2.1)) ∧ (∀ b, b ≠ a → (w.1) b = I b) ∧ (∀ b, b ≠ gh 0 a → (w.2.2.2.1) b = AI b) ∧ ((z = 1 ∧ isB ((w.2.2.2.1) (gh 0 a)) ((w.1) a 3).toInt.toNat Sg zM) ∨ (z = 0 ∧ bigP (gh 1 a) (fun t => Sg t ≠ 0))))) ([.ref a, .ref x, .ref y, .int (iI sign)] : List Value).toArray s 0 0 (gA g)) (F0 m 0 ls []) by
    rw [hHe, hlo] at hw; exact hw
  clear hHe hlo
  have hcx := cells_ne hv ha hx hxa
  have hcy := cells_ne hv ha hy hya
  have qlm := (gI_rows hv ha).2.1
  have iX4 : ∀ w ∈ u_ws RX4 TX4 4, w ∈ wsX4_gather := (by decide +kernel)
  have k34 : Cond.fieldLink RX4 34 (TX4 3).1 (TX4 3).2.1 (TX4 3).2.2.1 ∈ wsX4_gather := List.mem_of_getElem? (i := 1) rfl
  refine lv_aload_n F.1 F.2.1 dX4_gather_0 rfl (lv_at hl 0 rfl) ?_
  refine z_iconst F dX4_gather_1 ?_
  refine g_putI (ci := 4) (k := 3) F hH hS rfl (by decide) iX4 ha (by decide) tyX4 tyX4_ok nmX4 rfl rfl rfl k34 dX4_gather_2 (fun H locs hH hS => ?_)
  obtain ⟨I_1, eI_1⟩ : ∃ qQ, qQ = gup2 I a 3 (iI (0)) := ⟨_, rfl⟩
  rw [← eI_1] at hH
  have kI_1 : ∀ b, b ≠ a → I_1 b = I b := fun b hb => by rw [eI_1]; exact funext fun j => gup2_a _ _ hb
  have w_2 : (I_1 a 3).toInt = 0 := by rw [eI_1, gup2_s]; exact iI_val ⟨by omega, by omega⟩
  have hv : gInv g gh R AR I_1 AI := by rw [eI_1]; exact gInv_len hv ha (by omega) (by omega) (by first | exact hfz | omega)
  refine z_iconst F dX4_gather_5 ?_
  refine lv_istore (lv' := [(4, .int (iI 0)), (0, .ref a), (1, .ref x), (2, .ref y), (3, .int (iI sign))]) F.1 F.2.1 dX4_gather_6 hl (by decide) rfl (fun ls hl => ?_)
  refine z_iconst F dX4_gather_8 ?_
  refine lv_istore (lv' := [(5, .int (iI 0)), (4, .int (iI 0)), (0, .ref a), (1, .ref x), (2, .ref y), (3, .int (iI sign))]) F.1 F.2.1 dX4_gather_9 hl (by decide) rfl (fun ls hl => ?_)
  have cut_11_4 : ∀ (NN : Nat) (i j : Int) (I_3 : gI) (AI_4 : gI) (H : Heap) (locs : List Loc) (ls : Array Slot), zr i → zr j → (gInv g gh R AR I_3 AI_4) → (∀ b, b ≠ a → I_3 b = I b) → (∀ b, b ≠ gh 0 a → AI_4 b = AI b) → (0 ≤ i ∧ i ≤ (gh 1 x : Int)) → (0 ≤ j ∧ j ≤ (gh 1 y : Int)) → (gaI (AI (gh 0 x)) (AI (gh 0 y)) (AI_4 (gh 0 a)) nx ny i.toNat j.toNat (I_3 a 3).toInt.toNat Sg ∧ 0 ≤ (I_3 a 3).toInt) → ((gh 1 x : Int) + (gh 1 y : Int) - i - j) < ((NN : Nat) : Int) → gH g I_3 R J AI_4 AJ AR H → va_S (gA g) s.heap H locs → lv_has ls 10 [(5, .int (iI j)), (4, .int (iI i)), (0, .ref a), (1, .ref x), (2, .ref y), (3, .int (iI sign))] → W p l e rmX4_gatherf s m ([.ref a, .ref x, .ref y, .int (iI sign)] : List Value).toArray below meth c H locs 0 0 (MQ below (gQi g (fun (z : Int) (w : gS) => R = w.2.1 ∧ J = w.2.2.1 ∧ AJ = w.2.2.2.2.1 ∧ AR = w.2.2.2.2.2 ∧ (gInv g gh R AR (w.1) (w.2.2.2.1)) ∧ (∀ b, b ≠ a → (w.1) b = I b) ∧ (∀ b, b ≠ gh 0 a → (w.2.2.2.1) b = AI b) ∧ ((z = 1 ∧ isB ((w.2.2.2.1) (gh 0 a)) ((w.1) a 3).toInt.toNat Sg zM) ∨ (z = 0 ∧ bigP (gh 1 a) (fun t => Sg t ≠ 0))))) ([.ref a, .ref x, .ref y, .int (iI sign)] : List Value).toArray s 0 0 (gA g)) (F0 m 11 ls []) := by
    intro NN11
    induction NN11 with
    | zero =>
      intro i j I_3 AI_4 H locs ls zi zj hv fI fA hi hj hga hm11 hH hS hl
      exact absurd hm11 (by omega)
    | succ NN11 ih11 =>
      intro i j I_3 AI_4 H locs ls zi zj hv fI fA hi hj hga hm11 hH hS hl
      have hml := hga.2
      have hga := hga.1
      have hXn : (I_3 x 3).toInt = (nx : Int) := by rw [fI x hxa]; exact hnx
      have hYn : (I_3 y 3).toInt = (ny : Int) := by rw [fI y hya]; exact hny
      refine lv_iload F.1 F.2.1 dX4_gather_11 (lv_at hl 1 rfl) ?_
      refine lv_aload_n F.1 F.2.1 dX4_gather_13 rfl (lv_at hl 3 rfl) ?_
      refine g_getI (ci := 4) (k := 3) F hH rfl (by decide) iX4 hx (by decide) rfl k34 dX4_gather_14 ?_
      obtain ⟨b_6a, b_6b, b_6c, b_6d, b_6e, b_6f, b_6g, b_6h⟩ := gI_rows hv hx
      refine z_icmp_lt (tgt := 29) F dX4_gather_17 (by decide) zi (zr_t _) (fun c_7 => ?_) (fun c_7 => ?_)
      · refine lv_aload_n F.1 F.2.1 dX4_gather_29 rfl (lv_at hl 3 rfl) ?_
        refine lv_iload F.1 F.2.1 dX4_gather_30 (lv_at hl 1 rfl) ?_
        refine lv_aload_n F.1 F.2.1 dX4_gather_32 rfl (lv_at hl 4 rfl) ?_
        refine lv_iload F.1 F.2.1 dX4_gather_33 (lv_at hl 0 rfl) ?_
        obtain ⟨b_8a, b_8b, b_8c, b_8d, b_8e, b_8f, b_8g, b_8h⟩ := gI_rows hv hy
        refine g_calli (g_runS (As := [.ref x, .int (iI i), .ref y, .int (iI j)]) (rest := []) F hl.1 hH hS hz (c_X4_orderOfHeadsf l g gh I_3 R J AI_4 AJ AR x i y j zi zj hv hx hy (by omega) (by omega) (by omega)) (va_cwS 4 F.2.2.2.2.1 gX4_gather_X4_orderOfHeads rfl rfl rfl hdX4_orderOfHeads.2 ⟨Nat.le_of_ble_eq_true rfl, Nat.le_of_ble_eq_true rfl⟩) rfl rfl (Nat.le_of_ble_eq_true rfl) dX4_gather_35 ⟨Nat.zero_le _, Nat.zero_le _⟩) hS (fun v_15 I_9 R_10 J_11 AI_12 AJ_13 AR_14 H locs zv_15 hp_16 hH hS => ?_)
        dsimp only at hp_16
        obtain ⟨rfl, rfl, rfl, rfl, rfl, rfl, q_17, q_18, qo⟩ := hp_16
        rw [fA _ hcx, fA _ hcy, fI x hxa, fI y hya, hnx, hny] at qo
        refine lv_istore (lv' := [(6, .int (iI v_15)), (5, .int (iI j)), (4, .int (iI i)), (0, .ref a), (1, .ref x), (2, .ref y), (3, .int (iI sign))]) F.1 F.2.1 dX4_gather_38 hl (by decide) rfl (fun ls hl => ?_)
        refine lv_iload F.1 F.2.1 dX4_gather_40 (lv_at hl 0 rfl) ?_
        refine z_if_gt (tgt := 49) F dX4_gather_42 (by decide) zv_15 (fun c_19 => ?_) (fun c_19 => ?_)
        · refine lv_aload_n F.1 F.2.1 dX4_gather_49 rfl (lv_at hl 5 rfl) ?_
          refine lv_astore (lv' := [(7, .ref y), (6, .int (iI v_15)), (5, .int (iI j)), (4, .int (iI i)), (0, .ref a), (1, .ref x), (2, .ref y), (3, .int (iI sign))]) F.1 F.2.1 dX4_gather_50 hl (by decide) rfl (fun ls hl => ?_)
          refine lv_iload F.1 F.2.1 dX4_gather_52 (lv_at hl 1 rfl) ?_
          refine z_if_gt (tgt := 62) F dX4_gather_54 (by decide) zv_15 (fun c_20 => ?_) (fun c_20 => ?_)
          · refine lv_iload F.1 F.2.1 dX4_gather_62 (lv_at hl 2 rfl) ?_
            refine lv_istore (lv' := [(8, .int (iI j)), (7, .ref y), (6, .int (iI v_15)), (5, .int (iI j)), (4, .int (iI i)), (0, .ref a), (1, .ref x), (2, .ref y), (3, .int (iI sign))]) F.1 F.2.1 dX4_gather_64 hl (by decide) rfl (fun ls hl => ?_)
            refine z_iconst F dX4_gather_66 ?_
            refine lv_istore (lv' := [(9, .int (iI 0)), (8, .int (iI j)), (7, .ref y), (6, .int (iI v_15)), (5, .int (iI j)), (4, .int (iI i)), (0, .ref a), (1, .ref x), (2, .ref y), (3, .int (iI sign))]) F.1 F.2.1 dX4_gather_67 hl (by decide) rfl (fun ls hl => ?_)
            refine lv_iload F.1 F.2.1 dX4_gather_69 (lv_at hl 3 rfl) ?_
            refine z_if_gt (tgt := 88) F dX4_gather_71 (by decide) zv_15 (fun c_21 => ?_) (fun c_21 => ?_)
            · refine lv_iload F.1 F.2.1 dX4_gather_88 (lv_at hl 3 rfl) ?_
              refine z_if_lt (tgt := 109) F dX4_gather_90 (by decide) zv_15 (fun c_22 => ?_) (fun c_22 => ?_)
              · exact absurd trivial (by omega)
              · refine lv_iload F.1 F.2.1 dX4_gather_93 (lv_at hl 0 rfl) ?_
                refine lv_iload_n F.1 F.2.1 dX4_gather_95 rfl (lv_at hl 9 rfl) ?_
                refine lv_aload_n F.1 F.2.1 dX4_gather_96 rfl (lv_at hl 8 rfl) ?_
                refine lv_iload F.1 F.2.1 dX4_gather_97 (lv_at hl 4 rfl) ?_
                refine g_calli (g_runV (As := [.int (iI j)]) (rest := [.int (iI sign), .int (iI 0)]) (ci := 4) F hl.1 hH hS hz (c_X4_amount l g gh I_3 R J AI_4 AJ AR y j zj hv hy (by omega) (by omega)) (cwV 1 F.2.2.2.2.1 gX4_gather_X4_amount rfl rfl rfl hdX4_amount ⟨Nat.le_of_ble_eq_true rfl, Nat.le_of_ble_eq_true rfl⟩) hy (by decide) rfl rfl rfl (Nat.le_of_ble_eq_true rfl) dX4_gather_99 ⟨Nat.zero_le _, Nat.zero_le _⟩) hS (fun v_29 I_23 R_24 J_25 AI_26 AJ_27 AR_28 H locs zv_29 hp_30 hH hS => ?_)
                dsimp only at hp_30
                obtain ⟨rfl, rfl, rfl, rfl, rfl, rfl, qb0⟩ := hp_30
                have qb : v_29 = ((AI (gh 0 y)) (6 * j.toNat + 4)).toInt := by rw [qb0, fA _ hcy, show (j * 6 + (I_3 y 0).toInt).toNat = 6 * j.toNat + 4 by omega]
                refine z_imul F dX4_gather_102 ?_
                refine z_norm (fun v_31 zv_31 ev_31 => ?_)
                refine z_iadd F dX4_gather_103 ?_
                refine z_norm (fun v_32 zv_32 ev_32 => ?_)
                refine lv_istore (lv' := [(9, .int (iI v_32)), (8, .int (iI j)), (7, .ref y), (6, .int (iI v_15)), (5, .int (iI j)), (4, .int (iI i)), (0, .ref a), (1, .ref x), (2, .ref y), (3, .int (iI sign))]) F.1 F.2.1 dX4_gather_104 hl (by decide) rfl (fun ls hl => ?_)
                refine z_iinc (lv' := [(5, .int (iI (j + 1))), (9, .int (iI v_32)), (8, .int (iI j)), (7, .ref y), (6, .int (iI v_15)), (4, .int (iI i)), (0, .ref a), (1, .ref x), (2, .ref y), (3, .int (iI sign))]) F dX4_gather_106 hl (k := 4) rfl (by decide) rfl (fun ls hl => ?_)
                have hT := ga_tg hA hB hSS hga rfl rfl (by omega) (by omega) (oh_gt (by omega) qo (by omega) (by omega))
                have qn : iI v_32 = iI sign * (AI (gh 0 y)) (6 * j.toNat + 4) := by rw [ev_32, Int.zero_add, ev_31, ← iI_mul, qb, iI_self]
                have hSn := hT.2.trans qn.symm
                refine lv_iload F.1 F.2.1 dX4_gather_109 (lv_at hl 1 rfl) ?_
                refine z_if_eq (tgt := 129) F dX4_gather_111 (by decide) zv_32 (fun c_33 => ?_) (fun c_33 => ?_)
                · have hga9 := ga_skip hA hB hga hT.1 (hSn.trans (by rw [show v_32 = 0 by omega]; rfl))
                  refine z_goto (tgt := 11) F dX4_gather_129 (by decide) ?_
                  exact ih11 i (j + 1) I_3 AI_4 H locs ls zi ⟨by omega, by omega⟩ hv (fun b hb => fI b hb) (fun b hb => fA b hb) ⟨by omega, by omega⟩ ⟨by omega, by omega⟩ ⟨hga9, by omega⟩ (by omega) hH hS (lv_sub hl [0, 5, 6, 7, 8, 9] rfl)
                · refine lv_aload_n F.1 F.2.1 dX4_gather_114 rfl (lv_at hl 6 rfl) ?_
                  refine lv_aload F.1 F.2.1 dX4_gather_115 (lv_at hl 3 rfl) ?_
                  refine lv_iload F.1 F.2.1 dX4_gather_117 (lv_at hl 2 rfl) ?_
                  refine lv_iload F.1 F.2.1 dX4_gather_119 (lv_at hl 1 rfl) ?_
                  obtain ⟨b_34a, b_34b, b_34c, b_34d, b_34e, b_34f, b_34g, b_34h⟩ := gI_rows hv ha
                  refine g_calli (g_runV (As := [.ref y, .int (iI j), .int (iI v_32)]) (rest := []) (ci := 4) F hl.1 hH hS hz (c_X4_appendf l g gh I_3 R J AI_4 AJ AR a y j v_32 zj zv_32 hv ha hy (by omega) (by omega) (by omega)) (cwV 3 F.2.2.2.2.1 gX4_gather_X4_append rfl rfl rfl hdX4_append ⟨Nat.le_of_ble_eq_true rfl, Nat.le_of_ble_eq_true rfl⟩) ha (by decide) rfl rfl rfl (Nat.le_of_ble_eq_true rfl) dX4_gather_121 ⟨Nat.zero_le _, Nat.zero_le _⟩) hS (fun v_41 I_35 R_36 J_37 AI_38 AJ_39 AR_40 H locs zv_41 hp_42 hH hS => ?_)
                  dsimp only at hp_42
                  obtain ⟨rfl, rfl, rfl, rfl, hv, q_43, q_44, qap⟩ := hp_42
                  rw [fA _ hcy] at qap
                  refine z_if_ne (tgt := 129) F dX4_gather_124 (by decide) zv_41 (fun c_45 => ?_) (fun c_45 => ?_)
                  · have hne : iI v_32 ≠ 0 := fun e9 => absurd ((iI_eq zv_32 zr_0).mp e9) (by omega)
                    obtain ⟨-, -, ql, qp⟩ := qap.resolve_left (fun h => by omega)
                    have hga9 := ga_app hA hB hga hT.1 (by rw [hSn]; exact hne) (by rw [hSn]; exact ap_W qp (by omega) (by omega))
                    rw [show (I_3 a 3).toInt.toNat + 1 = (I_35 a 3).toInt.toNat by omega] at hga9
                    refine z_goto (tgt := 11) F dX4_gather_129 (by decide) ?_
                    exact ih11 i (j + 1) I_35 AI_38 H locs ls zi ⟨by omega, by omega⟩ hv (fun b hb => (q_43 b hb).trans (fI b hb)) (fun b hb => (q_44 b hb).trans (fA b hb)) ⟨by omega, by omega⟩ ⟨by omega, by omega⟩ ⟨hga9, by omega⟩ (by omega) hH hS (lv_sub hl [0, 5, 6, 7, 8, 9] rfl)
                  · refine z_iconst F dX4_gather_127 ?_
                    exact g_zret F hr hlk hH hS hz (by omega) ⟨rfl, rfl, rfl, rfl, hv, fun b hb => (q_43 b hb).trans (fI b hb), fun b hb => (q_44 b hb).trans (fA b hb), Or.inr ⟨rfl, by
        have hne : iI v_32 ≠ 0 := fun e9 => absurd ((iI_eq zv_32 zr_0).mp e9) (by omega)
        obtain ⟨-, -, -, ql⟩ := qap.resolve_right (fun h => by omega)
        have hbg := ga_big hga hT.1 (by rw [hSn]; exact hne)
        rwa [show (I_3 a 3).toInt.toNat = gh 1 a by omega] at hbg⟩⟩ dX4_gather_128
            · exact absurd trivial (by omega)
          · exact absurd trivial (by omega)
        · refine lv_aload_n F.1 F.2.1 dX4_gather_45 rfl (lv_at hl 4 rfl) ?_
          refine z_goto (tgt := 50) F dX4_gather_46 (by decide) ?_
          refine lv_astore (lv' := [(7, .ref x), (6, .int (iI v_15)), (5, .int (iI j)), (4, .int (iI i)), (0, .ref a), (1, .ref x), (2, .ref y), (3, .int (iI sign))]) F.1 F.2.1 dX4_gather_50 hl (by decide) rfl (fun ls hl => ?_)
          refine lv_iload F.1 F.2.1 dX4_gather_52 (lv_at hl 1 rfl) ?_
          refine z_if_gt (tgt := 62) F dX4_gather_54 (by decide) zv_15 (fun c_46 => ?_) (fun c_46 => ?_)
          · exact absurd trivial (by omega)
          · refine lv_iload F.1 F.2.1 dX4_gather_57 (lv_at hl 3 rfl) ?_
            refine z_goto (tgt := 64) F dX4_gather_59 (by decide) ?_
            refine lv_istore (lv' := [(8, .int (iI i)), (7, .ref x), (6, .int (iI v_15)), (5, .int (iI j)), (4, .int (iI i)), (0, .ref a), (1, .ref x), (2, .ref y), (3, .int (iI sign))]) F.1 F.2.1 dX4_gather_64 hl (by decide) rfl (fun ls hl => ?_)
            refine z_iconst F dX4_gather_66 ?_
            refine lv_istore (lv' := [(9, .int (iI 0)), (8, .int (iI i)), (7, .ref x), (6, .int (iI v_15)), (5, .int (iI j)), (4, .int (iI i)), (0, .ref a), (1, .ref x), (2, .ref y), (3, .int (iI sign))]) F.1 F.2.1 dX4_gather_67 hl (by decide) rfl (fun ls hl => ?_)
            refine lv_iload F.1 F.2.1 dX4_gather_69 (lv_at hl 3 rfl) ?_
            refine z_if_gt (tgt := 88) F dX4_gather_71 (by decide) zv_15 (fun c_47 => ?_) (fun c_47 => ?_)
            · exact absurd trivial (by omega)
            · refine lv_iload F.1 F.2.1 dX4_gather_74 (lv_at hl 0 rfl) ?_
              refine lv_aload_n F.1 F.2.1 dX4_gather_76 rfl (lv_at hl 7 rfl) ?_
              refine lv_iload F.1 F.2.1 dX4_gather_77 (lv_at hl 5 rfl) ?_
              refine g_calli (g_runV (As := [.int (iI i)]) (rest := [.int (iI 0)]) (ci := 4) F hl.1 hH hS hz (c_X4_amount l g gh I_3 R J AI_4 AJ AR x i zi hv hx (by omega) (by omega)) (cwV 1 F.2.2.2.2.1 gX4_gather_X4_amount rfl rfl rfl hdX4_amount ⟨Nat.le_of_ble_eq_true rfl, Nat.le_of_ble_eq_true rfl⟩) hx (by decide) rfl rfl rfl (Nat.le_of_ble_eq_true rfl) dX4_gather_79 ⟨Nat.zero_le _, Nat.zero_le _⟩) hS (fun v_54 I_48 R_49 J_50 AI_51 AJ_52 AR_53 H locs zv_54 hp_55 hH hS => ?_)
              dsimp only at hp_55
              obtain ⟨rfl, rfl, rfl, rfl, rfl, rfl, qa0⟩ := hp_55
              have qa : v_54 = ((AI (gh 0 x)) (6 * i.toNat + 4)).toInt := by rw [qa0, fA _ hcx, show (i * 6 + (I_3 x 0).toInt).toNat = 6 * i.toNat + 4 by omega]
              refine z_iadd F dX4_gather_82 ?_
              refine z_norm (fun v_56 zv_56 ev_56 => ?_)
              refine lv_istore (lv' := [(9, .int (iI v_56)), (8, .int (iI i)), (7, .ref x), (6, .int (iI v_15)), (5, .int (iI j)), (4, .int (iI i)), (0, .ref a), (1, .ref x), (2, .ref y), (3, .int (iI sign))]) F.1 F.2.1 dX4_gather_83 hl (by decide) rfl (fun ls hl => ?_)
              refine z_iinc (lv' := [(4, .int (iI (i + 1))), (9, .int (iI v_56)), (8, .int (iI i)), (7, .ref x), (6, .int (iI v_15)), (5, .int (iI j)), (0, .ref a), (1, .ref x), (2, .ref y), (3, .int (iI sign))]) F dX4_gather_85 hl (k := 5) rfl (by decide) rfl (fun ls hl => ?_)
              refine lv_iload F.1 F.2.1 dX4_gather_88 (lv_at hl 4 rfl) ?_
              refine z_if_lt (tgt := 109) F dX4_gather_90 (by decide) zv_15 (fun c_57 => ?_) (fun c_57 => ?_)
              · have hT := ga_tl hA hB hSS hga rfl rfl (by omega) (by omega) (oh_lt (by omega) qo (by omega))
                have qn : iI v_56 = (AI (gh 0 x)) (6 * i.toNat + 4) := by rw [ev_56, Int.zero_add, qa, iI_self]
                have hSn := hT.2.trans qn.symm
                refine lv_iload F.1 F.2.1 dX4_gather_109 (lv_at hl 1 rfl) ?_
                refine z_if_eq (tgt := 129) F dX4_gather_111 (by decide) zv_56 (fun c_58 => ?_) (fun c_58 => ?_)
                · have hga9 := ga_skip hA hB hga hT.1 (hSn.trans (by rw [show v_56 = 0 by omega]; rfl))
                  refine z_goto (tgt := 11) F dX4_gather_129 (by decide) ?_
                  exact ih11 (i + 1) j I_3 AI_4 H locs ls ⟨by omega, by omega⟩ zj hv (fun b hb => fI b hb) (fun b hb => fA b hb) ⟨by omega, by omega⟩ ⟨by omega, by omega⟩ ⟨hga9, by omega⟩ (by omega) hH hS (lv_sub hl [5, 0, 6, 7, 8, 9] rfl)
                · refine lv_aload_n F.1 F.2.1 dX4_gather_114 rfl (lv_at hl 6 rfl) ?_
                  refine lv_aload F.1 F.2.1 dX4_gather_115 (lv_at hl 3 rfl) ?_
                  refine lv_iload F.1 F.2.1 dX4_gather_117 (lv_at hl 2 rfl) ?_
                  refine lv_iload F.1 F.2.1 dX4_gather_119 (lv_at hl 1 rfl) ?_
                  obtain ⟨b_59a, b_59b, b_59c, b_59d, b_59e, b_59f, b_59g, b_59h⟩ := gI_rows hv ha
                  refine g_calli (g_runV (As := [.ref x, .int (iI i), .int (iI v_56)]) (rest := []) (ci := 4) F hl.1 hH hS hz (c_X4_appendf l g gh I_3 R J AI_4 AJ AR a x i v_56 zi zv_56 hv ha hx (by omega) (by omega) (by omega)) (cwV 3 F.2.2.2.2.1 gX4_gather_X4_append rfl rfl rfl hdX4_append ⟨Nat.le_of_ble_eq_true rfl, Nat.le_of_ble_eq_true rfl⟩) ha (by decide) rfl rfl rfl (Nat.le_of_ble_eq_true rfl) dX4_gather_121 ⟨Nat.zero_le _, Nat.zero_le _⟩) hS (fun v_66 I_60 R_61 J_62 AI_63 AJ_64 AR_65 H locs zv_66 hp_67 hH hS => ?_)
                  dsimp only at hp_67
                  obtain ⟨rfl, rfl, rfl, rfl, hv, q_68, q_69, qap⟩ := hp_67
                  rw [fA _ hcx] at qap
                  refine z_if_ne (tgt := 129) F dX4_gather_124 (by decide) zv_66 (fun c_70 => ?_) (fun c_70 => ?_)
                  · have hne : iI v_56 ≠ 0 := fun e9 => absurd ((iI_eq zv_56 zr_0).mp e9) (by omega)
                    obtain ⟨-, -, ql, qp⟩ := qap.resolve_left (fun h => by omega)
                    have hga9 := ga_app hA hB hga hT.1 (by rw [hSn]; exact hne) (by rw [hSn]; exact ap_W qp (by omega) (by omega))
                    rw [show (I_3 a 3).toInt.toNat + 1 = (I_60 a 3).toInt.toNat by omega] at hga9
                    refine z_goto (tgt := 11) F dX4_gather_129 (by decide) ?_
                    exact ih11 (i + 1) j I_60 AI_63 H locs ls ⟨by omega, by omega⟩ zj hv (fun b hb => (q_68 b hb).trans (fI b hb)) (fun b hb => (q_69 b hb).trans (fA b hb)) ⟨by omega, by omega⟩ ⟨by omega, by omega⟩ ⟨hga9, by omega⟩ (by omega) hH hS (lv_sub hl [5, 0, 6, 7, 8, 9] rfl)
                  · refine z_iconst F dX4_gather_127 ?_
                    exact g_zret F hr hlk hH hS hz (by omega) ⟨rfl, rfl, rfl, rfl, hv, fun b hb => (q_68 b hb).trans (fI b hb), fun b hb => (q_69 b hb).trans (fA b hb), Or.inr ⟨rfl, by
        have hne : iI v_56 ≠ 0 := fun e9 => absurd ((iI_eq zv_56 zr_0).mp e9) (by omega)
        obtain ⟨-, -, -, ql⟩ := qap.resolve_right (fun h => by omega)
        have hbg := ga_big hga hT.1 (by rw [hSn]; exact hne)
        rwa [show (I_3 a 3).toInt.toNat = gh 1 a by omega] at hbg⟩⟩ dX4_gather_128
              · refine lv_iload F.1 F.2.1 dX4_gather_93 (lv_at hl 1 rfl) ?_
                refine lv_iload_n F.1 F.2.1 dX4_gather_95 rfl (lv_at hl 9 rfl) ?_
                refine lv_aload_n F.1 F.2.1 dX4_gather_96 rfl (lv_at hl 8 rfl) ?_
                refine lv_iload F.1 F.2.1 dX4_gather_97 (lv_at hl 5 rfl) ?_
                refine g_calli (g_runV (As := [.int (iI j)]) (rest := [.int (iI sign), .int (iI v_56)]) (ci := 4) F hl.1 hH hS hz (c_X4_amount l g gh I_3 R J AI_4 AJ AR y j zj hv hy (by omega) (by omega)) (cwV 1 F.2.2.2.2.1 gX4_gather_X4_amount rfl rfl rfl hdX4_amount ⟨Nat.le_of_ble_eq_true rfl, Nat.le_of_ble_eq_true rfl⟩) hy (by decide) rfl rfl rfl (Nat.le_of_ble_eq_true rfl) dX4_gather_99 ⟨Nat.zero_le _, Nat.zero_le _⟩) hS (fun v_77 I_71 R_72 J_73 AI_74 AJ_75 AR_76 H locs zv_77 hp_78 hH hS => ?_)
                dsimp only at hp_78
                obtain ⟨rfl, rfl, rfl, rfl, rfl, rfl, qb0⟩ := hp_78
                have qb : v_77 = ((AI (gh 0 y)) (6 * j.toNat + 4)).toInt := by rw [qb0, fA _ hcy, show (j * 6 + (I_3 y 0).toInt).toNat = 6 * j.toNat + 4 by omega]
                refine z_imul F dX4_gather_102 ?_
                refine z_norm (fun v_79 zv_79 ev_79 => ?_)
                refine z_iadd F dX4_gather_103 ?_
                refine z_norm (fun v_80 zv_80 ev_80 => ?_)
                refine lv_istore (lv' := [(9, .int (iI v_80)), (4, .int (iI (i + 1))), (8, .int (iI i)), (7, .ref x), (6, .int (iI v_15)), (5, .int (iI j)), (0, .ref a), (1, .ref x), (2, .ref y), (3, .int (iI sign))]) F.1 F.2.1 dX4_gather_104 hl (by decide) rfl (fun ls hl => ?_)
                refine z_iinc (lv' := [(5, .int (iI (j + 1))), (9, .int (iI v_80)), (4, .int (iI (i + 1))), (8, .int (iI i)), (7, .ref x), (6, .int (iI v_15)), (0, .ref a), (1, .ref x), (2, .ref y), (3, .int (iI sign))]) F dX4_gather_106 hl (k := 5) rfl (by decide) rfl (fun ls hl => ?_)
                have hT := ga_te hA hB hSS hga rfl rfl (by omega) (by omega) (oh_eq (by omega) qo (by omega))
                have qn : iI v_80 = (AI (gh 0 x)) (6 * i.toNat + 4) + iI sign * (AI (gh 0 y)) (6 * j.toNat + 4) := by rw [ev_80, ← iI_add, ev_56, Int.zero_add, qa, iI_self, ev_79, ← iI_mul, qb, iI_self]
                have hSn := hT.2.trans qn.symm
                refine lv_iload F.1 F.2.1 dX4_gather_109 (lv_at hl 1 rfl) ?_
                refine z_if_eq (tgt := 129) F dX4_gather_111 (by decide) zv_80 (fun c_81 => ?_) (fun c_81 => ?_)
                · have hga9 := ga_skip hA hB hga hT.1 (hSn.trans (by rw [show v_80 = 0 by omega]; rfl))
                  refine z_goto (tgt := 11) F dX4_gather_129 (by decide) ?_
                  exact ih11 (i + 1) (j + 1) I_3 AI_4 H locs ls ⟨by omega, by omega⟩ ⟨by omega, by omega⟩ hv (fun b hb => fI b hb) (fun b hb => fA b hb) ⟨by omega, by omega⟩ ⟨by omega, by omega⟩ ⟨hga9, by omega⟩ (by omega) hH hS (lv_sub hl [0, 2, 6, 7, 8, 9] rfl)
                · refine lv_aload_n F.1 F.2.1 dX4_gather_114 rfl (lv_at hl 6 rfl) ?_
                  refine lv_aload F.1 F.2.1 dX4_gather_115 (lv_at hl 4 rfl) ?_
                  refine lv_iload F.1 F.2.1 dX4_gather_117 (lv_at hl 3 rfl) ?_
                  refine lv_iload F.1 F.2.1 dX4_gather_119 (lv_at hl 1 rfl) ?_
                  obtain ⟨b_82a, b_82b, b_82c, b_82d, b_82e, b_82f, b_82g, b_82h⟩ := gI_rows hv ha
                  refine g_calli (g_runV (As := [.ref x, .int (iI i), .int (iI v_80)]) (rest := []) (ci := 4) F hl.1 hH hS hz (c_X4_appendf l g gh I_3 R J AI_4 AJ AR a x i v_80 zi zv_80 hv ha hx (by omega) (by omega) (by omega)) (cwV 3 F.2.2.2.2.1 gX4_gather_X4_append rfl rfl rfl hdX4_append ⟨Nat.le_of_ble_eq_true rfl, Nat.le_of_ble_eq_true rfl⟩) ha (by decide) rfl rfl rfl (Nat.le_of_ble_eq_true rfl) dX4_gather_121 ⟨Nat.zero_le _, Nat.zero_le _⟩) hS (fun v_89 I_83 R_84 J_85 AI_86 AJ_87 AR_88 H locs zv_89 hp_90 hH hS => ?_)
                  dsimp only at hp_90
                  obtain ⟨rfl, rfl, rfl, rfl, hv, q_91, q_92, qap⟩ := hp_90
                  rw [fA _ hcx] at qap
                  refine z_if_ne (tgt := 129) F dX4_gather_124 (by decide) zv_89 (fun c_93 => ?_) (fun c_93 => ?_)
                  · have hne : iI v_80 ≠ 0 := fun e9 => absurd ((iI_eq zv_80 zr_0).mp e9) (by omega)
                    obtain ⟨-, -, ql, qp⟩ := qap.resolve_left (fun h => by omega)
                    have hga9 := ga_app hA hB hga hT.1 (by rw [hSn]; exact hne) (by rw [hSn]; exact ap_W qp (by omega) (by omega))
                    rw [show (I_3 a 3).toInt.toNat + 1 = (I_83 a 3).toInt.toNat by omega] at hga9
                    refine z_goto (tgt := 11) F dX4_gather_129 (by decide) ?_
                    exact ih11 (i + 1) (j + 1) I_83 AI_86 H locs ls ⟨by omega, by omega⟩ ⟨by omega, by omega⟩ hv (fun b hb => (q_91 b hb).trans (fI b hb)) (fun b hb => (q_92 b hb).trans (fA b hb)) ⟨by omega, by omega⟩ ⟨by omega, by omega⟩ ⟨hga9, by omega⟩ (by omega) hH hS (lv_sub hl [0, 2, 6, 7, 8, 9] rfl)
                  · refine z_iconst F dX4_gather_127 ?_
                    exact g_zret F hr hlk hH hS hz (by omega) ⟨rfl, rfl, rfl, rfl, hv, fun b hb => (q_91 b hb).trans (fI b hb), fun b hb => (q_92 b hb).trans (fA b hb), Or.inr ⟨rfl, by
        have hne : iI v_80 ≠ 0 := fun e9 => absurd ((iI_eq zv_80 zr_0).mp e9) (by omega)
        obtain ⟨-, -, -, ql⟩ := qap.resolve_right (fun h => by omega)
        have hbg := ga_big hga hT.1 (by rw [hSn]; exact hne)
        rwa [show (I_3 a 3).toInt.toNat = gh 1 a by omega] at hbg⟩⟩ dX4_gather_128
      · refine lv_iload F.1 F.2.1 dX4_gather_20 (lv_at hl 0 rfl) ?_
        refine lv_aload_n F.1 F.2.1 dX4_gather_22 rfl (lv_at hl 4 rfl) ?_
        refine g_getI (ci := 4) (k := 3) F hH rfl (by decide) iX4 hy (by decide) rfl k34 dX4_gather_23 ?_
        obtain ⟨b_94a, b_94b, b_94c, b_94d, b_94e, b_94f, b_94g, b_94h⟩ := gI_rows hv hy
        refine z_icmp_ge (tgt := 132) F dX4_gather_26 (by decide) zj (zr_t _) (fun c_95 => ?_) (fun c_95 => ?_)
        · refine z_iconst F dX4_gather_132 ?_
          exact g_zret F hr hlk hH hS hz (by omega) ⟨rfl, rfl, rfl, rfl, hv, fun b hb => fI b hb, fun b hb => fA b hb, Or.inl ⟨rfl, ga_e hga (by omega) (by omega)⟩⟩ dX4_gather_133
        · refine lv_aload_n F.1 F.2.1 dX4_gather_29 rfl (lv_at hl 3 rfl) ?_
          refine lv_iload F.1 F.2.1 dX4_gather_30 (lv_at hl 1 rfl) ?_
          refine lv_aload_n F.1 F.2.1 dX4_gather_32 rfl (lv_at hl 4 rfl) ?_
          refine lv_iload F.1 F.2.1 dX4_gather_33 (lv_at hl 0 rfl) ?_
          refine g_calli (g_runS (As := [.ref x, .int (iI i), .ref y, .int (iI j)]) (rest := []) F hl.1 hH hS hz (c_X4_orderOfHeadsf l g gh I_3 R J AI_4 AJ AR x i y j zi zj hv hx hy (by omega) (by omega) (by omega)) (va_cwS 4 F.2.2.2.2.1 gX4_gather_X4_orderOfHeads rfl rfl rfl hdX4_orderOfHeads.2 ⟨Nat.le_of_ble_eq_true rfl, Nat.le_of_ble_eq_true rfl⟩) rfl rfl (Nat.le_of_ble_eq_true rfl) dX4_gather_35 ⟨Nat.zero_le _, Nat.zero_le _⟩) hS (fun v_102 I_96 R_97 J_98 AI_99 AJ_100 AR_101 H locs zv_102 hp_103 hH hS => ?_)
          dsimp only at hp_103
          obtain ⟨rfl, rfl, rfl, rfl, rfl, rfl, q_104, q_105, qo⟩ := hp_103
          rw [fA _ hcx, fA _ hcy, fI x hxa, fI y hya, hnx, hny] at qo
          refine lv_istore (lv' := [(6, .int (iI v_102)), (5, .int (iI j)), (4, .int (iI i)), (0, .ref a), (1, .ref x), (2, .ref y), (3, .int (iI sign))]) F.1 F.2.1 dX4_gather_38 hl (by decide) rfl (fun ls hl => ?_)
          refine lv_iload F.1 F.2.1 dX4_gather_40 (lv_at hl 0 rfl) ?_
          refine z_if_gt (tgt := 49) F dX4_gather_42 (by decide) zv_102 (fun c_106 => ?_) (fun c_106 => ?_)
          · refine lv_aload_n F.1 F.2.1 dX4_gather_49 rfl (lv_at hl 5 rfl) ?_
            refine lv_astore (lv' := [(7, .ref y), (6, .int (iI v_102)), (5, .int (iI j)), (4, .int (iI i)), (0, .ref a), (1, .ref x), (2, .ref y), (3, .int (iI sign))]) F.1 F.2.1 dX4_gather_50 hl (by decide) rfl (fun ls hl => ?_)
            refine lv_iload F.1 F.2.1 dX4_gather_52 (lv_at hl 1 rfl) ?_
            refine z_if_gt (tgt := 62) F dX4_gather_54 (by decide) zv_102 (fun c_107 => ?_) (fun c_107 => ?_)
            · refine lv_iload F.1 F.2.1 dX4_gather_62 (lv_at hl 2 rfl) ?_
              refine lv_istore (lv' := [(8, .int (iI j)), (7, .ref y), (6, .int (iI v_102)), (5, .int (iI j)), (4, .int (iI i)), (0, .ref a), (1, .ref x), (2, .ref y), (3, .int (iI sign))]) F.1 F.2.1 dX4_gather_64 hl (by decide) rfl (fun ls hl => ?_)
              refine z_iconst F dX4_gather_66 ?_
              refine lv_istore (lv' := [(9, .int (iI 0)), (8, .int (iI j)), (7, .ref y), (6, .int (iI v_102)), (5, .int (iI j)), (4, .int (iI i)), (0, .ref a), (1, .ref x), (2, .ref y), (3, .int (iI sign))]) F.1 F.2.1 dX4_gather_67 hl (by decide) rfl (fun ls hl => ?_)
              refine lv_iload F.1 F.2.1 dX4_gather_69 (lv_at hl 3 rfl) ?_
              refine z_if_gt (tgt := 88) F dX4_gather_71 (by decide) zv_102 (fun c_108 => ?_) (fun c_108 => ?_)
              · refine lv_iload F.1 F.2.1 dX4_gather_88 (lv_at hl 3 rfl) ?_
                refine z_if_lt (tgt := 109) F dX4_gather_90 (by decide) zv_102 (fun c_109 => ?_) (fun c_109 => ?_)
                · exact absurd trivial (by omega)
                · refine lv_iload F.1 F.2.1 dX4_gather_93 (lv_at hl 0 rfl) ?_
                  refine lv_iload_n F.1 F.2.1 dX4_gather_95 rfl (lv_at hl 9 rfl) ?_
                  refine lv_aload_n F.1 F.2.1 dX4_gather_96 rfl (lv_at hl 8 rfl) ?_
                  refine lv_iload F.1 F.2.1 dX4_gather_97 (lv_at hl 4 rfl) ?_
                  refine g_calli (g_runV (As := [.int (iI j)]) (rest := [.int (iI sign), .int (iI 0)]) (ci := 4) F hl.1 hH hS hz (c_X4_amount l g gh I_3 R J AI_4 AJ AR y j zj hv hy (by omega) (by omega)) (cwV 1 F.2.2.2.2.1 gX4_gather_X4_amount rfl rfl rfl hdX4_amount ⟨Nat.le_of_ble_eq_true rfl, Nat.le_of_ble_eq_true rfl⟩) hy (by decide) rfl rfl rfl (Nat.le_of_ble_eq_true rfl) dX4_gather_99 ⟨Nat.zero_le _, Nat.zero_le _⟩) hS (fun v_116 I_110 R_111 J_112 AI_113 AJ_114 AR_115 H locs zv_116 hp_117 hH hS => ?_)
                  dsimp only at hp_117
                  obtain ⟨rfl, rfl, rfl, rfl, rfl, rfl, qb0⟩ := hp_117
                  have qb : v_116 = ((AI (gh 0 y)) (6 * j.toNat + 4)).toInt := by rw [qb0, fA _ hcy, show (j * 6 + (I_3 y 0).toInt).toNat = 6 * j.toNat + 4 by omega]
                  refine z_imul F dX4_gather_102 ?_
                  refine z_norm (fun v_118 zv_118 ev_118 => ?_)
                  refine z_iadd F dX4_gather_103 ?_
                  refine z_norm (fun v_119 zv_119 ev_119 => ?_)
                  refine lv_istore (lv' := [(9, .int (iI v_119)), (8, .int (iI j)), (7, .ref y), (6, .int (iI v_102)), (5, .int (iI j)), (4, .int (iI i)), (0, .ref a), (1, .ref x), (2, .ref y), (3, .int (iI sign))]) F.1 F.2.1 dX4_gather_104 hl (by decide) rfl (fun ls hl => ?_)
                  refine z_iinc (lv' := [(5, .int (iI (j + 1))), (9, .int (iI v_119)), (8, .int (iI j)), (7, .ref y), (6, .int (iI v_102)), (4, .int (iI i)), (0, .ref a), (1, .ref x), (2, .ref y), (3, .int (iI sign))]) F dX4_gather_106 hl (k := 4) rfl (by decide) rfl (fun ls hl => ?_)
                  have hT := ga_tg hA hB hSS hga rfl rfl (by omega) (by omega) (oh_gt (by omega) qo (by omega) (by omega))
                  have qn : iI v_119 = iI sign * (AI (gh 0 y)) (6 * j.toNat + 4) := by rw [ev_119, Int.zero_add, ev_118, ← iI_mul, qb, iI_self]
                  have hSn := hT.2.trans qn.symm
                  refine lv_iload F.1 F.2.1 dX4_gather_109 (lv_at hl 1 rfl) ?_
                  refine z_if_eq (tgt := 129) F dX4_gather_111 (by decide) zv_119 (fun c_120 => ?_) (fun c_120 => ?_)
                  · have hga9 := ga_skip hA hB hga hT.1 (hSn.trans (by rw [show v_119 = 0 by omega]; rfl))
                    refine z_goto (tgt := 11) F dX4_gather_129 (by decide) ?_
                    exact ih11 i (j + 1) I_3 AI_4 H locs ls zi ⟨by omega, by omega⟩ hv (fun b hb => fI b hb) (fun b hb => fA b hb) ⟨by omega, by omega⟩ ⟨by omega, by omega⟩ ⟨hga9, by omega⟩ (by omega) hH hS (lv_sub hl [0, 5, 6, 7, 8, 9] rfl)
                  · refine lv_aload_n F.1 F.2.1 dX4_gather_114 rfl (lv_at hl 6 rfl) ?_
                    refine lv_aload F.1 F.2.1 dX4_gather_115 (lv_at hl 3 rfl) ?_
                    refine lv_iload F.1 F.2.1 dX4_gather_117 (lv_at hl 2 rfl) ?_
                    refine lv_iload F.1 F.2.1 dX4_gather_119 (lv_at hl 1 rfl) ?_
                    obtain ⟨b_121a, b_121b, b_121c, b_121d, b_121e, b_121f, b_121g, b_121h⟩ := gI_rows hv ha
                    refine g_calli (g_runV (As := [.ref y, .int (iI j), .int (iI v_119)]) (rest := []) (ci := 4) F hl.1 hH hS hz (c_X4_appendf l g gh I_3 R J AI_4 AJ AR a y j v_119 zj zv_119 hv ha hy (by omega) (by omega) (by omega)) (cwV 3 F.2.2.2.2.1 gX4_gather_X4_append rfl rfl rfl hdX4_append ⟨Nat.le_of_ble_eq_true rfl, Nat.le_of_ble_eq_true rfl⟩) ha (by decide) rfl rfl rfl (Nat.le_of_ble_eq_true rfl) dX4_gather_121 ⟨Nat.zero_le _, Nat.zero_le _⟩) hS (fun v_128 I_122 R_123 J_124 AI_125 AJ_126 AR_127 H locs zv_128 hp_129 hH hS => ?_)
                    dsimp only at hp_129
                    obtain ⟨rfl, rfl, rfl, rfl, hv, q_130, q_131, qap⟩ := hp_129
                    rw [fA _ hcy] at qap
                    refine z_if_ne (tgt := 129) F dX4_gather_124 (by decide) zv_128 (fun c_132 => ?_) (fun c_132 => ?_)
                    · have hne : iI v_119 ≠ 0 := fun e9 => absurd ((iI_eq zv_119 zr_0).mp e9) (by omega)
                      obtain ⟨-, -, ql, qp⟩ := qap.resolve_left (fun h => by omega)
                      have hga9 := ga_app hA hB hga hT.1 (by rw [hSn]; exact hne) (by rw [hSn]; exact ap_W qp (by omega) (by omega))
                      rw [show (I_3 a 3).toInt.toNat + 1 = (I_122 a 3).toInt.toNat by omega] at hga9
                      refine z_goto (tgt := 11) F dX4_gather_129 (by decide) ?_
                      exact ih11 i (j + 1) I_122 AI_125 H locs ls zi ⟨by omega, by omega⟩ hv (fun b hb => (q_130 b hb).trans (fI b hb)) (fun b hb => (q_131 b hb).trans (fA b hb)) ⟨by omega, by omega⟩ ⟨by omega, by omega⟩ ⟨hga9, by omega⟩ (by omega) hH hS (lv_sub hl [0, 5, 6, 7, 8, 9] rfl)
                    · refine z_iconst F dX4_gather_127 ?_
                      exact g_zret F hr hlk hH hS hz (by omega) ⟨rfl, rfl, rfl, rfl, hv, fun b hb => (q_130 b hb).trans (fI b hb), fun b hb => (q_131 b hb).trans (fA b hb), Or.inr ⟨rfl, by
        have hne : iI v_119 ≠ 0 := fun e9 => absurd ((iI_eq zv_119 zr_0).mp e9) (by omega)
        obtain ⟨-, -, -, ql⟩ := qap.resolve_right (fun h => by omega)
        have hbg := ga_big hga hT.1 (by rw [hSn]; exact hne)
        rwa [show (I_3 a 3).toInt.toNat = gh 1 a by omega] at hbg⟩⟩ dX4_gather_128
              · exact absurd trivial (by omega)
            · exact absurd trivial (by omega)
          · refine lv_aload_n F.1 F.2.1 dX4_gather_45 rfl (lv_at hl 4 rfl) ?_
            refine z_goto (tgt := 50) F dX4_gather_46 (by decide) ?_
            refine lv_astore (lv' := [(7, .ref x), (6, .int (iI v_102)), (5, .int (iI j)), (4, .int (iI i)), (0, .ref a), (1, .ref x), (2, .ref y), (3, .int (iI sign))]) F.1 F.2.1 dX4_gather_50 hl (by decide) rfl (fun ls hl => ?_)
            refine lv_iload F.1 F.2.1 dX4_gather_52 (lv_at hl 1 rfl) ?_
            refine z_if_gt (tgt := 62) F dX4_gather_54 (by decide) zv_102 (fun c_133 => ?_) (fun c_133 => ?_)
            · exact absurd trivial (by omega)
            · refine lv_iload F.1 F.2.1 dX4_gather_57 (lv_at hl 3 rfl) ?_
              refine z_goto (tgt := 64) F dX4_gather_59 (by decide) ?_
              refine lv_istore (lv' := [(8, .int (iI i)), (7, .ref x), (6, .int (iI v_102)), (5, .int (iI j)), (4, .int (iI i)), (0, .ref a), (1, .ref x), (2, .ref y), (3, .int (iI sign))]) F.1 F.2.1 dX4_gather_64 hl (by decide) rfl (fun ls hl => ?_)
              refine z_iconst F dX4_gather_66 ?_
              refine lv_istore (lv' := [(9, .int (iI 0)), (8, .int (iI i)), (7, .ref x), (6, .int (iI v_102)), (5, .int (iI j)), (4, .int (iI i)), (0, .ref a), (1, .ref x), (2, .ref y), (3, .int (iI sign))]) F.1 F.2.1 dX4_gather_67 hl (by decide) rfl (fun ls hl => ?_)
              refine lv_iload F.1 F.2.1 dX4_gather_69 (lv_at hl 3 rfl) ?_
              refine z_if_gt (tgt := 88) F dX4_gather_71 (by decide) zv_102 (fun c_134 => ?_) (fun c_134 => ?_)
              · exact absurd trivial (by omega)
              · refine lv_iload F.1 F.2.1 dX4_gather_74 (lv_at hl 0 rfl) ?_
                refine lv_aload_n F.1 F.2.1 dX4_gather_76 rfl (lv_at hl 7 rfl) ?_
                refine lv_iload F.1 F.2.1 dX4_gather_77 (lv_at hl 5 rfl) ?_
                refine g_calli (g_runV (As := [.int (iI i)]) (rest := [.int (iI 0)]) (ci := 4) F hl.1 hH hS hz (c_X4_amount l g gh I_3 R J AI_4 AJ AR x i zi hv hx (by omega) (by omega)) (cwV 1 F.2.2.2.2.1 gX4_gather_X4_amount rfl rfl rfl hdX4_amount ⟨Nat.le_of_ble_eq_true rfl, Nat.le_of_ble_eq_true rfl⟩) hx (by decide) rfl rfl rfl (Nat.le_of_ble_eq_true rfl) dX4_gather_79 ⟨Nat.zero_le _, Nat.zero_le _⟩) hS (fun v_141 I_135 R_136 J_137 AI_138 AJ_139 AR_140 H locs zv_141 hp_142 hH hS => ?_)
                dsimp only at hp_142
                obtain ⟨rfl, rfl, rfl, rfl, rfl, rfl, qa0⟩ := hp_142
                have qa : v_141 = ((AI (gh 0 x)) (6 * i.toNat + 4)).toInt := by rw [qa0, fA _ hcx, show (i * 6 + (I_3 x 0).toInt).toNat = 6 * i.toNat + 4 by omega]
                refine z_iadd F dX4_gather_82 ?_
                refine z_norm (fun v_143 zv_143 ev_143 => ?_)
                refine lv_istore (lv' := [(9, .int (iI v_143)), (8, .int (iI i)), (7, .ref x), (6, .int (iI v_102)), (5, .int (iI j)), (4, .int (iI i)), (0, .ref a), (1, .ref x), (2, .ref y), (3, .int (iI sign))]) F.1 F.2.1 dX4_gather_83 hl (by decide) rfl (fun ls hl => ?_)
                refine z_iinc (lv' := [(4, .int (iI (i + 1))), (9, .int (iI v_143)), (8, .int (iI i)), (7, .ref x), (6, .int (iI v_102)), (5, .int (iI j)), (0, .ref a), (1, .ref x), (2, .ref y), (3, .int (iI sign))]) F dX4_gather_85 hl (k := 5) rfl (by decide) rfl (fun ls hl => ?_)
                refine lv_iload F.1 F.2.1 dX4_gather_88 (lv_at hl 4 rfl) ?_
                refine z_if_lt (tgt := 109) F dX4_gather_90 (by decide) zv_102 (fun c_144 => ?_) (fun c_144 => ?_)
                · have hT := ga_tl hA hB hSS hga rfl rfl (by omega) (by omega) (oh_lt (by omega) qo (by omega))
                  have qn : iI v_143 = (AI (gh 0 x)) (6 * i.toNat + 4) := by rw [ev_143, Int.zero_add, qa, iI_self]
                  have hSn := hT.2.trans qn.symm
                  refine lv_iload F.1 F.2.1 dX4_gather_109 (lv_at hl 1 rfl) ?_
                  refine z_if_eq (tgt := 129) F dX4_gather_111 (by decide) zv_143 (fun c_145 => ?_) (fun c_145 => ?_)
                  · have hga9 := ga_skip hA hB hga hT.1 (hSn.trans (by rw [show v_143 = 0 by omega]; rfl))
                    refine z_goto (tgt := 11) F dX4_gather_129 (by decide) ?_
                    exact ih11 (i + 1) j I_3 AI_4 H locs ls ⟨by omega, by omega⟩ zj hv (fun b hb => fI b hb) (fun b hb => fA b hb) ⟨by omega, by omega⟩ ⟨by omega, by omega⟩ ⟨hga9, by omega⟩ (by omega) hH hS (lv_sub hl [5, 0, 6, 7, 8, 9] rfl)
                  · refine lv_aload_n F.1 F.2.1 dX4_gather_114 rfl (lv_at hl 6 rfl) ?_
                    refine lv_aload F.1 F.2.1 dX4_gather_115 (lv_at hl 3 rfl) ?_
                    refine lv_iload F.1 F.2.1 dX4_gather_117 (lv_at hl 2 rfl) ?_
                    refine lv_iload F.1 F.2.1 dX4_gather_119 (lv_at hl 1 rfl) ?_
                    obtain ⟨b_146a, b_146b, b_146c, b_146d, b_146e, b_146f, b_146g, b_146h⟩ := gI_rows hv ha
                    refine g_calli (g_runV (As := [.ref x, .int (iI i), .int (iI v_143)]) (rest := []) (ci := 4) F hl.1 hH hS hz (c_X4_appendf l g gh I_3 R J AI_4 AJ AR a x i v_143 zi zv_143 hv ha hx (by omega) (by omega) (by omega)) (cwV 3 F.2.2.2.2.1 gX4_gather_X4_append rfl rfl rfl hdX4_append ⟨Nat.le_of_ble_eq_true rfl, Nat.le_of_ble_eq_true rfl⟩) ha (by decide) rfl rfl rfl (Nat.le_of_ble_eq_true rfl) dX4_gather_121 ⟨Nat.zero_le _, Nat.zero_le _⟩) hS (fun v_153 I_147 R_148 J_149 AI_150 AJ_151 AR_152 H locs zv_153 hp_154 hH hS => ?_)
                    dsimp only at hp_154
                    obtain ⟨rfl, rfl, rfl, rfl, hv, q_155, q_156, qap⟩ := hp_154
                    rw [fA _ hcx] at qap
                    refine z_if_ne (tgt := 129) F dX4_gather_124 (by decide) zv_153 (fun c_157 => ?_) (fun c_157 => ?_)
                    · have hne : iI v_143 ≠ 0 := fun e9 => absurd ((iI_eq zv_143 zr_0).mp e9) (by omega)
                      obtain ⟨-, -, ql, qp⟩ := qap.resolve_left (fun h => by omega)
                      have hga9 := ga_app hA hB hga hT.1 (by rw [hSn]; exact hne) (by rw [hSn]; exact ap_W qp (by omega) (by omega))
                      rw [show (I_3 a 3).toInt.toNat + 1 = (I_147 a 3).toInt.toNat by omega] at hga9
                      refine z_goto (tgt := 11) F dX4_gather_129 (by decide) ?_
                      exact ih11 (i + 1) j I_147 AI_150 H locs ls ⟨by omega, by omega⟩ zj hv (fun b hb => (q_155 b hb).trans (fI b hb)) (fun b hb => (q_156 b hb).trans (fA b hb)) ⟨by omega, by omega⟩ ⟨by omega, by omega⟩ ⟨hga9, by omega⟩ (by omega) hH hS (lv_sub hl [5, 0, 6, 7, 8, 9] rfl)
                    · refine z_iconst F dX4_gather_127 ?_
                      exact g_zret F hr hlk hH hS hz (by omega) ⟨rfl, rfl, rfl, rfl, hv, fun b hb => (q_155 b hb).trans (fI b hb), fun b hb => (q_156 b hb).trans (fA b hb), Or.inr ⟨rfl, by
        have hne : iI v_143 ≠ 0 := fun e9 => absurd ((iI_eq zv_143 zr_0).mp e9) (by omega)
        obtain ⟨-, -, -, ql⟩ := qap.resolve_right (fun h => by omega)
        have hbg := ga_big hga hT.1 (by rw [hSn]; exact hne)
        rwa [show (I_3 a 3).toInt.toNat = gh 1 a by omega] at hbg⟩⟩ dX4_gather_128
                · refine lv_iload F.1 F.2.1 dX4_gather_93 (lv_at hl 1 rfl) ?_
                  refine lv_iload_n F.1 F.2.1 dX4_gather_95 rfl (lv_at hl 9 rfl) ?_
                  refine lv_aload_n F.1 F.2.1 dX4_gather_96 rfl (lv_at hl 8 rfl) ?_
                  refine lv_iload F.1 F.2.1 dX4_gather_97 (lv_at hl 5 rfl) ?_
                  refine g_calli (g_runV (As := [.int (iI j)]) (rest := [.int (iI sign), .int (iI v_143)]) (ci := 4) F hl.1 hH hS hz (c_X4_amount l g gh I_3 R J AI_4 AJ AR y j zj hv hy (by omega) (by omega)) (cwV 1 F.2.2.2.2.1 gX4_gather_X4_amount rfl rfl rfl hdX4_amount ⟨Nat.le_of_ble_eq_true rfl, Nat.le_of_ble_eq_true rfl⟩) hy (by decide) rfl rfl rfl (Nat.le_of_ble_eq_true rfl) dX4_gather_99 ⟨Nat.zero_le _, Nat.zero_le _⟩) hS (fun v_164 I_158 R_159 J_160 AI_161 AJ_162 AR_163 H locs zv_164 hp_165 hH hS => ?_)
                  dsimp only at hp_165
                  obtain ⟨rfl, rfl, rfl, rfl, rfl, rfl, qb0⟩ := hp_165
                  have qb : v_164 = ((AI (gh 0 y)) (6 * j.toNat + 4)).toInt := by rw [qb0, fA _ hcy, show (j * 6 + (I_3 y 0).toInt).toNat = 6 * j.toNat + 4 by omega]
                  refine z_imul F dX4_gather_102 ?_
                  refine z_norm (fun v_166 zv_166 ev_166 => ?_)
                  refine z_iadd F dX4_gather_103 ?_
                  refine z_norm (fun v_167 zv_167 ev_167 => ?_)
                  refine lv_istore (lv' := [(9, .int (iI v_167)), (4, .int (iI (i + 1))), (8, .int (iI i)), (7, .ref x), (6, .int (iI v_102)), (5, .int (iI j)), (0, .ref a), (1, .ref x), (2, .ref y), (3, .int (iI sign))]) F.1 F.2.1 dX4_gather_104 hl (by decide) rfl (fun ls hl => ?_)
                  refine z_iinc (lv' := [(5, .int (iI (j + 1))), (9, .int (iI v_167)), (4, .int (iI (i + 1))), (8, .int (iI i)), (7, .ref x), (6, .int (iI v_102)), (0, .ref a), (1, .ref x), (2, .ref y), (3, .int (iI sign))]) F dX4_gather_106 hl (k := 5) rfl (by decide) rfl (fun ls hl => ?_)
                  have hT := ga_te hA hB hSS hga rfl rfl (by omega) (by omega) (oh_eq (by omega) qo (by omega))
                  have qn : iI v_167 = (AI (gh 0 x)) (6 * i.toNat + 4) + iI sign * (AI (gh 0 y)) (6 * j.toNat + 4) := by rw [ev_167, ← iI_add, ev_143, Int.zero_add, qa, iI_self, ev_166, ← iI_mul, qb, iI_self]
                  have hSn := hT.2.trans qn.symm
                  refine lv_iload F.1 F.2.1 dX4_gather_109 (lv_at hl 1 rfl) ?_
                  refine z_if_eq (tgt := 129) F dX4_gather_111 (by decide) zv_167 (fun c_168 => ?_) (fun c_168 => ?_)
                  · have hga9 := ga_skip hA hB hga hT.1 (hSn.trans (by rw [show v_167 = 0 by omega]; rfl))
                    refine z_goto (tgt := 11) F dX4_gather_129 (by decide) ?_
                    exact ih11 (i + 1) (j + 1) I_3 AI_4 H locs ls ⟨by omega, by omega⟩ ⟨by omega, by omega⟩ hv (fun b hb => fI b hb) (fun b hb => fA b hb) ⟨by omega, by omega⟩ ⟨by omega, by omega⟩ ⟨hga9, by omega⟩ (by omega) hH hS (lv_sub hl [0, 2, 6, 7, 8, 9] rfl)
                  · refine lv_aload_n F.1 F.2.1 dX4_gather_114 rfl (lv_at hl 6 rfl) ?_
                    refine lv_aload F.1 F.2.1 dX4_gather_115 (lv_at hl 4 rfl) ?_
                    refine lv_iload F.1 F.2.1 dX4_gather_117 (lv_at hl 3 rfl) ?_
                    refine lv_iload F.1 F.2.1 dX4_gather_119 (lv_at hl 1 rfl) ?_
                    obtain ⟨b_169a, b_169b, b_169c, b_169d, b_169e, b_169f, b_169g, b_169h⟩ := gI_rows hv ha
                    refine g_calli (g_runV (As := [.ref x, .int (iI i), .int (iI v_167)]) (rest := []) (ci := 4) F hl.1 hH hS hz (c_X4_appendf l g gh I_3 R J AI_4 AJ AR a x i v_167 zi zv_167 hv ha hx (by omega) (by omega) (by omega)) (cwV 3 F.2.2.2.2.1 gX4_gather_X4_append rfl rfl rfl hdX4_append ⟨Nat.le_of_ble_eq_true rfl, Nat.le_of_ble_eq_true rfl⟩) ha (by decide) rfl rfl rfl (Nat.le_of_ble_eq_true rfl) dX4_gather_121 ⟨Nat.zero_le _, Nat.zero_le _⟩) hS (fun v_176 I_170 R_171 J_172 AI_173 AJ_174 AR_175 H locs zv_176 hp_177 hH hS => ?_)
                    dsimp only at hp_177
                    obtain ⟨rfl, rfl, rfl, rfl, hv, q_178, q_179, qap⟩ := hp_177
                    rw [fA _ hcx] at qap
                    refine z_if_ne (tgt := 129) F dX4_gather_124 (by decide) zv_176 (fun c_180 => ?_) (fun c_180 => ?_)
                    · have hne : iI v_167 ≠ 0 := fun e9 => absurd ((iI_eq zv_167 zr_0).mp e9) (by omega)
                      obtain ⟨-, -, ql, qp⟩ := qap.resolve_left (fun h => by omega)
                      have hga9 := ga_app hA hB hga hT.1 (by rw [hSn]; exact hne) (by rw [hSn]; exact ap_W qp (by omega) (by omega))
                      rw [show (I_3 a 3).toInt.toNat + 1 = (I_170 a 3).toInt.toNat by omega] at hga9
                      refine z_goto (tgt := 11) F dX4_gather_129 (by decide) ?_
                      exact ih11 (i + 1) (j + 1) I_170 AI_173 H locs ls ⟨by omega, by omega⟩ ⟨by omega, by omega⟩ hv (fun b hb => (q_178 b hb).trans (fI b hb)) (fun b hb => (q_179 b hb).trans (fA b hb)) ⟨by omega, by omega⟩ ⟨by omega, by omega⟩ ⟨hga9, by omega⟩ (by omega) hH hS (lv_sub hl [0, 2, 6, 7, 8, 9] rfl)
                    · refine z_iconst F dX4_gather_127 ?_
                      exact g_zret F hr hlk hH hS hz (by omega) ⟨rfl, rfl, rfl, rfl, hv, fun b hb => (q_178 b hb).trans (fI b hb), fun b hb => (q_179 b hb).trans (fA b hb), Or.inr ⟨rfl, by
        have hne : iI v_167 ≠ 0 := fun e9 => absurd ((iI_eq zv_167 zr_0).mp e9) (by omega)
        obtain ⟨-, -, -, ql⟩ := qap.resolve_right (fun h => by omega)
        have hbg := ga_big hga hT.1 (by rw [hSn]; exact hne)
        rwa [show (I_3 a 3).toInt.toNat = gh 1 a by omega] at hbg⟩⟩ dX4_gather_128
  exact cut_11_4 ((((gh 1 x : Int) + (gh 1 y : Int) - 0 - 0) + 1 : Int).toNat) 0 0 I_1 AI H locs ls ⟨by decide, by decide⟩ ⟨by decide, by decide⟩ hv (fun b hb => kI_1 b hb) (fun _ _ => rfl) ⟨by omega, by omega⟩ ⟨by omega, by omega⟩ ⟨by rw [show (I_1 a 3).toInt = 0 by omega]; exact ga_0 hA hB hSS, by omega⟩ (by omega) hH hS (lv_sub hl [0, 1, 2, 3, 4, 5] rfl)

def rmX4_copyKeyf : Room := { frames := 1, cells := 0, slots := 0, locals := 60 }
set_option maxHeartbeats 4000000 in
set_option maxRecDepth 100000 in
/-- fills a key with the keys of a row -/
theorem c_X4_copyKeyf (l : Launch) (g : gG) (gh : gGh) (I : gI) (R : gR) (J : gJ) (AI : gI) (AJ : gJ) (AR : gR) (a : Nat) (row : Int) (from_ : Int) (k : Nat) (zrow : zr row) (zfrom_ : zr from_) (hv : gInv g gh R AR I AI) (ha : gO g a 4) (h0 : 0 ≤ row) (h1 : row < (gh 1 a : Int)) (hk : gAr g k 9 5) (hk0 : gh 9 k = 0) (h2 : 0 ≤ from_) (h3 : from_ ≤ 4) : gMet l g yX4_copyKey wsX4_copyKey rmX4_copyKeyf [.ref a, .int (iI row), .int (iI from_), .ref k] (I, R, J, AI, AJ, AR) (gQv g (fun w : gS => I = w.1 ∧ R = w.2.1 ∧ J = w.2.2.1 ∧ AJ = w.2.2.2.2.1 ∧ AR = w.2.2.2.2.2 ∧ (∀ b, b ≠ k → (w.2.2.2.1) b = AI b) ∧ (gInv g gh R AR I (w.2.2.2.1)) ∧ ((w.2.2.2.1) k = va_cpy (AI (gh 0 a)) (AI k) (row * 6 + from_).toNat (0 : Int).toNat ((gh 2 a : Int) - from_).toNat))) := by
  refine gStart (cc := cX4_copyKey) (maxL := 4) (ret := none) (by decide) rfl (Nat.le_of_ble_eq_true rfl) ?_
  intro p e s m below meth c ls F hr hlk hH hz hS hl
  have hl : lv_has ls 4 [(0, .ref a), (1, .int (iI row)), (2, .int (iI from_)), (3, .ref k)] := hl
  have hS : va_S (gA g) s.heap s.heap [] := hS
  obtain ⟨H, hHe⟩ : ∃ H : Heap, H = s.heap := ⟨_, rfl⟩
  obtain ⟨locs, hlo⟩ : ∃ k : List Loc, k = [] := ⟨_, rfl⟩
  have hH : gH g I R J AI AJ AR H := by rw [hHe]; exact hH
  have hS : va_S (gA g) s.heap H locs := by rw [hHe, hlo]; exact hS
  suffices hw : W p l e rmX4_copyKeyf s m ([.ref a, .int (iI row), .int (iI from_), .ref k] : List Value).toArray below meth c H locs 0 0 (MQ below (gQv g (fun w : gS => I = w.1 ∧ R = w.2.1 ∧ J = w.2.2.1 ∧ AJ = w.2.2.2.2.1 ∧ AR = w.2.2.2.2.2 ∧ (∀ b, b ≠ k → (w.2.2.2.1) b = AI b) ∧ (gInv g gh R AR I (w.2.2.2.1)) ∧ ((w.2.2.2.1) k = va_cpy (AI (gh 0 a)) (AI k) (row * 6 + from_).toNat (0 : Int).toNat ((gh 2 a : Int) - from_).toNat))) ([.ref a, .int (iI row), .int (iI from_), .ref k] : List Value).toArray s 0 0 (gA g)) (F0 m 0 ls []) by
    rw [hHe, hlo] at hw; exact hw
  clear hHe hlo
  have iX4 : ∀ w ∈ u_ws RX4 TX4 4, w ∈ wsX4_copyKey := (by decide +kernel)
  have k16 : Cond.fieldLink RX4 16 (TX4 2).1 (TX4 2).2.1 (TX4 2).2.2.1 ∈ wsX4_copyKey := List.mem_of_getElem? (i := 1) rfl
  have k7 : Cond.fieldLink RX4 7 (TX4 0).1 (TX4 0).2.1 (TX4 0).2.2.1 ∈ wsX4_copyKey := List.mem_of_getElem? (i := 2) rfl
  refine lv_aload_n F.1 F.2.1 dX4_copyKey_0 rfl (lv_at hl 0 rfl) ?_
  obtain ⟨b_1a, b_1b, b_1c, b_1d, b_1e, b_1f, b_1g, b_1h⟩ := gI_rows hv ha
  obtain ⟨r_2a, r_2b⟩ := gR_cells hv ha
  refine g_getR (ci := 4) (k := 2) F hH rfl (by decide) iX4 ha (by decide) rfl (b := gh 0 a) r_2a k16 dX4_copyKey_1 ?_
  refine lv_iload_n F.1 F.2.1 dX4_copyKey_4 rfl (lv_at hl 1 rfl) ?_
  refine z_bipush F dX4_copyKey_5 (by decide) ?_
  refine z_imul F dX4_copyKey_7 ?_
  refine lv_iload_n F.1 F.2.1 dX4_copyKey_8 rfl (lv_at hl 2 rfl) ?_
  refine z_iadd F dX4_copyKey_9 ?_
  refine lv_aload_n F.1 F.2.1 dX4_copyKey_10 rfl (lv_at hl 3 rfl) ?_
  refine z_iconst F dX4_copyKey_11 ?_
  refine lv_aload_n F.1 F.2.1 dX4_copyKey_12 rfl (lv_at hl 0 rfl) ?_
  refine g_getI (ci := 4) (k := 0) F hH rfl (by decide) iX4 ha (by decide) rfl k7 dX4_copyKey_13 ?_
  refine lv_iload_n F.1 F.2.1 dX4_copyKey_16 rfl (lv_at hl 2 rfl) ?_
  refine z_isub F dX4_copyKey_17 ?_
  have hx18 : 0 ≤ ((row * 6) + from_) ∧ 0 ≤ (0 : Int) ∧ 0 ≤ (((I a 0).toInt) - from_) ∧ ((row * 6) + from_) + (((I a 0).toInt) - from_) ≤ ((6 * gh 1 a : Nat) : Int) ∧ (0 : Int) + (((I a 0).toInt) - from_) ≤ ((5 : Nat) : Int) ∧ ((row * 6) + from_) ≤ 2147483647 ∧ (0 : Int) ≤ 2147483647 ∧ (((I a 0).toInt) - from_) ≤ 2147483647 := ⟨by omega, by omega, by omega, by omega, by omega, by omega, by omega, by omega⟩
  refine g_copyi (rest := []) F hl.1 hH hS r_2b hk (List.mem_of_getElem? (i := 3) rfl) (List.mem_of_getElem? (i := 4) rfl) (List.mem_of_getElem? (i := 5) rfl) (List.mem_of_getElem? (i := 6) rfl) hx18 (Nat.le_of_ble_eq_true rfl) (Nat.le_of_ble_eq_true rfl) dX4_copyKey_18 (fun H locs hH hS => ?_)
  obtain ⟨AI_3, eAI_3⟩ : ∃ qQ, qQ = gup1 AI k (va_cpy (AI (gh 0 a)) (AI k) (((row * 6) + from_)).toNat ((0 : Int)).toNat ((((I a 0).toInt) - from_)).toNat) := ⟨_, rfl⟩
  rw [← eAI_3] at hH
  have kAI_3 : ∀ b, b ≠ k → AI_3 b = AI b := fun b hb => by rw [eAI_3]; exact gup1_a _ _ hb
  have hv : gInv g gh R AR I AI_3 := gInv_plain hv hk0 kAI_3
  exact g_vret F hr hlk hH hS hz ⟨rfl, rfl, rfl, rfl, rfl, kAI_3, hv, by (try dsimp only); rw [eAI_3, gup1_s, show (I a 0).toInt = (gh 2 a : Int) by omega]⟩ dX4_copyKey_21

def rmX4_copyFromf : Room := { frames := 1, cells := 0, slots := 0, locals := 60 }
set_option maxHeartbeats 4000000 in
set_option maxRecDepth 100000 in
/-- a copy -/
theorem c_X4_copyFromf (l : Launch) (g : gG) (gh : gGh) (I : gI) (R : gR) (J : gJ) (AI : gI) (AJ : gJ) (AR : gR) (a : Nat) (o : Nat) (hv : gInv g gh R AR I AI) (ha : gO g a 4) (ho : gO g o 4) (h5 : gh 2 a = 5 → gh 2 o = 5) (hfz : gh 2 a = 5 → gh 42 0 = 1 → a ≠ gh 37 0) : gMet l g yX4_copyFrom wsX4_copyFrom rmX4_copyFromf [.ref a, .ref o] (I, R, J, AI, AJ, AR) (gQv g (fun w : gS => R = w.2.1 ∧ J = w.2.2.1 ∧ AJ = w.2.2.2.2.1 ∧ AR = w.2.2.2.2.2 ∧ (gInv g gh R AR (w.1) (w.2.2.2.1)) ∧ (∀ b, b ≠ a → (w.1) b = I b) ∧ (∀ b, b ≠ gh 0 a → (w.2.2.2.1) b = AI b) ∧ ((I o 3).toInt ≤ (gh 1 a : Int) → ((w.1) a 3).toInt = (I o 3).toInt ∧ rwA ((w.2.2.2.1) (gh 0 a)) (AI (gh 0 o)) (I o 3).toInt.toNat))) := by
  refine gStart (cc := cX4_copyFrom) (maxL := 2) (ret := none) (by decide) rfl (Nat.le_of_ble_eq_true rfl) ?_
  intro p e s m below meth c ls F hr hlk hH hz hS hl
  have hl : lv_has ls 2 [(0, .ref a), (1, .ref o)] := hl
  have hS : va_S (gA g) s.heap s.heap [] := hS
  obtain ⟨H, hHe⟩ : ∃ H : Heap, H = s.heap := ⟨_, rfl⟩
  obtain ⟨locs, hlo⟩ : ∃ k : List Loc, k = [] := ⟨_, rfl⟩
  have hH : gH g I R J AI AJ AR H := by rw [hHe]; exact hH
  have hS : va_S (gA g) s.heap H locs := by rw [hHe, hlo]; exact hS
  suffices hw : W p l e rmX4_copyFromf s m ([.ref a, .ref o] : List Value).toArray below meth c H locs 0 0 (MQ below (gQv g (fun w : gS => R = w.2.1 ∧ J = w.2.2.1 ∧ AJ = w.2.2.2.2.1 ∧ AR = w.2.2.2.2.2 ∧ (gInv g gh R AR (w.1) (w.2.2.2.1)) ∧ (∀ b, b ≠ a → (w.1) b = I b) ∧ (∀ b, b ≠ gh 0 a → (w.2.2.2.1) b = AI b) ∧ ((I o 3).toInt ≤ (gh 1 a : Int) → ((w.1) a 3).toInt = (I o 3).toInt ∧ rwA ((w.2.2.2.1) (gh 0 a)) (AI (gh 0 o)) (I o 3).toInt.toNat))) ([.ref a, .ref o] : List Value).toArray s 0 0 (gA g)) (F0 m 0 ls []) by
    rw [hHe, hlo] at hw; exact hw
  clear hHe hlo
  have iX4 : ∀ w ∈ u_ws RX4 TX4 4, w ∈ wsX4_copyFrom := (by decide +kernel)
  have k34 : Cond.fieldLink RX4 34 (TX4 3).1 (TX4 3).2.1 (TX4 3).2.2.1 ∈ wsX4_copyFrom := List.mem_of_getElem? (i := 1) rfl
  have k13 : Cond.fieldLink RX4 13 (TX4 1).1 (TX4 1).2.1 (TX4 1).2.2.1 ∈ wsX4_copyFrom := List.mem_of_getElem? (i := 2) rfl
  have k16 : Cond.fieldLink RX4 16 (TX4 2).1 (TX4 2).2.1 (TX4 2).2.2.1 ∈ wsX4_copyFrom := List.mem_of_getElem? (i := 7) rfl
  refine lv_aload_n F.1 F.2.1 dX4_copyFrom_0 rfl (lv_at hl 0 rfl) ?_
  refine lv_aload_n F.1 F.2.1 dX4_copyFrom_1 rfl (lv_at hl 1 rfl) ?_
  refine g_getI (ci := 4) (k := 3) F hH rfl (by decide) iX4 ho (by decide) rfl k34 dX4_copyFrom_2 ?_
  obtain ⟨b_1a, b_1b, b_1c, b_1d, b_1e, b_1f, b_1g, b_1h⟩ := gI_rows hv ho
  refine lv_aload_n F.1 F.2.1 dX4_copyFrom_5 rfl (lv_at hl 0 rfl) ?_
  refine g_getI (ci := 4) (k := 1) F hH rfl (by decide) iX4 ha (by decide) rfl k13 dX4_copyFrom_6 ?_
  obtain ⟨b_2a, b_2b, b_2c, b_2d, b_2e, b_2f, b_2g, b_2h⟩ := gI_rows hv ha
  refine z_mmin (rest := [.ref a]) F hl.1 (List.mem_of_getElem? (i := 3) rfl) (List.mem_of_getElem? (i := 4) rfl) (List.mem_of_getElem? (i := 5) rfl) (List.mem_of_getElem? (i := 6) rfl) (Nat.le_of_ble_eq_true rfl) (Nat.le_of_ble_eq_true rfl) (Nat.zero_le _) (Nat.zero_le _) (zr_t _) (zr_t _) dX4_copyFrom_9 (fun v_3 zv_3 qv_3 => ?_)
  refine g_putI (ci := 4) (k := 3) F hH hS rfl (by decide) iX4 ha (by decide) tyX4 tyX4_ok nmX4 rfl rfl rfl k34 dX4_copyFrom_12 (fun H locs hH hS => ?_)
  obtain ⟨I_4, eI_4⟩ : ∃ qQ, qQ = gup2 I a 3 (iI (v_3)) := ⟨_, rfl⟩
  rw [← eI_4] at hH
  have kI_4 : ∀ b, b ≠ a → I_4 b = I b := fun b hb => by rw [eI_4]; exact funext fun j => gup2_a _ _ hb
  have w_5 : (I_4 a 3).toInt = v_3 := by rw [eI_4, gup2_s]; exact iI_val ⟨by omega, by omega⟩
  have hv : gInv g gh R AR I_4 AI := by rw [eI_4]; exact gInv_len hv ha (by omega) (by omega) (by first | exact hfz | omega)
  refine lv_aload_n F.1 F.2.1 dX4_copyFrom_15 rfl (lv_at hl 1 rfl) ?_
  obtain ⟨b_6a, b_6b, b_6c, b_6d, b_6e, b_6f, b_6g, b_6h⟩ := gI_rows hv ho
  obtain ⟨r_7a, r_7b⟩ := gR_cells hv ho
  refine g_getR (ci := 4) (k := 2) F hH rfl (by decide) iX4 ho (by decide) rfl (b := gh 0 o) r_7a k16 dX4_copyFrom_16 ?_
  refine z_iconst F dX4_copyFrom_19 ?_
  refine lv_aload_n F.1 F.2.1 dX4_copyFrom_20 rfl (lv_at hl 0 rfl) ?_
  obtain ⟨b_8a, b_8b, b_8c, b_8d, b_8e, b_8f, b_8g, b_8h⟩ := gI_rows hv ha
  obtain ⟨r_9a, r_9b⟩ := gR_cells hv ha
  refine g_getR (ci := 4) (k := 2) F hH rfl (by decide) iX4 ha (by decide) rfl (b := gh 0 a) r_9a k16 dX4_copyFrom_21 ?_
  refine z_iconst F dX4_copyFrom_24 ?_
  refine lv_aload_n F.1 F.2.1 dX4_copyFrom_25 rfl (lv_at hl 0 rfl) ?_
  refine g_getI (ci := 4) (k := 3) F hH rfl (by decide) iX4 ha (by decide) rfl k34 dX4_copyFrom_26 ?_
  refine z_bipush F dX4_copyFrom_29 (by decide) ?_
  refine z_imul F dX4_copyFrom_31 ?_
  have hx32 : 0 ≤ (0 : Int) ∧ 0 ≤ (0 : Int) ∧ 0 ≤ (((I_4 a 3).toInt) * 6) ∧ (0 : Int) + (((I_4 a 3).toInt) * 6) ≤ ((6 * gh 1 o : Nat) : Int) ∧ (0 : Int) + (((I_4 a 3).toInt) * 6) ≤ ((6 * gh 1 a : Nat) : Int) ∧ (0 : Int) ≤ 2147483647 ∧ (0 : Int) ≤ 2147483647 ∧ (((I_4 a 3).toInt) * 6) ≤ 2147483647 := ⟨by omega, by omega, by omega, by omega, by omega, by omega, by omega, by omega⟩
  refine g_copyi (rest := []) F hl.1 hH hS r_7b r_9b (List.mem_of_getElem? (i := 8) rfl) (List.mem_of_getElem? (i := 9) rfl) (List.mem_of_getElem? (i := 10) rfl) (List.mem_of_getElem? (i := 11) rfl) hx32 (Nat.le_of_ble_eq_true rfl) (Nat.le_of_ble_eq_true rfl) dX4_copyFrom_32 (fun H locs hH hS => ?_)
  obtain ⟨AI_10, eAI_10⟩ : ∃ qQ, qQ = gup1 AI (gh 0 a) (va_cpy (AI (gh 0 o)) (AI (gh 0 a)) ((0 : Int)).toNat ((0 : Int)).toNat ((((I_4 a 3).toInt) * 6)).toNat) := ⟨_, rfl⟩
  rw [← eAI_10] at hH
  have kAI_10 : ∀ b, b ≠ (gh 0 a) → AI_10 b = AI b := fun b hb => by rw [eAI_10]; exact gup1_a _ _ hb
  have hv : gInv g gh R AR I_4 AI_10 := by rw [eAI_10]; exact gInv_cpyO hv ha ho h5 ⟨by omega, by omega⟩ ⟨by omega, by omega⟩ ⟨by omega, by omega⟩ (by first | exact hfz | omega)
  have p1 : AI_10 (gh 0 a) = va_cpy (AI (gh 0 o)) (AI (gh 0 a)) (0 : Int).toNat (0 : Int).toNat ((((I_4 a 3).toInt) * 6)).toNat := by rw [eAI_10, gup1_s]
  exact g_vret F hr hlk hH hS hz ⟨rfl, rfl, rfl, rfl, hv, fun b hb => kI_4 b hb, fun b hb => kAI_10 b hb, by
      intro h9
      (try dsimp only at h9 ⊢)
      refine ⟨by omega, rwA_of (fun j hj => ?_)⟩
      rw [p1]; unfold va_cpy; rw [if_pos ⟨by omega, by omega⟩]; congr 1; omega⟩ dX4_copyFrom_35

def rmX4_amountOff : Room := { frames := 2, cells := 0, slots := 0, locals := 52 }
set_option maxHeartbeats 4000000 in
set_option maxRecDepth 100000 in
/-- the amount of a key -/
theorem c_X4_amountOff (l : Launch) (g : gG) (gh : gGh) (na : Nat) (t : Tup) (I : gI) (R : gR) (J : gJ) (AI : gI) (AJ : gJ) (AR : gR) (a : Nat) (k : Nat) (hv : gInv g gh R AR I AI) (ha : gO g a 4) (hk : gAr g k 9 5) (hn : (I a 3).toInt = (na : Int)) (hok : okB (AI (gh 0 a)) na) (h4 : gh 2 a = 4) (ht : ∀ j, j < 4 → AI k j = tg t j) : gMet l g yX4_amountOf wsX4_amountOf rmX4_amountOff [.ref a, .ref k] (I, R, J, AI, AJ, AR) (gQi g (fun (z : Int) (w : gS) => I = w.1 ∧ R = w.2.1 ∧ J = w.2.2.1 ∧ AI = w.2.2.2.1 ∧ AJ = w.2.2.2.2.1 ∧ AR = w.2.2.2.2.2 ∧ (z = (bS (AI (gh 0 a)) na t).toInt))) := by
  refine gStart (cc := cX4_amountOf) (maxL := 3) (ret := (some (.int))) (by decide) rfl (Nat.le_of_ble_eq_true rfl) ?_
  intro p e s m below meth c ls F hr hlk hH hz hS hl
  have hl : lv_has ls 3 [(0, .ref a), (1, .ref k)] := hl
  have hS : va_S (gA g) s.heap s.heap [] := hS
  obtain ⟨H, hHe⟩ : ∃ H : Heap, H = s.heap := ⟨_, rfl⟩
  obtain ⟨locs, hlo⟩ : ∃ k : List Loc, k = [] := ⟨_, rfl⟩
  have hH : gH g I R J AI AJ AR H := by rw [hHe]; exact hH
  have hS : va_S (gA g) s.heap H locs := by rw [hHe, hlo]; exact hS
  suffices hw : W p l e rmX4_amountOff s m ([.ref a, .ref k] : List Value).toArray below meth c H locs 0 0 (MQ below (gQi g (fun (z : Int) (w : gS) => I = w.1 ∧ R = w.2.1 ∧ J = w.2.2.1 ∧ AI = w.2.2.2.1 ∧ AJ = w.2.2.2.2.1 ∧ AR = w.2.2.2.2.2 ∧ (z = (bS (AI (gh 0 a)) na t).toInt))) ([.ref a, .ref k] : List Value).toArray s 0 0 (gA g)) (F0 m 0 ls []) by
    rw [hHe, hlo] at hw; exact hw
  clear hHe hlo
  refine lv_aload_n F.1 F.2.1 dX4_amountOf_0 rfl (lv_at hl 0 rfl) ?_
  refine lv_aload_n F.1 F.2.1 dX4_amountOf_1 rfl (lv_at hl 1 rfl) ?_
  obtain ⟨b_1a, b_1b, b_1c, b_1d, b_1e, b_1f, b_1g, b_1h⟩ := gI_rows hv ha
  refine g_calli (g_runV (As := [.ref k]) (rest := []) (ci := 4) F hl.1 hH hS hz (c_X4_findf l g gh I R J AI AJ AR a k hv ha hk) (cwV 1 F.2.2.2.2.1 gX4_amountOf_X4_find rfl rfl rfl hdX4_find ⟨Nat.le_of_ble_eq_true rfl, Nat.le_of_ble_eq_true rfl⟩) ha (by decide) rfl rfl rfl (Nat.le_of_ble_eq_true rfl) dX4_amountOf_2 ⟨Nat.zero_le _, Nat.zero_le _⟩) hS (fun v_8 I_2 R_3 J_4 AI_5 AJ_6 AR_7 H locs zv_8 hp_9 hH hS => ?_)
  dsimp only at hp_9
  obtain ⟨rfl, rfl, rfl, rfl, rfl, rfl, q_10, qf⟩ := hp_9
  rw [h4, hn] at qf
  refine lv_istore_n (lv' := [(2, .int (iI v_8)), (0, .ref a), (1, .ref k)]) F.1 F.2.1 dX4_amountOf_5 rfl hl (by decide) rfl (fun ls hl => ?_)
  refine lv_iload_n F.1 F.2.1 dX4_amountOf_6 rfl (lv_at hl 0 rfl) ?_
  refine z_if_ge (tgt := 14) F dX4_amountOf_7 (by decide) zv_8 (fun c_11 => ?_) (fun c_11 => ?_)
  · refine lv_aload_n F.1 F.2.1 dX4_amountOf_14 rfl (lv_at hl 1 rfl) ?_
    refine lv_iload_n F.1 F.2.1 dX4_amountOf_15 rfl (lv_at hl 0 rfl) ?_
    refine g_calli (g_runV (As := [.int (iI v_8)]) (rest := []) (ci := 4) F hl.1 hH hS hz (c_X4_amount l g gh I R J AI AJ AR a v_8 zv_8 hv ha (by omega) (by omega)) (cwV 1 F.2.2.2.2.1 gX4_amountOf_X4_amount rfl rfl rfl hdX4_amount ⟨Nat.le_of_ble_eq_true rfl, Nat.le_of_ble_eq_true rfl⟩) ha (by decide) rfl rfl rfl (Nat.le_of_ble_eq_true rfl) dX4_amountOf_16 ⟨Nat.zero_le _, Nat.zero_le _⟩) hS (fun v_18 I_12 R_13 J_14 AI_15 AJ_16 AR_17 H locs zv_18 hp_19 hH hS => ?_)
    dsimp only at hp_19
    obtain ⟨rfl, rfl, rfl, rfl, rfl, rfl, qa⟩ := hp_19
    exact g_iret F hr hlk hH hS hz zv_18 ⟨rfl, rfl, rfl, rfl, rfl, rfl, by (try dsimp only); first | (rw [bS_n na (atW_n (fd_n hok.1 (key_tu ht) qf (by omega)))]; rfl) | (rw [qa, ← (fd_y (key_tu ht) qf (by omega)).2, bS_s hok.1 (fd_y (key_tu ht) qf (by omega)).1, show (v_8 * 6 + (I a 0).toInt).toNat = 6 * v_8.toNat + 4 from by omega])⟩ dX4_amountOf_19
  · refine z_iconst F dX4_amountOf_10 ?_
    refine z_goto (tgt := 19) F dX4_amountOf_11 (by decide) ?_
    exact g_iret F hr hlk hH hS hz ⟨by decide, by decide⟩ ⟨rfl, rfl, rfl, rfl, rfl, rfl, by (try dsimp only); first | (rw [bS_n na (atW_n (fd_n hok.1 (key_tu ht) qf (by omega)))]; rfl) | (rw [qa, ← (fd_y (key_tu ht) qf (by omega)).2, bS_s hok.1 (fd_y (key_tu ht) qf (by omega)).1, show (v_8 * 6 + (I a 0).toInt).toNat = 6 * v_8.toNat + 4 from by omega])⟩ dX4_amountOf_19
