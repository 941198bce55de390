section
def rmX4_compareRowf : Room := { frames := 0, cells := 0, slots := 0, locals := 0 }
set_option maxHeartbeats 4000000 in
set_option maxRecDepth 100000 in
/-- compares a row with a key -/
theorem c_X4_compareRowf (l : Launch) (g : gG) (gh : gGh) (n : Nat) (I : gI) (R : gR) (J : gJ) (AI : gI) (AJ : gJ) (AR : gR) (a : Nat) (row : Int) (o : Nat) (from_ : Int) (zrow : zr row) (zfrom_ : zr from_) (hv : gInv g gh R AR I AI) (ha : gO g a 4) (h0 : 0 ≤ row) (h1 : row < (gh 1 a : Int)) (ho : gAr g o 9 n) (hn : n ≤ 1440) (h2 : 0 ≤ from_) (h3 : from_ + (gh 2 a : Int) ≤ (n : Int)) : gMet l g yX4_compareRow wsX4_compareRow rmX4_compareRowf [.ref a, .int (iI row), .ref o, .int (iI from_)] (I, R, J, AI, AJ, AR) (gQi g (fun (z : Int) (w : gS) => I = w.1 ∧ R = w.2.1 ∧ J = w.2.2.1 ∧ AI = w.2.2.2.1 ∧ AJ = w.2.2.2.2.1 ∧ AR = w.2.2.2.2.2 ∧ (-1 ≤ z ∧ z ≤ 1) ∧ (z = kc (gh 2 a) (rk (AI (gh 0 a)) (row * 6)) (rk (AI o) from_)))) := by
  refine gStart (cc := cX4_compareRow) (maxL := 8) (ret := (some (.int))) (by decide) rfl (Nat.le_of_ble_eq_true rfl) ?_
  intro p e s m below meth c ls F hr hlk hH hz hS hl
  have hl : lv_has ls 8 [(0, .ref a), (1, .int (iI row)), (2, .ref o), (3, .int (iI from_))] := hl
  have hS : va_S (gA g) s.heap s.heap [] := hS
  obtain ⟨H, hHe⟩ : ∃ H : Heap, H = s.heap := ⟨_, rfl⟩
  obtain ⟨locs, hlo⟩ : ∃ k : List Loc, k = [] := ⟨_, rfl⟩
  have hH : gH g I R J AI AJ AR H := by rw [hHe]; exact hH
  have hS : va_S (gA g) s.heap H locs := by rw [hHe, hlo]; exact hS
  suffices hw : W p l e rmX4_compareRowf s m ([.ref a, .int (iI row), .ref o, .int (iI from_)] : List Value).toArray below meth c H locs 0 0 (MQ below (gQi g (fun (z : Int) (w : gS) => I = w.1 ∧ R = w.2.1 ∧ J = w.2.2.1 ∧ AI = w.2.2.2.1 ∧ AJ = w.2.2.2.2.1 ∧ AR = w.2.2.2.2.2 ∧ (-1 ≤ z ∧ z ≤ 1) ∧ (z = kc (gh 2 a) (rk (AI (gh 0 a)) (row * 6)) (rk (AI o) from_)))) ([.ref a, .int (iI row), .ref o, .int (iI from_)] : List Value).toArray s 0 0 (gA g)) (F0 m 0 ls []) by
    rw [hHe, hlo] at hw; exact hw
  clear hHe hlo
  have iX4 : ∀ w ∈ u_ws RX4 TX4 4, w ∈ wsX4_compareRow := (by decide +kernel)
  have k7 : Cond.fieldLink RX4 7 (TX4 0).1 (TX4 0).2.1 (TX4 0).2.2.1 ∈ wsX4_compareRow := List.mem_of_getElem? (i := 1) rfl
  have k16 : Cond.fieldLink RX4 16 (TX4 2).1 (TX4 2).2.1 (TX4 2).2.2.1 ∈ wsX4_compareRow := List.mem_of_getElem? (i := 2) rfl
  refine lv_iload_n F.1 F.2.1 dX4_compareRow_0 rfl (lv_at hl 1 rfl) ?_
  refine z_bipush F dX4_compareRow_1 (by decide) ?_
  refine z_imul F dX4_compareRow_3 ?_
  refine lv_istore (lv' := [(4, .int (iI (row * 6))), (0, .ref a), (1, .int (iI row)), (2, .ref o), (3, .int (iI from_))]) F.1 F.2.1 dX4_compareRow_4 hl (by decide) rfl (fun ls hl => ?_)
  refine z_iconst F dX4_compareRow_6 ?_
  refine lv_istore (lv' := [(5, .int (iI 0)), (4, .int (iI (row * 6))), (0, .ref a), (1, .int (iI row)), (2, .ref o), (3, .int (iI from_))]) F.1 F.2.1 dX4_compareRow_7 hl (by decide) rfl (fun ls hl => ?_)
  have cut_9_0 : ∀ (NN : Nat) (k : Int) (H : Heap) (locs : List Loc) (ls : Array Slot), zr k → (0 ≤ k ∧ k ≤ 5) → (kc (gh 2 a) (rk (AI (gh 0 a)) (row * 6)) (rk (AI o) from_) = kcF (rk (AI (gh 0 a)) (row * 6)) (rk (AI o) from_) (gh 2 a - k.toNat) k.toNat ∧ k ≤ (gh 2 a : Int)) → (5 - k) < ((NN : Nat) : Int) → gH g I R J AI AJ AR H → va_S (gA g) s.heap H locs → lv_has ls 8 [(5, .int (iI k)), (4, .int (iI (row * 6))), (0, .ref a), (1, .int (iI row)), (2, .ref o), (3, .int (iI from_))] → W p l e rmX4_compareRowf s m ([.ref a, .int (iI row), .ref o, .int (iI from_)] : List Value).toArray below meth c H locs 0 0 (MQ below (gQi g (fun (z : Int) (w : gS) => I = w.1 ∧ R = w.2.1 ∧ J = w.2.2.1 ∧ AI = w.2.2.2.1 ∧ AJ = w.2.2.2.2.1 ∧ AR = w.2.2.2.2.2 ∧ (-1 ≤ z ∧ z ≤ 1) ∧ (z = kc (gh 2 a) (rk (AI (gh 0 a)) (row * 6)) (rk (AI o) from_)))) ([.ref a, .int (iI row), .ref o, .int (iI from_)] : List Value).toArray s 0 0 (gA g)) (F0 m 9 ls []) := by
    intro NN9
    induction NN9 with
    | zero =>
      intro k H locs ls zk hk hkc hm9 hH hS hl
      exact absurd hm9 (by omega)
    | succ NN9 ih9 =>
      intro k H locs ls zk hk hkc hm9 hH hS hl
      refine lv_iload F.1 F.2.1 dX4_compareRow_9 (lv_at hl 0 rfl) ?_
      refine lv_aload_n F.1 F.2.1 dX4_compareRow_11 rfl (lv_at hl 2 rfl) ?_
      refine g_getI (ci := 4) (k := 0) F hH rfl (by decide) iX4 ha (by decide) rfl k7 dX4_compareRow_12 ?_
      obtain ⟨b_2a, b_2b, b_2c, b_2d, b_2e, b_2f, b_2g, b_2h⟩ := gI_rows hv ha
      refine z_icmp_ge (tgt := 64) F dX4_compareRow_15 (by decide) zk (zr_t _) (fun c_3 => ?_) (fun c_3 => ?_)
      · refine z_iconst F dX4_compareRow_64 ?_
        exact g_iret F hr hlk hH hS hz ⟨by decide, by decide⟩ ⟨rfl, rfl, rfl, rfl, rfl, rfl, by first | omega | rfl | (dsimp only; omega), by (try dsimp only); rw [hkc.1, show gh 2 a - k.toNat = 0 by omega]; rfl⟩ dX4_compareRow_65
      · refine lv_aload_n F.1 F.2.1 dX4_compareRow_18 rfl (lv_at hl 2 rfl) ?_
        obtain ⟨r_4a, r_4b⟩ := gR_cells hv ha
        refine g_getR (ci := 4) (k := 2) F hH rfl (by decide) iX4 ha (by decide) rfl (b := gh 0 a) r_4a k16 dX4_compareRow_19 ?_
        refine lv_iload F.1 F.2.1 dX4_compareRow_22 (lv_at hl 1 rfl) ?_
        refine lv_iload F.1 F.2.1 dX4_compareRow_24 (lv_at hl 0 rfl) ?_
        refine z_iadd F dX4_compareRow_26 ?_
        have hx27 : 0 ≤ ((row * 6) + k) ∧ ((row * 6) + k) < ((6 * gh 1 a : Nat) : Int) ∧ ((row * 6) + k) ≤ 2147483647 := ⟨by omega, by omega, by omega⟩
        refine g_iald F hH r_4b hx27.1 hx27.2.1 hx27.2.2 dX4_compareRow_27 ?_
        refine z_name (fun v_5 ev_5 => ?_)
        have zv_5 : zr v_5 := by rw [ev_5]; exact zr_t _
        have t27 : rk (AI (gh 0 a)) (row * 6) k.toNat = v_5 := by rw [rk_at (by omega) (by omega), ev_5]
        refine lv_istore (lv' := [(6, .int (iI v_5)), (5, .int (iI k)), (4, .int (iI (row * 6))), (0, .ref a), (1, .int (iI row)), (2, .ref o), (3, .int (iI from_))]) F.1 F.2.1 dX4_compareRow_28 hl (by decide) rfl (fun ls hl => ?_)
        refine lv_aload_n F.1 F.2.1 dX4_compareRow_30 rfl (lv_at hl 5 rfl) ?_
        refine lv_iload_n F.1 F.2.1 dX4_compareRow_31 rfl (lv_at hl 6 rfl) ?_
        refine lv_iload F.1 F.2.1 dX4_compareRow_32 (lv_at hl 1 rfl) ?_
        refine z_iadd F dX4_compareRow_34 ?_
        have hx35 : 0 ≤ (from_ + k) ∧ (from_ + k) < ((n : Nat) : Int) ∧ (from_ + k) ≤ 2147483647 := ⟨by omega, by omega, by omega⟩
        refine g_iald F hH ho hx35.1 hx35.2.1 hx35.2.2 dX4_compareRow_35 ?_
        refine z_name (fun v_6 ev_6 => ?_)
        have zv_6 : zr v_6 := by rw [ev_6]; exact zr_t _
        have t35 : rk (AI o) (from_) k.toNat = v_6 := by rw [rk_at (by omega) (by omega), ev_6]
        refine lv_istore (lv' := [(7, .int (iI v_6)), (6, .int (iI v_5)), (5, .int (iI k)), (4, .int (iI (row * 6))), (0, .ref a), (1, .int (iI row)), (2, .ref o), (3, .int (iI from_))]) F.1 F.2.1 dX4_compareRow_36 hl (by decide) rfl (fun ls hl => ?_)
        refine lv_iload F.1 F.2.1 dX4_compareRow_38 (lv_at hl 1 rfl) ?_
        refine lv_iload F.1 F.2.1 dX4_compareRow_40 (lv_at hl 0 rfl) ?_
        refine z_icmp_eq (tgt := 58) F dX4_compareRow_42 (by decide) zv_5 zv_6 (fun c_7 => ?_) (fun c_7 => ?_)
        · have hkn := kcF_n (u := (rk (AI (gh 0 a)) (row * 6))) (v := (rk (AI o) from_)) (K := gh 2 a) (k := k) (by omega) (by omega) (by rw [t27, t35]; omega)
          refine z_iinc (lv' := [(5, .int (iI (k + 1))), (7, .int (iI v_6)), (6, .int (iI v_5)), (4, .int (iI (row * 6))), (0, .ref a), (1, .int (iI row)), (2, .ref o), (3, .int (iI from_))]) F dX4_compareRow_58 hl (k := 2) rfl (by decide) rfl (fun ls hl => ?_)
          refine z_goto (tgt := 9) F dX4_compareRow_61 (by decide) ?_
          exact ih9 (k + 1) H locs ls ⟨by omega, by omega⟩ (by omega) (by first | exact ⟨hkc.1.trans hkn, by omega⟩ | exact ⟨rfl, by omega⟩) (by omega) hH hS (lv_sub hl [0, 3, 4, 5, 6, 7] rfl)
        · refine lv_iload F.1 F.2.1 dX4_compareRow_45 (lv_at hl 1 rfl) ?_
          refine lv_iload F.1 F.2.1 dX4_compareRow_47 (lv_at hl 0 rfl) ?_
          refine z_icmp_ge (tgt := 56) F dX4_compareRow_49 (by decide) zv_5 zv_6 (fun c_8 => ?_) (fun c_8 => ?_)
          · refine z_iconst F dX4_compareRow_56 ?_
            exact g_iret F hr hlk hH hS hz ⟨by decide, by decide⟩ ⟨rfl, rfl, rfl, rfl, rfl, rfl, by first | omega | rfl | (dsimp only; omega), by (try dsimp only); rw [hkc.1]; first | exact (kcF_ln (by omega) (by omega) (by rw [t27, t35]; omega)).symm | exact (kcF_gn (by omega) (by omega) (by rw [t27, t35]; omega)).symm⟩ dX4_compareRow_57
          · refine z_iconst F dX4_compareRow_52 ?_
            refine z_goto (tgt := 57) F dX4_compareRow_53 (by decide) ?_
            exact g_iret F hr hlk hH hS hz ⟨by decide, by decide⟩ ⟨rfl, rfl, rfl, rfl, rfl, rfl, by first | omega | rfl | (dsimp only; omega), by (try dsimp only); rw [hkc.1]; first | exact (kcF_ln (by omega) (by omega) (by rw [t27, t35]; omega)).symm | exact (kcF_gn (by omega) (by omega) (by rw [t27, t35]; omega)).symm⟩ dX4_compareRow_57
  exact cut_9_0 (((5 - 0) + 1 : Int).toNat) 0 H locs ls ⟨by decide, by decide⟩ (by omega) (by first | exact ⟨hkc.1.trans hkn, by omega⟩ | exact ⟨rfl, by omega⟩) (by omega) hH hS (lv_sub hl [0, 1, 2, 3, 4, 5] rfl)

def rmX4_findf : Room := { frames := 1, cells := 0, slots := 0, locals := 27 }
set_option maxHeartbeats 4000000 in
set_option maxRecDepth 100000 in
/-- the row of a key, or -1 less the place where it would come -/
theorem c_X4_findf (l : Launch) (g : gG) (gh : gGh) (I : gI) (R : gR) (J : gJ) (AI : gI) (AJ : gJ) (AR : gR) (a : Nat) (k : Nat) (hv : gInv g gh R AR I AI) (ha : gO g a 4) (hk : gAr g k 9 5) : gMet l g yX4_find wsX4_find rmX4_findf [.ref a, .ref k] (I, R, J, AI, AJ, AR) (gQi g (fun (z : Int) (w : gS) => I = w.1 ∧ R = w.2.1 ∧ J = w.2.2.1 ∧ AI = w.2.2.2.1 ∧ AJ = w.2.2.2.2.1 ∧ AR = w.2.2.2.2.2 ∧ (-1 - (I a 3).toInt ≤ z ∧ z < (I a 3).toInt) ∧ (fdK (gh 2 a) (AI (gh 0 a)) (I a 3).toInt (rk (AI k) 0) z))) := by
  refine gStart (cc := cX4_find) (maxL := 6) (ret := (some (.int))) (by decide) rfl (Nat.le_of_ble_eq_true rfl) ?_
  intro p e s m below meth c ls F hr hlk hH hz hS hl
  have hl : lv_has ls 6 [(0, .ref a), (1, .ref k)] := hl
  have hS : va_S (gA g) s.heap s.heap [] := hS
  obtain ⟨H, hHe⟩ : ∃ H : Heap, H = s.heap := ⟨_, rfl⟩
  obtain ⟨locs, hlo⟩ : ∃ k : List Loc, k = [] := ⟨_, rfl⟩
  have hH : gH g I R J AI AJ AR H := by rw [hHe]; exact hH
  have hS : va_S (gA g) s.heap H locs := by rw [hHe, hlo]; exact hS
  suffices hw : W p l e rmX4_findf s m ([.ref a, .ref k] : List Value).toArray below meth c H locs 0 0 (MQ below (gQi g (fun (z : Int) (w : gS) => I = w.1 ∧ R = w.2.1 ∧ J = w.2.2.1 ∧ AI = w.2.2.2.1 ∧ AJ = w.2.2.2.2.1 ∧ AR = w.2.2.2.2.2 ∧ (-1 - (I a 3).toInt ≤ z ∧ z < (I a 3).toInt) ∧ (fdK (gh 2 a) (AI (gh 0 a)) (I a 3).toInt (rk (AI k) 0) z))) ([.ref a, .ref k] : List Value).toArray s 0 0 (gA g)) (F0 m 0 ls []) by
    rw [hHe, hlo] at hw; exact hw
  clear hHe hlo
  have iX4 : ∀ w ∈ u_ws RX4 TX4 4, w ∈ wsX4_find := (by decide +kernel)
  have k34 : Cond.fieldLink RX4 34 (TX4 3).1 (TX4 3).2.1 (TX4 3).2.2.1 ∈ wsX4_find := List.mem_of_getElem? (i := 1) rfl
  refine z_iconst F dX4_find_0 ?_
  refine lv_istore_n (lv' := [(2, .int (iI 0)), (0, .ref a), (1, .ref k)]) F.1 F.2.1 dX4_find_1 rfl hl (by decide) rfl (fun ls hl => ?_)
  refine lv_aload_n F.1 F.2.1 dX4_find_2 rfl (lv_at hl 1 rfl) ?_
  refine g_getI (ci := 4) (k := 3) F hH rfl (by decide) iX4 ha (by decide) rfl k34 dX4_find_3 ?_
  obtain ⟨b_1a, b_1b, b_1c, b_1d, b_1e, b_1f, b_1g, b_1h⟩ := gI_rows hv ha
  refine lv_istore_n (lv' := [(3, .int (iI ((I a 3).toInt))), (2, .int (iI 0)), (0, .ref a), (1, .ref k)]) F.1 F.2.1 dX4_find_6 rfl hl (by decide) rfl (fun ls hl => ?_)
  have cut_7_1 : ∀ (NN : Nat) (lo hi : Int) (H : Heap) (locs : List Loc) (ls : Array Slot), zr lo → zr hi → (0 ≤ lo ∧ lo ≤ hi ∧ hi ≤ (I a 3).toInt) → ((0 < lo → kc (gh 2 a) (ry6 (AI (gh 0 a)) (lo - 1).toNat) (rk (AI k) 0) = -1) ∧ (hi < (I a 3).toInt → kc (gh 2 a) (ry6 (AI (gh 0 a)) hi.toNat) (rk (AI k) 0) = 1)) → (hi - lo) < ((NN : Nat) : Int) → gH g I R J AI AJ AR H → va_S (gA g) s.heap H locs → lv_has ls 6 [(3, .int (iI hi)), (2, .int (iI lo)), (0, .ref a), (1, .ref k)] → W p l e rmX4_findf s m ([.ref a, .ref k] : List Value).toArray below meth c H locs 0 0 (MQ below (gQi g (fun (z : Int) (w : gS) => I = w.1 ∧ R = w.2.1 ∧ J = w.2.2.1 ∧ AI = w.2.2.2.1 ∧ AJ = w.2.2.2.2.1 ∧ AR = w.2.2.2.2.2 ∧ (-1 - (I a 3).toInt ≤ z ∧ z < (I a 3).toInt) ∧ (fdK (gh 2 a) (AI (gh 0 a)) (I a 3).toInt (rk (AI k) 0) z))) ([.ref a, .ref k] : List Value).toArray s 0 0 (gA g)) (F0 m 7 ls []) := by
    intro NN7
    induction NN7 with
    | zero =>
      intro lo hi H locs ls zlo zhi hq hb hm7 hH hS hl
      exact absurd hm7 (by omega)
    | succ NN7 ih7 =>
      intro lo hi H locs ls zlo zhi hq hb hm7 hH hS hl
      refine lv_iload_n F.1 F.2.1 dX4_find_7 rfl (lv_at hl 1 rfl) ?_
      refine lv_iload_n F.1 F.2.1 dX4_find_8 rfl (lv_at hl 0 rfl) ?_
      refine z_icmp_ge (tgt := 56) F dX4_find_9 (by decide) zlo zhi (fun c_3 => ?_) (fun c_3 => ?_)
      · refine z_iconst F dX4_find_56 ?_
        refine lv_iload_n F.1 F.2.1 dX4_find_57 rfl (lv_at hl 1 rfl) ?_
        refine z_isub F dX4_find_58 ?_
        exact g_iret F hr hlk hH hS hz ⟨by omega, by omega⟩ ⟨rfl, rfl, rfl, rfl, rfl, rfl, by first | omega | rfl | (dsimp only; omega), fdK_n (by omega) (by omega) hb.1 (fun h => by rw [show lo.toNat = hi.toNat by omega]; exact hb.2 (by omega))⟩ dX4_find_59
      · refine lv_iload_n F.1 F.2.1 dX4_find_12 rfl (lv_at hl 1 rfl) ?_
        refine lv_iload_n F.1 F.2.1 dX4_find_13 rfl (lv_at hl 0 rfl) ?_
        refine z_iadd F dX4_find_14 ?_
        refine z_iconst F dX4_find_15 ?_
        refine z_iushr1 F (by omega) (by omega) dX4_find_16 ?_
        refine lv_istore (lv' := [(4, .int (iI ((lo + hi) / 2))), (3, .int (iI hi)), (2, .int (iI lo)), (0, .ref a), (1, .ref k)]) F.1 F.2.1 dX4_find_17 hl (by decide) rfl (fun ls hl => ?_)
        refine lv_aload_n F.1 F.2.1 dX4_find_19 rfl (lv_at hl 3 rfl) ?_
        refine lv_iload F.1 F.2.1 dX4_find_20 (lv_at hl 0 rfl) ?_
        refine lv_aload_n F.1 F.2.1 dX4_find_22 rfl (lv_at hl 4 rfl) ?_
        refine z_iconst F dX4_find_23 ?_
        refine g_calli (g_runV (As := [.int (iI ((lo + hi) / 2)), .ref k, .int (iI 0)]) (rest := []) (ci := 4) F hl.1 hH hS hz (c_X4_compareRowf l g gh 5 I R J AI AJ AR a ((lo + hi) / 2) k 0 ⟨by omega, by omega⟩ ⟨by decide, by decide⟩ hv ha (by omega) (by omega) hk (by decide) (by omega) (by omega)) (cwV 3 F.2.2.2.2.1 gX4_find_X4_compareRow rfl rfl rfl hdX4_compareRow ⟨Nat.le_of_ble_eq_true rfl, Nat.le_of_ble_eq_true rfl⟩) ha (by decide) rfl rfl rfl (Nat.le_of_ble_eq_true rfl) dX4_find_24 ⟨Nat.zero_le _, Nat.zero_le _⟩) hS (fun v_10 I_4 R_5 J_6 AI_7 AJ_8 AR_9 H locs zv_10 hp_11 hH hS => ?_)
        dsimp only at hp_11
        obtain ⟨rfl, rfl, rfl, rfl, rfl, rfl, q_12, qc⟩ := hp_11
        have qk : v_10 = kc (gh 2 a) (ry6 (AI (gh 0 a)) ((lo + hi) / 2).toNat) (rk (AI k) 0) := by rw [qc, ry6_m (by omega)]
        refine lv_istore (lv' := [(5, .int (iI v_10)), (4, .int (iI ((lo + hi) / 2))), (3, .int (iI hi)), (2, .int (iI lo)), (0, .ref a), (1, .ref k)]) F.1 F.2.1 dX4_find_27 hl (by decide) rfl (fun ls hl => ?_)
        refine lv_iload F.1 F.2.1 dX4_find_29 (lv_at hl 0 rfl) ?_
        refine z_if_ne (tgt := 37) F dX4_find_31 (by decide) zv_10 (fun c_13 => ?_) (fun c_13 => ?_)
        · refine lv_iload F.1 F.2.1 dX4_find_37 (lv_at hl 0 rfl) ?_
          refine z_if_ge (tgt := 50) F dX4_find_39 (by decide) zv_10 (fun c_14 => ?_) (fun c_14 => ?_)
          · refine lv_iload F.1 F.2.1 dX4_find_50 (lv_at hl 1 rfl) ?_
            refine lv_istore_n (lv' := [(3, .int (iI ((lo + hi) / 2))), (5, .int (iI v_10)), (4, .int (iI ((lo + hi) / 2))), (2, .int (iI lo)), (0, .ref a), (1, .ref k)]) F.1 F.2.1 dX4_find_52 rfl hl (by decide) rfl (fun ls hl => ?_)
            refine z_goto (tgt := 7) F dX4_find_53 (by decide) ?_
            exact ih7 lo ((lo + hi) / 2) H locs ls zlo ⟨by omega, by omega⟩ (by omega) (by first | exact ⟨fun _ => by rw [show (((lo + hi) / 2) + 1 - 1).toNat = ((lo + hi) / 2).toNat by omega]; omega, hb.2⟩ | exact ⟨hb.1, fun _ => by omega⟩ | exact ⟨fun h => absurd h (by omega), fun h => absurd h (by omega)⟩) (by omega) hH hS (lv_sub hl [0, 3, 4, 5] rfl)
          · refine lv_iload F.1 F.2.1 dX4_find_42 (lv_at hl 1 rfl) ?_
            refine z_iconst F dX4_find_44 ?_
            refine z_iadd F dX4_find_45 ?_
            refine lv_istore_n (lv' := [(2, .int (iI (((lo + hi) / 2) + 1))), (5, .int (iI v_10)), (4, .int (iI ((lo + hi) / 2))), (3, .int (iI hi)), (0, .ref a), (1, .ref k)]) F.1 F.2.1 dX4_find_46 rfl hl (by decide) rfl (fun ls hl => ?_)
            refine z_goto (tgt := 53) F dX4_find_47 (by decide) ?_
            refine z_goto (tgt := 7) F dX4_find_53 (by decide) ?_
            exact ih7 (((lo + hi) / 2) + 1) hi H locs ls ⟨by omega, by omega⟩ zhi (by omega) (by first | exact ⟨fun _ => by rw [show (((lo + hi) / 2) + 1 - 1).toNat = ((lo + hi) / 2).toNat by omega]; omega, hb.2⟩ | exact ⟨hb.1, fun _ => by omega⟩ | exact ⟨fun h => absurd h (by omega), fun h => absurd h (by omega)⟩) (by omega) hH hS (lv_sub hl [3, 0, 4, 5] rfl)
        · refine lv_iload F.1 F.2.1 dX4_find_34 (lv_at hl 1 rfl) ?_
          exact g_iret F hr hlk hH hS hz ⟨by omega, by omega⟩ ⟨rfl, rfl, rfl, rfl, rfl, rfl, by first | omega | rfl | (dsimp only; omega), Or.inl ⟨by (try dsimp only); omega, by (try dsimp only); omega, by (try dsimp only); omega⟩⟩ dX4_find_36
  exact cut_7_1 (((((I a 3).toInt) - 0) + 1 : Int).toNat) 0 ((I a 3).toInt) H locs ls ⟨by decide, by decide⟩ (zr_t _) (by omega) (by first | exact ⟨fun _ => by rw [show (((lo + hi) / 2) + 1 - 1).toNat = ((lo + hi) / 2).toNat by omega]; omega, hb.2⟩ | exact ⟨hb.1, fun _ => by omega⟩ | exact ⟨fun h => absurd h (by omega), fun h => absurd h (by omega)⟩) (by omega) hH hS (lv_sub hl [0, 1, 2, 3] rfl)

def rmX4_insertf : Room := { frames := 1, cells := 0, slots := 0, locals := 60 }
set_option maxHeartbeats 4000000 in
set_option maxRecDepth 100000 in
/-- a row comes in, if there is room -/
theorem c_X4_insertf (l : Launch) (g : gG) (gh : gGh) (I : gI) (R : gR) (J : gJ) (AI : gI) (AJ : gJ) (AR : gR) (a : Nat) (row : Int) (k : Nat) (n : Int) (zrow : zr row) (zn : zr n) (hv : gInv g gh R AR I AI) (ha : gO g a 4) (hk : gAr g k 9 5) (hk0 : gh 9 k = 0) (hk5 : gh 2 a = 5 → 0 ≤ (AI k 0).toInt ∧ (AI k 0).toInt ≤ 15) (hfz : gh 2 a = 5 → gh 42 0 = 1 → a ≠ gh 37 0) : gMet l g yX4_insert wsX4_insert rmX4_insertf [.ref a, .int (iI row), .ref k, .int (iI n)] (I, R, J, AI, AJ, AR) (gQi g (fun (z : Int) (w : gS) => R = w.2.1 ∧ J = w.2.2.1 ∧ AJ = w.2.2.2.2.1 ∧ AR = w.2.2.2.2.2 ∧ (gInv g gh R AR (w.1) (w.2.2.2.1)) ∧ (∀ b, b ≠ a → (w.1) b = I b) ∧ (∀ b, b ≠ gh 0 a → (w.2.2.2.1) b = AI b) ∧ (z = 0 → (w.1) = I) ∧ (z = 0 ∨ (z = 1 ∧ (I a 3).toInt < (gh 1 a : Int) ∧ 0 ≤ row ∧ row ≤ (I a 3).toInt ∧ ((w.1) a 3).toInt = (I a 3).toInt + 1)) ∧ ((z = 0 ∧ (w.2.2.2.1) = AI ∧ ((gh 1 a : Int) ≤ (I a 3).toInt ∨ row < 0 ∨ (I a 3).toInt < row)) ∨ (z = 1 ∧ insP (gh 2 a) (AI (gh 0 a)) ((w.2.2.2.1) (gh 0 a)) (rk (AI k) 0) row (I a 3).toInt n)))) := by
  refine gStart (cc := cX4_insert) (maxL := 5) (ret := (some (.boolean))) (by decide) rfl (Nat.le_of_ble_eq_true rfl) ?_
  intro p e s m below meth c ls F hr hlk hH hz hS hl
  have hl : lv_has ls 5 [(0, .ref a), (1, .int (iI row)), (2, .ref k), (3, .int (iI n))] := hl
  have hS : va_S (gA g) s.heap s.heap [] := hS
  obtain ⟨H, hHe⟩ : ∃ H : Heap, H = s.heap := ⟨_, rfl⟩
  obtain ⟨locs, hlo⟩ : ∃ k : List Loc, k = [] := ⟨_, rfl⟩
  have hH : gH g I R J AI AJ AR H := by rw [hHe]; exact hH
  have hS : va_S (gA g) s.heap H locs := by rw [hHe, hlo]; exact hS
  suffices hw : W p l e rmX4_insertf s m ([.ref a, .int (iI row), .ref k, .int (iI n)] : List Value).toArray below meth c H locs 0 0 (MQ below (gQi g (fun (z : Int) (w : gS) => R = w.2.1 ∧ J = w.2.2.1 ∧ AJ = w.2.2.2.2.1 ∧ AR = w.2.2.2.2.2 ∧ (gInv g gh R AR (w.1) (w.2.2.2.1)) ∧ (∀ b, b ≠ a → (w.1) b = I b) ∧ (∀ b, b ≠ gh 0 a → (w.2.2.2.1) b = AI b) ∧ (z = 0 → (w.1) = I) ∧ (z = 0 ∨ (z = 1 ∧ (I a 3).toInt < (gh 1 a : Int) ∧ 0 ≤ row ∧ row ≤ (I a 3).toInt ∧ ((w.1) a 3).toInt = (I a 3).toInt + 1)) ∧ ((z = 0 ∧ (w.2.2.2.1) = AI ∧ ((gh 1 a : Int) ≤ (I a 3).toInt ∨ row < 0 ∨ (I a 3).toInt < row)) ∨ (z = 1 ∧ insP (gh 2 a) (AI (gh 0 a)) ((w.2.2.2.1) (gh 0 a)) (rk (AI k) 0) row (I a 3).toInt n)))) ([.ref a, .int (iI row), .ref k, .int (iI n)] : List Value).toArray s 0 0 (gA g)) (F0 m 0 ls []) by
    rw [hHe, hlo] at hw; exact hw
  clear hHe hlo
  have hkc : k ≠ gh 0 a := fun q => by have := (hv.1 a ha).1.2.2.1; rw [← q, hk0] at this; exact absurd this (by decide)
  have iX4 : ∀ w ∈ u_ws RX4 TX4 4, w ∈ wsX4_insert := (by decide +kernel)
  have k34 : Cond.fieldLink RX4 34 (TX4 3).1 (TX4 3).2.1 (TX4 3).2.2.1 ∈ wsX4_insert := List.mem_of_getElem? (i := 1) rfl
  have k13 : Cond.fieldLink RX4 13 (TX4 1).1 (TX4 1).2.1 (TX4 1).2.2.1 ∈ wsX4_insert := List.mem_of_getElem? (i := 2) rfl
  have k16 : Cond.fieldLink RX4 16 (TX4 2).1 (TX4 2).2.1 (TX4 2).2.2.1 ∈ wsX4_insert := List.mem_of_getElem? (i := 3) rfl
  have k7 : Cond.fieldLink RX4 7 (TX4 0).1 (TX4 0).2.1 (TX4 0).2.2.1 ∈ wsX4_insert := List.mem_of_getElem? (i := 8) rfl
  refine lv_aload_n F.1 F.2.1 dX4_insert_0 rfl (lv_at hl 0 rfl) ?_
  refine g_getI (ci := 4) (k := 3) F hH rfl (by decide) iX4 ha (by decide) rfl k34 dX4_insert_1 ?_
  obtain ⟨b_1a, b_1b, b_1c, b_1d, b_1e, b_1f, b_1g, b_1h⟩ := gI_rows hv ha
  refine lv_aload_n F.1 F.2.1 dX4_insert_4 rfl (lv_at hl 0 rfl) ?_
  refine g_getI (ci := 4) (k := 1) F hH rfl (by decide) iX4 ha (by decide) rfl k13 dX4_insert_5 ?_
  refine z_icmp_ge (tgt := 23) F dX4_insert_8 (by decide) (zr_t _) (zr_t _) (fun c_2 => ?_) (fun c_2 => ?_)
  · refine z_iconst F dX4_insert_23 ?_
    exact g_zret F hr hlk hH hS hz (by omega) ⟨rfl, rfl, rfl, rfl, hv, fun _ _ => rfl, fun _ _ => rfl, fun _ => rfl, Or.inl rfl, Or.inl ⟨rfl, rfl, by omega⟩⟩ dX4_insert_24
  · refine lv_iload_n F.1 F.2.1 dX4_insert_11 rfl (lv_at hl 1 rfl) ?_
    refine z_if_lt (tgt := 23) F dX4_insert_12 (by decide) zrow (fun c_3 => ?_) (fun c_3 => ?_)
    · refine z_iconst F dX4_insert_23 ?_
      exact g_zret F hr hlk hH hS hz (by omega) ⟨rfl, rfl, rfl, rfl, hv, fun _ _ => rfl, fun _ _ => rfl, fun _ => rfl, Or.inl rfl, Or.inl ⟨rfl, rfl, by omega⟩⟩ dX4_insert_24
    · refine lv_iload_n F.1 F.2.1 dX4_insert_15 rfl (lv_at hl 1 rfl) ?_
      refine lv_aload_n F.1 F.2.1 dX4_insert_16 rfl (lv_at hl 0 rfl) ?_
      refine g_getI (ci := 4) (k := 3) F hH rfl (by decide) iX4 ha (by decide) rfl k34 dX4_insert_17 ?_
      refine z_icmp_le (tgt := 25) F dX4_insert_20 (by decide) zrow (zr_t _) (fun c_4 => ?_) (fun c_4 => ?_)
      · refine lv_iload_n F.1 F.2.1 dX4_insert_25 rfl (lv_at hl 1 rfl) ?_
        refine z_bipush F dX4_insert_26 (by decide) ?_
        refine z_imul F dX4_insert_28 ?_
        refine lv_istore (lv' := [(4, .int (iI (row * 6))), (0, .ref a), (1, .int (iI row)), (2, .ref k), (3, .int (iI n))]) F.1 F.2.1 dX4_insert_29 hl (by decide) rfl (fun ls hl => ?_)
        refine lv_aload_n F.1 F.2.1 dX4_insert_31 rfl (lv_at hl 1 rfl) ?_
        obtain ⟨r_5a, r_5b⟩ := gR_cells hv ha
        refine g_getR (ci := 4) (k := 2) F hH rfl (by decide) iX4 ha (by decide) rfl (b := gh 0 a) r_5a k16 dX4_insert_32 ?_
        refine lv_iload F.1 F.2.1 dX4_insert_35 (lv_at hl 0 rfl) ?_
        refine lv_aload_n F.1 F.2.1 dX4_insert_37 rfl (lv_at hl 1 rfl) ?_
        refine g_getR (ci := 4) (k := 2) F hH rfl (by decide) iX4 ha (by decide) rfl (b := gh 0 a) r_5a k16 dX4_insert_38 ?_
        refine lv_iload F.1 F.2.1 dX4_insert_41 (lv_at hl 0 rfl) ?_
        refine z_bipush F dX4_insert_43 (by decide) ?_
        refine z_iadd F dX4_insert_45 ?_
        refine lv_aload_n F.1 F.2.1 dX4_insert_46 rfl (lv_at hl 1 rfl) ?_
        refine g_getI (ci := 4) (k := 3) F hH rfl (by decide) iX4 ha (by decide) rfl k34 dX4_insert_47 ?_
        refine lv_iload_n F.1 F.2.1 dX4_insert_50 rfl (lv_at hl 2 rfl) ?_
        refine z_isub F dX4_insert_51 ?_
        refine z_bipush F dX4_insert_52 (by decide) ?_
        refine z_imul F dX4_insert_54 ?_
        have hx55 : 0 ≤ (row * 6) ∧ 0 ≤ ((row * 6) + 6) ∧ 0 ≤ ((((I a 3).toInt) - row) * 6) ∧ (row * 6) + ((((I a 3).toInt) - row) * 6) ≤ ((6 * gh 1 a : Nat) : Int) ∧ ((row * 6) + 6) + ((((I a 3).toInt) - row) * 6) ≤ ((6 * gh 1 a : Nat) : Int) ∧ (row * 6) ≤ 2147483647 ∧ ((row * 6) + 6) ≤ 2147483647 ∧ ((((I a 3).toInt) - row) * 6) ≤ 2147483647 := ⟨by omega, by omega, by omega, by omega, by omega, by omega, by omega, by omega⟩
        refine g_copyi (rest := []) F hl.1 hH hS r_5b r_5b (List.mem_of_getElem? (i := 4) rfl) (List.mem_of_getElem? (i := 5) rfl) (List.mem_of_getElem? (i := 6) rfl) (List.mem_of_getElem? (i := 7) rfl) hx55 (Nat.le_of_ble_eq_true rfl) (Nat.le_of_ble_eq_true rfl) dX4_insert_55 (fun H locs hH hS => ?_)
        obtain ⟨AI_6, eAI_6⟩ : ∃ qQ, qQ = gup1 AI (gh 0 a) (va_cpy (AI (gh 0 a)) (AI (gh 0 a)) ((row * 6)).toNat (((row * 6) + 6)).toNat (((((I a 3).toInt) - row) * 6)).toNat) := ⟨_, rfl⟩
        rw [← eAI_6] at hH
        have kAI_6 : ∀ b, b ≠ (gh 0 a) → AI_6 b = AI b := fun b hb => by rw [eAI_6]; exact gup1_a _ _ hb
        have hv : gInv g gh R AR I AI_6 := by rw [eAI_6]; exact gInv_cpyS hv ha ⟨by omega, by omega⟩ ⟨by omega, by omega⟩ ⟨by omega, by omega⟩ (by first | exact hfz | omega)
        have p1 : AI_6 (gh 0 a) = va_cpy (AI (gh 0 a)) (AI (gh 0 a)) (row * 6).toNat (row * 6 + 6).toNat (((I a 3).toInt - row) * 6).toNat := by rw [eAI_6, gup1_s]
        refine lv_aload_n F.1 F.2.1 dX4_insert_58 rfl (lv_at hl 3 rfl) ?_
        refine z_iconst F dX4_insert_59 ?_
        refine lv_aload_n F.1 F.2.1 dX4_insert_60 rfl (lv_at hl 1 rfl) ?_
        refine g_getR (ci := 4) (k := 2) F hH rfl (by decide) iX4 ha (by decide) rfl (b := gh 0 a) r_5a k16 dX4_insert_61 ?_
        refine lv_iload F.1 F.2.1 dX4_insert_64 (lv_at hl 0 rfl) ?_
        refine lv_aload_n F.1 F.2.1 dX4_insert_66 rfl (lv_at hl 1 rfl) ?_
        refine g_getI (ci := 4) (k := 0) F hH rfl (by decide) iX4 ha (by decide) rfl k7 dX4_insert_67 ?_
        have hx70 : 0 ≤ (0 : Int) ∧ 0 ≤ (row * 6) ∧ 0 ≤ ((I a 0).toInt) ∧ (0 : Int) + ((I a 0).toInt) ≤ ((5 : Nat) : Int) ∧ (row * 6) + ((I a 0).toInt) ≤ ((6 * gh 1 a : Nat) : Int) ∧ (0 : Int) ≤ 2147483647 ∧ (row * 6) ≤ 2147483647 ∧ ((I a 0).toInt) ≤ 2147483647 := ⟨by omega, by omega, by omega, by omega, by omega, by omega, by omega, by omega⟩
        refine g_copyi (rest := []) F hl.1 hH hS hk r_5b (List.mem_of_getElem? (i := 4) rfl) (List.mem_of_getElem? (i := 5) rfl) (List.mem_of_getElem? (i := 6) rfl) (List.mem_of_getElem? (i := 7) rfl) hx70 (Nat.le_of_ble_eq_true rfl) (Nat.le_of_ble_eq_true rfl) dX4_insert_70 (fun H locs hH hS => ?_)
        obtain ⟨AI_7, eAI_7⟩ : ∃ qQ, qQ = gup1 AI_6 (gh 0 a) (va_cpy (AI_6 k) (AI_6 (gh 0 a)) ((0 : Int)).toNat ((row * 6)).toNat (((I a 0).toInt)).toNat) := ⟨_, rfl⟩
        rw [← eAI_7] at hH
        have kAI_7 : ∀ b, b ≠ (gh 0 a) → AI_7 b = AI_6 b := fun b hb => by rw [eAI_7]; exact gup1_a _ _ hb
        have hv : gInv g gh R AR I AI_7 := by rw [eAI_7]; exact gInv_cpyK hv ha (fun h5 => by rw [kAI_6 k hkc]; exact hk5 h5) ⟨by omega, by omega⟩ ⟨by omega, by omega⟩ (by first | exact hfz | omega)
        have p2 : AI_7 (gh 0 a) = va_cpy (AI k) (AI_6 (gh 0 a)) (0 : Int).toNat (row * 6).toNat ((gh 2 a : Nat) : Int).toNat := by rw [eAI_7, gup1_s, kAI_6 k hkc, (gI_rows hv ha).1]
        refine lv_aload_n F.1 F.2.1 dX4_insert_73 rfl (lv_at hl 1 rfl) ?_
        refine g_getR (ci := 4) (k := 2) F hH rfl (by decide) iX4 ha (by decide) rfl (b := gh 0 a) r_5a k16 dX4_insert_74 ?_
        refine lv_iload F.1 F.2.1 dX4_insert_77 (lv_at hl 0 rfl) ?_
        refine z_iconst F dX4_insert_79 ?_
        refine z_iadd F dX4_insert_80 ?_
        refine z_iconst F dX4_insert_81 ?_
        have hx82 : 0 ≤ ((row * 6) + 5) ∧ ((row * 6) + 5) < ((6 * gh 1 a : Nat) : Int) ∧ ((row * 6) + 5) ≤ 2147483647 := ⟨by omega, by omega, by omega⟩
        refine g_iast F hH hS r_5b hx82.1 hx82.2.1 hx82.2.2 dX4_insert_82 (fun H locs hH hS => ?_)
        obtain ⟨AI_8, eAI_8⟩ : ∃ qQ, qQ = gup2 AI_7 (gh 0 a) (((row * 6) + 5)).toNat (iI (0)) := ⟨_, rfl⟩
        rw [← eAI_8] at hH
        have kAI_8 : ∀ b, b ≠ (gh 0 a) → AI_8 b = AI_7 b := fun b hb => by rw [eAI_8]; exact funext fun j => gup2_a _ _ hb
        have hv : gInv g gh R AR I AI_8 := by rw [eAI_8]; exact gInv_cell1 hv ha (by omega) (by omega) (by first | exact hfz | omega)
        have p3 : ∀ j : Nat, j ≠ (row * 6 + 5).toNat → AI_8 (gh 0 a) j = AI_7 (gh 0 a) j := fun j hj => by rw [eAI_8]; exact gup2_k _ _ hj
        have p3b : AI_8 (gh 0 a) (row * 6 + 5).toNat = 0 := by rw [eAI_8, gup2_s]; rfl
        refine lv_aload_n F.1 F.2.1 dX4_insert_83 rfl (lv_at hl 1 rfl) ?_
        refine g_getR (ci := 4) (k := 2) F hH rfl (by decide) iX4 ha (by decide) rfl (b := gh 0 a) r_5a k16 dX4_insert_84 ?_
        refine lv_iload F.1 F.2.1 dX4_insert_87 (lv_at hl 0 rfl) ?_
        refine lv_aload_n F.1 F.2.1 dX4_insert_89 rfl (lv_at hl 1 rfl) ?_
        refine g_getI (ci := 4) (k := 0) F hH rfl (by decide) iX4 ha (by decide) rfl k7 dX4_insert_90 ?_
        refine z_iadd F dX4_insert_93 ?_
        refine lv_iload_n F.1 F.2.1 dX4_insert_94 rfl (lv_at hl 4 rfl) ?_
        have hx95 : 0 ≤ ((row * 6) + ((I a 0).toInt)) ∧ ((row * 6) + ((I a 0).toInt)) < ((6 * gh 1 a : Nat) : Int) ∧ ((row * 6) + ((I a 0).toInt)) ≤ 2147483647 := ⟨by omega, by omega, by omega⟩
        refine g_iast F hH hS r_5b hx95.1 hx95.2.1 hx95.2.2 dX4_insert_95 (fun H locs hH hS => ?_)
        obtain ⟨AI_9, eAI_9⟩ : ∃ qQ, qQ = gup2 AI_8 (gh 0 a) (((row * 6) + ((I a 0).toInt))).toNat (iI (n)) := ⟨_, rfl⟩
        rw [← eAI_9] at hH
        have kAI_9 : ∀ b, b ≠ (gh 0 a) → AI_9 b = AI_8 b := fun b hb => by rw [eAI_9]; exact funext fun j => gup2_a _ _ hb
        have hv : gInv g gh R AR I AI_9 := by rw [eAI_9]; exact gInv_cell1 hv ha (by omega) (by omega) (by first | exact hfz | omega)
        have p4 : ∀ j : Nat, j ≠ (row * 6 + ((gh 2 a : Nat) : Int)).toNat → AI_9 (gh 0 a) j = AI_8 (gh 0 a) j := fun j hj => by rw [eAI_9]; exact gup2_k _ _ (by rw [(gI_rows hv ha).1]; exact hj)
        have p4b : AI_9 (gh 0 a) (row * 6 + ((gh 2 a : Nat) : Int)).toNat = iI n := by rw [← (gI_rows hv ha).1, eAI_9, gup2_s]
        refine lv_aload_n F.1 F.2.1 dX4_insert_96 rfl (lv_at hl 1 rfl) ?_
        refine lv_dup F.1 F.2.1 dX4_insert_97 rfl ?_
        refine g_getI (ci := 4) (k := 3) F hH rfl (by decide) iX4 ha (by decide) rfl k34 dX4_insert_98 ?_
        refine z_iconst F dX4_insert_101 ?_
        refine z_iadd F dX4_insert_102 ?_
        refine g_putI (ci := 4) (k := 3) F hH hS rfl (by decide) iX4 ha (by decide) tyX4 tyX4_ok nmX4 rfl rfl rfl k34 dX4_insert_103 (fun H locs hH hS => ?_)
        obtain ⟨I_10, eI_10⟩ : ∃ qQ, qQ = gup2 I a 3 (iI (((I a 3).toInt) + 1)) := ⟨_, rfl⟩
        rw [← eI_10] at hH
        have kI_10 : ∀ b, b ≠ a → I_10 b = I b := fun b hb => by rw [eI_10]; exact funext fun j => gup2_a _ _ hb
        have w_11 : (I_10 a 3).toInt = ((I a 3).toInt) + 1 := by rw [eI_10, gup2_s]; exact iI_val ⟨by omega, by omega⟩
        have hv : gInv g gh R AR I_10 AI_9 := by rw [eI_10]; exact gInv_len hv ha (by omega) (by omega) (by first | exact hfz | omega)
        refine z_iconst F dX4_insert_106 ?_
        exact g_zret F hr hlk hH hS hz (by omega) ⟨rfl, rfl, rfl, rfl, hv, fun b hb => kI_10 b hb, fun b hb => (((kAI_9 b hb).trans (kAI_8 b hb)).trans (kAI_7 b hb)).trans (kAI_6 b hb), fun h => absurd h (by omega), Or.inr ⟨rfl, by omega, by omega, by omega, by omega⟩, Or.inr ⟨rfl, ins_p (by omega) (by omega) (by omega) p1 p2 p3 p3b p4 p4b⟩⟩ dX4_insert_107
      · refine z_iconst F dX4_insert_23 ?_
        exact g_zret F hr hlk hH hS hz (by omega) ⟨rfl, rfl, rfl, rfl, hv, fun _ _ => rfl, fun _ _ => rfl, fun _ => rfl, Or.inl rfl, Or.inl ⟨rfl, rfl, by omega⟩⟩ dX4_insert_24

def rmX4_removeRowf : Room := { frames := 1, cells := 0, slots := 0, locals := 60 }
set_option maxHeartbeats 4000000 in
set_option maxRecDepth 100000 in
/-- a row goes out -/
theorem c_X4_removeRowf (l : Launch) (g : gG) (gh : gGh) (I : gI) (R : gR) (J : gJ) (AI : gI) (AJ : gJ) (AR : gR) (a : Nat) (row : Int) (zrow : zr row) (hv : gInv g gh R AR I AI) (ha : gO g a 4) (h0 : 0 ≤ row) (h1 : row < (I a 3).toInt) (hfz : gh 2 a = 5 → gh 42 0 = 1 → a ≠ gh 37 0) : gMet l g yX4_removeRow wsX4_removeRow rmX4_removeRowf [.ref a, .int (iI row)] (I, R, J, AI, AJ, AR) (gQv g (fun w : gS => R = w.2.1 ∧ J = w.2.2.1 ∧ AJ = w.2.2.2.2.1 ∧ AR = w.2.2.2.2.2 ∧ (gInv g gh R AR (w.1) (w.2.2.2.1)) ∧ (∀ b, b ≠ a → (w.1) b = I b) ∧ (∀ b, b ≠ gh 0 a → (w.2.2.2.1) b = AI b) ∧ (((w.1) a 3).toInt = (I a 3).toInt - 1) ∧ (remP (AI (gh 0 a)) ((w.2.2.2.1) (gh 0 a)) row (I a 3).toInt))) := by
  refine gStart (cc := cX4_removeRow) (maxL := 3) (ret := none) (by decide) rfl (Nat.le_of_ble_eq_true rfl) ?_
  intro p e s m below meth c ls F hr hlk hH hz hS hl
  have hl : lv_has ls 3 [(0, .ref a), (1, .int (iI row))] := hl
  have hS : va_S (gA g) s.heap s.heap [] := hS
  obtain ⟨H, hHe⟩ : ∃ H : Heap, H = s.heap := ⟨_, rfl⟩
  obtain ⟨locs, hlo⟩ : ∃ k : List Loc, k = [] := ⟨_, rfl⟩
  have hH : gH g I R J AI AJ AR H := by rw [hHe]; exact hH
  have hS : va_S (gA g) s.heap H locs := by rw [hHe, hlo]; exact hS
  suffices hw : W p l e rmX4_removeRowf s m ([.ref a, .int (iI row)] : List Value).toArray below meth c H locs 0 0 (MQ below (gQv g (fun w : gS => R = w.2.1 ∧ J = w.2.2.1 ∧ AJ = w.2.2.2.2.1 ∧ AR = w.2.2.2.2.2 ∧ (gInv g gh R AR (w.1) (w.2.2.2.1)) ∧ (∀ b, b ≠ a → (w.1) b = I b) ∧ (∀ b, b ≠ gh 0 a → (w.2.2.2.1) b = AI b) ∧ (((w.1) a 3).toInt = (I a 3).toInt - 1) ∧ (remP (AI (gh 0 a)) ((w.2.2.2.1) (gh 0 a)) row (I a 3).toInt))) ([.ref a, .int (iI row)] : List Value).toArray s 0 0 (gA g)) (F0 m 0 ls []) by
    rw [hHe, hlo] at hw; exact hw
  clear hHe hlo
  have iX4 : ∀ w ∈ u_ws RX4 TX4 4, w ∈ wsX4_removeRow := (by decide +kernel)
  have k34 : Cond.fieldLink RX4 34 (TX4 3).1 (TX4 3).2.1 (TX4 3).2.2.1 ∈ wsX4_removeRow := List.mem_of_getElem? (i := 1) rfl
  have k16 : Cond.fieldLink RX4 16 (TX4 2).1 (TX4 2).2.1 (TX4 2).2.2.1 ∈ wsX4_removeRow := List.mem_of_getElem? (i := 2) rfl
  refine lv_iload_n F.1 F.2.1 dX4_removeRow_0 rfl (lv_at hl 1 rfl) ?_
  refine z_bipush F dX4_removeRow_1 (by decide) ?_
  refine z_imul F dX4_removeRow_3 ?_
  refine lv_istore_n (lv' := [(2, .int (iI (row * 6))), (0, .ref a), (1, .int (iI row))]) F.1 F.2.1 dX4_removeRow_4 rfl hl (by decide) rfl (fun ls hl => ?_)
  refine lv_aload_n F.1 F.2.1 dX4_removeRow_5 rfl (lv_at hl 1 rfl) ?_
  refine lv_dup F.1 F.2.1 dX4_removeRow_6 rfl ?_
  refine g_getI (ci := 4) (k := 3) F hH rfl (by decide) iX4 ha (by decide) rfl k34 dX4_removeRow_7 ?_
  obtain ⟨b_1a, b_1b, b_1c, b_1d, b_1e, b_1f, b_1g, b_1h⟩ := gI_rows hv ha
  refine z_iconst F dX4_removeRow_10 ?_
  refine z_isub F dX4_removeRow_11 ?_
  refine g_putI (ci := 4) (k := 3) F hH hS rfl (by decide) iX4 ha (by decide) tyX4 tyX4_ok nmX4 rfl rfl rfl k34 dX4_removeRow_12 (fun H locs hH hS => ?_)
  obtain ⟨I_2, eI_2⟩ : ∃ qQ, qQ = gup2 I a 3 (iI (((I a 3).toInt) - 1)) := ⟨_, rfl⟩
  rw [← eI_2] at hH
  have kI_2 : ∀ b, b ≠ a → I_2 b = I b := fun b hb => by rw [eI_2]; exact funext fun j => gup2_a _ _ hb
  have w_3 : (I_2 a 3).toInt = ((I a 3).toInt) - 1 := by rw [eI_2, gup2_s]; exact iI_val ⟨by omega, by omega⟩
  have hv : gInv g gh R AR I_2 AI := by rw [eI_2]; exact gInv_len hv ha (by omega) (by omega) (by first | exact hfz | omega)
  refine lv_aload_n F.1 F.2.1 dX4_removeRow_15 rfl (lv_at hl 1 rfl) ?_
  obtain ⟨b_4a, b_4b, b_4c, b_4d, b_4e, b_4f, b_4g, b_4h⟩ := gI_rows hv ha
  obtain ⟨r_5a, r_5b⟩ := gR_cells hv ha
  refine g_getR (ci := 4) (k := 2) F hH rfl (by decide) iX4 ha (by decide) rfl (b := gh 0 a) r_5a k16 dX4_removeRow_16 ?_
  refine lv_iload_n F.1 F.2.1 dX4_removeRow_19 rfl (lv_at hl 0 rfl) ?_
  refine z_bipush F dX4_removeRow_20 (by decide) ?_
  refine z_iadd F dX4_removeRow_22 ?_
  refine lv_aload_n F.1 F.2.1 dX4_removeRow_23 rfl (lv_at hl 1 rfl) ?_
  refine g_getR (ci := 4) (k := 2) F hH rfl (by decide) iX4 ha (by decide) rfl (b := gh 0 a) r_5a k16 dX4_removeRow_24 ?_
  refine lv_iload_n F.1 F.2.1 dX4_removeRow_27 rfl (lv_at hl 0 rfl) ?_
  refine lv_aload_n F.1 F.2.1 dX4_removeRow_28 rfl (lv_at hl 1 rfl) ?_
  refine g_getI (ci := 4) (k := 3) F hH rfl (by decide) iX4 ha (by decide) rfl k34 dX4_removeRow_29 ?_
  refine lv_iload_n F.1 F.2.1 dX4_removeRow_32 rfl (lv_at hl 2 rfl) ?_
  refine z_isub F dX4_removeRow_33 ?_
  refine z_bipush F dX4_removeRow_34 (by decide) ?_
  refine z_imul F dX4_removeRow_36 ?_
  have hx37 : 0 ≤ ((row * 6) + 6) ∧ 0 ≤ (row * 6) ∧ 0 ≤ ((((I_2 a 3).toInt) - row) * 6) ∧ ((row * 6) + 6) + ((((I_2 a 3).toInt) - row) * 6) ≤ ((6 * gh 1 a : Nat) : Int) ∧ (row * 6) + ((((I_2 a 3).toInt) - row) * 6) ≤ ((6 * gh 1 a : Nat) : Int) ∧ ((row * 6) + 6) ≤ 2147483647 ∧ (row * 6) ≤ 2147483647 ∧ ((((I_2 a 3).toInt) - row) * 6) ≤ 2147483647 := ⟨by omega, by omega, by omega, by omega, by omega, by omega, by omega, by omega⟩
  refine g_copyi (rest := []) F hl.1 hH hS r_5b r_5b (List.mem_of_getElem? (i := 3) rfl) (List.mem_of_getElem? (i := 4) rfl) (List.mem_of_getElem? (i := 5) rfl) (List.mem_of_getElem? (i := 6) rfl) hx37 (Nat.le_of_ble_eq_true rfl) (Nat.le_of_ble_eq_true rfl) dX4_removeRow_37 (fun H locs hH hS => ?_)
  obtain ⟨AI_6, eAI_6⟩ : ∃ qQ, qQ = gup1 AI (gh 0 a) (va_cpy (AI (gh 0 a)) (AI (gh 0 a)) (((row * 6) + 6)).toNat ((row * 6)).toNat (((((I_2 a 3).toInt) - row) * 6)).toNat) := ⟨_, rfl⟩
  rw [← eAI_6] at hH
  have kAI_6 : ∀ b, b ≠ (gh 0 a) → AI_6 b = AI b := fun b hb => by rw [eAI_6]; exact gup1_a _ _ hb
  have hv : gInv g gh R AR I_2 AI_6 := by rw [eAI_6]; exact gInv_cpyS hv ha ⟨by omega, by omega⟩ ⟨by omega, by omega⟩ ⟨by omega, by omega⟩ (by first | exact hfz | omega)
  have p1 : AI_6 (gh 0 a) = va_cpy (AI (gh 0 a)) (AI (gh 0 a)) (row * 6 + 6).toNat (row * 6).toNat (((I a 3).toInt - 1 - row) * 6).toNat := by rw [eAI_6, gup1_s, show (I_2 a 3).toInt = (I a 3).toInt - 1 by omega]
  exact g_vret F hr hlk hH hS hz ⟨rfl, rfl, rfl, rfl, hv, fun b hb => kI_2 b hb, fun b hb => kAI_6 b hb, by first | omega | rfl | (dsimp only; omega), rem_p (by omega) (by omega) p1⟩ dX4_removeRow_40

def rmX4_addAmountf : Room := { frames := 2, cells := 0, slots := 0, locals := 84 }
set_option maxHeartbeats 4000000 in
set_option maxRecDepth 100000 in
/-- the amount of a key is more by n -/
theorem c_X4_addAmountf (l : Launch) (g : gG) (gh : gGh) (I : gI) (R : gR) (J : gJ) (AI : gI) (AJ : gJ) (AR : gR) (a : Nat) (k : Nat) (n : Int) (zn : zr n) (hv : gInv g gh R AR I AI) (ha : gO g a 4) (hk : gAr g k 9 5) (hk0 : gh 9 k = 0) (hk5 : gh 2 a = 5 → 0 ≤ (AI k 0).toInt ∧ (AI k 0).toInt ≤ 15) (hfz : gh 2 a = 5 → gh 42 0 = 1 → a ≠ gh 37 0) : gMet l g yX4_addAmount wsX4_addAmount rmX4_addAmountf [.ref a, .ref k, .int (iI n)] (I, R, J, AI, AJ, AR) (gQi g (fun (z : Int) (w : gS) => R = w.2.1 ∧ J = w.2.2.1 ∧ AJ = w.2.2.2.2.1 ∧ AR = w.2.2.2.2.2 ∧ (gInv g gh R AR (w.1) (w.2.2.2.1)) ∧ (∀ b, b ≠ a → (w.1) b = I b) ∧ (∀ b, b ≠ gh 0 a → (w.2.2.2.1) b = AI b) ∧ (addP (gh 2 a) (gh 1 a : Int) (AI (gh 0 a)) ((w.2.2.2.1) (gh 0 a)) (I a 3).toInt ((w.1) a 3).toInt (rk (AI k) 0) n z))) := by
  refine gStart (cc := cX4_addAmount) (maxL := 5) (ret := (some (.boolean))) (by decide) rfl (Nat.le_of_ble_eq_true rfl) ?_
  intro p e s m below meth c ls F hr hlk hH hz hS hl
  have hl : lv_has ls 5 [(0, .ref a), (1, .ref k), (2, .int (iI n))] := hl
  have hS : va_S (gA g) s.heap s.heap [] := hS
  obtain ⟨H, hHe⟩ : ∃ H : Heap, H = s.heap := ⟨_, rfl⟩
  obtain ⟨locs, hlo⟩ : ∃ k : List Loc, k = [] := ⟨_, rfl⟩
  have hH : gH g I R J AI AJ AR H := by rw [hHe]; exact hH
  have hS : va_S (gA g) s.heap H locs := by rw [hHe, hlo]; exact hS
  suffices hw : W p l e rmX4_addAmountf s m ([.ref a, .ref k, .int (iI n)] : List Value).toArray below meth c H locs 0 0 (MQ below (gQi g (fun (z : Int) (w : gS) => R = w.2.1 ∧ J = w.2.2.1 ∧ AJ = w.2.2.2.2.1 ∧ AR = w.2.2.2.2.2 ∧ (gInv g gh R AR (w.1) (w.2.2.2.1)) ∧ (∀ b, b ≠ a → (w.1) b = I b) ∧ (∀ b, b ≠ gh 0 a → (w.2.2.2.1) b = AI b) ∧ (addP (gh 2 a) (gh 1 a : Int) (AI (gh 0 a)) ((w.2.2.2.1) (gh 0 a)) (I a 3).toInt ((w.1) a 3).toInt (rk (AI k) 0) n z))) ([.ref a, .ref k, .int (iI n)] : List Value).toArray s 0 0 (gA g)) (F0 m 0 ls []) by
    rw [hHe, hlo] at hw; exact hw
  clear hHe hlo
  have iX4 : ∀ w ∈ u_ws RX4 TX4 4, w ∈ wsX4_addAmount := (by decide +kernel)
  have k7 : Cond.fieldLink RX4 7 (TX4 0).1 (TX4 0).2.1 (TX4 0).2.2.1 ∈ wsX4_addAmount := List.mem_of_getElem? (i := 1) rfl
  refine lv_aload_n F.1 F.2.1 dX4_addAmount_0 rfl (lv_at hl 0 rfl) ?_
  refine lv_aload_n F.1 F.2.1 dX4_addAmount_1 rfl (lv_at hl 1 rfl) ?_
  obtain ⟨b_1a, b_1b, b_1c, b_1d, b_1e, b_1f, b_1g, b_1h⟩ := gI_rows hv ha
  refine g_calli (g_runV (As := [.ref k]) (rest := []) (ci := 4) F hl.1 hH hS hz (c_X4_findf l g gh I R J AI AJ AR a k hv ha hk) (cwV 1 F.2.2.2.2.1 gX4_addAmount_X4_find rfl rfl rfl hdX4_find ⟨Nat.le_of_ble_eq_true rfl, Nat.le_of_ble_eq_true rfl⟩) ha (by decide) rfl rfl rfl (Nat.le_of_ble_eq_true rfl) dX4_addAmount_2 ⟨Nat.zero_le _, Nat.zero_le _⟩) hS (fun v_8 I_2 R_3 J_4 AI_5 AJ_6 AR_7 H locs zv_8 hp_9 hH hS => ?_)
  dsimp only at hp_9
  obtain ⟨rfl, rfl, rfl, rfl, rfl, rfl, q_10, qf⟩ := hp_9
  refine lv_istore_n (lv' := [(3, .int (iI v_8)), (0, .ref a), (1, .ref k), (2, .int (iI n))]) F.1 F.2.1 dX4_addAmount_5 rfl hl (by decide) rfl (fun ls hl => ?_)
  refine lv_iload_n F.1 F.2.1 dX4_addAmount_6 rfl (lv_at hl 0 rfl) ?_
  refine z_if_ge (tgt := 32) F dX4_addAmount_7 (by decide) zv_8 (fun c_11 => ?_) (fun c_11 => ?_)
  · refine lv_aload_n F.1 F.2.1 dX4_addAmount_32 rfl (lv_at hl 1 rfl) ?_
    refine lv_iload_n F.1 F.2.1 dX4_addAmount_33 rfl (lv_at hl 0 rfl) ?_
    refine g_calli (g_runV (As := [.int (iI v_8)]) (rest := []) (ci := 4) F hl.1 hH hS hz (c_X4_amount l g gh I R J AI AJ AR a v_8 zv_8 hv ha (by omega) (by omega)) (cwV 1 F.2.2.2.2.1 gX4_addAmount_X4_amount rfl rfl rfl hdX4_amount ⟨Nat.le_of_ble_eq_true rfl, Nat.le_of_ble_eq_true rfl⟩) ha (by decide) rfl rfl rfl (Nat.le_of_ble_eq_true rfl) dX4_addAmount_34 ⟨Nat.zero_le _, Nat.zero_le _⟩) hS (fun v_18 I_12 R_13 J_14 AI_15 AJ_16 AR_17 H locs zv_18 hp_19 hH hS => ?_)
    dsimp only at hp_19
    obtain ⟨rfl, rfl, rfl, rfl, rfl, rfl, qam⟩ := hp_19
    have qa : v_18 = (AI (gh 0 a) ((6 * v_8).toNat + gh 2 a)).toInt := by rw [qam, show (v_8 * 6 + (I a 0).toInt).toNat = (6 * v_8).toNat + gh 2 a by omega]
    refine lv_iload_n F.1 F.2.1 dX4_addAmount_37 rfl (lv_at hl 3 rfl) ?_
    refine z_iadd F dX4_addAmount_38 ?_
    refine z_norm (fun v_20 zv_20 ev_20 => ?_)
    have qs : iI ((AI (gh 0 a) ((6 * v_8).toNat + gh 2 a)).toInt + n) = iI v_20 := by rw [ev_20, qa]
    refine lv_istore (lv' := [(4, .int (iI v_20)), (3, .int (iI v_8)), (0, .ref a), (1, .ref k), (2, .int (iI n))]) F.1 F.2.1 dX4_addAmount_39 hl (by decide) rfl (fun ls hl => ?_)
    refine lv_iload F.1 F.2.1 dX4_addAmount_41 (lv_at hl 0 rfl) ?_
    refine z_if_ne (tgt := 54) F dX4_addAmount_43 (by decide) zv_20 (fun c_21 => ?_) (fun c_21 => ?_)
    · refine lv_aload_n F.1 F.2.1 dX4_addAmount_54 rfl (lv_at hl 2 rfl) ?_
      refine lv_iload_n F.1 F.2.1 dX4_addAmount_55 rfl (lv_at hl 1 rfl) ?_
      refine lv_aload_n F.1 F.2.1 dX4_addAmount_56 rfl (lv_at hl 2 rfl) ?_
      refine g_getI (ci := 4) (k := 0) F hH rfl (by decide) iX4 ha (by decide) rfl k7 dX4_addAmount_57 ?_
      refine lv_iload F.1 F.2.1 dX4_addAmount_60 (lv_at hl 0 rfl) ?_
      refine g_callv (g_runV (As := [.int (iI v_8), .int (iI ((I a 0).toInt)), .int (iI v_20)]) (rest := []) (ci := 4) F hl.1 hH hS hz (c_X4_setCell l g gh I R J AI AJ AR a v_8 ((I a 0).toInt) v_20 zv_8 (zr_t _) zv_20 hv ha (by omega) (by omega) (by omega) (by omega) (fun h => by omega) (by first | exact hfz | omega)) (cwV 3 F.2.2.2.2.1 gX4_addAmount_X4_setCell rfl rfl rfl hdX4_setCell ⟨Nat.le_of_ble_eq_true rfl, Nat.le_of_ble_eq_true rfl⟩) ha (by decide) rfl rfl rfl (Nat.le_of_ble_eq_true rfl) dX4_addAmount_62 ⟨Nat.zero_le _, Nat.zero_le _⟩) hS (fun I_22 R_23 J_24 AI_25 AJ_26 AR_27 H locs hp_28 hH hS => ?_)
      dsimp only at hp_28
      obtain ⟨rfl, rfl, rfl, rfl, rfl, qse, hv, q_29⟩ := hp_28
      refine z_iconst F dX4_addAmount_65 ?_
      exact g_zret F hr hlk hH hS hz (by omega) ⟨rfl, rfl, rfl, rfl, hv, fun _ _ => rfl, fun b hb => q_29 b hb, by (try dsimp only); first | exact add_s qf (by omega) (fun h => absurd ((iI_eq zv_20 zr_0).mp (qs.symm.trans h)) (by omega)) (set_p qse (by omega) qs.symm) | exact add_r qf (by omega) (by rw [qs, show v_20 = 0 by omega]; rfl) (by omega) qr⟩ dX4_addAmount_66
    · refine lv_aload_n F.1 F.2.1 dX4_addAmount_46 rfl (lv_at hl 2 rfl) ?_
      refine lv_iload_n F.1 F.2.1 dX4_addAmount_47 rfl (lv_at hl 1 rfl) ?_
      refine g_callv (g_runV (As := [.int (iI v_8)]) (rest := []) (ci := 4) F hl.1 hH hS hz (c_X4_removeRowf l g gh I R J AI AJ AR a v_8 zv_8 hv ha (by omega) (by omega) (by first | exact hfz | omega)) (cwV 1 F.2.2.2.2.1 gX4_addAmount_X4_removeRow rfl rfl rfl hdX4_removeRow ⟨Nat.le_of_ble_eq_true rfl, Nat.le_of_ble_eq_true rfl⟩) ha (by decide) rfl rfl rfl (Nat.le_of_ble_eq_true rfl) dX4_addAmount_48 ⟨Nat.zero_le _, Nat.zero_le _⟩) hS (fun I_30 R_31 J_32 AI_33 AJ_34 AR_35 H locs hp_36 hH hS => ?_)
      dsimp only at hp_36
      obtain ⟨rfl, rfl, rfl, rfl, hv, q_37, q_38, q48, qr⟩ := hp_36
      refine z_goto (tgt := 65) F dX4_addAmount_51 (by decide) ?_
      refine z_iconst F dX4_addAmount_65 ?_
      exact g_zret F hr hlk hH hS hz (by omega) ⟨rfl, rfl, rfl, rfl, hv, fun b hb => q_37 b hb, fun b hb => q_38 b hb, by (try dsimp only); first | exact add_s qf (by omega) (fun h => absurd ((iI_eq zv_20 zr_0).mp (qs.symm.trans h)) (by omega)) (set_p qse (by omega) qs.symm) | exact add_r qf (by omega) (by rw [qs, show v_20 = 0 by omega]; rfl) (by omega) qr⟩ dX4_addAmount_66
  · refine lv_iload_n F.1 F.2.1 dX4_addAmount_10 rfl (lv_at hl 3 rfl) ?_
    refine z_if_eq (tgt := 26) F dX4_addAmount_11 (by decide) zn (fun c_39 => ?_) (fun c_39 => ?_)
    · refine z_iconst F dX4_addAmount_26 ?_
      refine z_goto (tgt := 31) F dX4_addAmount_27 (by decide) ?_
      exact g_zret F hr hlk hH hS hz (by omega) ⟨rfl, rfl, rfl, rfl, hv, fun _ _ => rfl, fun _ _ => rfl, by (try dsimp only); first | exact add_i qf (by omega) (by omega) (by omega) (by omega) (qi.resolve_left (fun h => by omega)).2 | (obtain ⟨-, eA, hw⟩ := qi.resolve_right (fun h => by omega); rw [q53 (by omega), eA]; exact add_f qf (by omega) (by omega) (by omega)) | exact add_no qf (by omega) (by omega)⟩ dX4_addAmount_31
    · refine lv_aload_n F.1 F.2.1 dX4_addAmount_14 rfl (lv_at hl 1 rfl) ?_
      refine z_iconst F dX4_addAmount_15 ?_
      refine lv_iload_n F.1 F.2.1 dX4_addAmount_16 rfl (lv_at hl 0 rfl) ?_
      refine z_isub F dX4_addAmount_17 ?_
      refine lv_aload_n F.1 F.2.1 dX4_addAmount_18 rfl (lv_at hl 2 rfl) ?_
      refine lv_iload_n F.1 F.2.1 dX4_addAmount_19 rfl (lv_at hl 3 rfl) ?_
      refine g_calli (g_runV (As := [.int (iI ((-1) - v_8)), .ref k, .int (iI n)]) (rest := []) (ci := 4) F hl.1 hH hS hz (c_X4_insertf l g gh I R J AI AJ AR a ((-1) - v_8) k n ⟨by omega, by omega⟩ zn hv ha hk hk0 hk5 (by first | exact hfz | omega)) (cwV 3 F.2.2.2.2.1 gX4_addAmount_X4_insert rfl rfl rfl hdX4_insert ⟨Nat.le_of_ble_eq_true rfl, Nat.le_of_ble_eq_true rfl⟩) ha (by decide) rfl rfl rfl (Nat.le_of_ble_eq_true rfl) dX4_addAmount_20 ⟨Nat.zero_le _, Nat.zero_le _⟩) hS (fun v_46 I_40 R_41 J_42 AI_43 AJ_44 AR_45 H locs zv_46 hp_47 hH hS => ?_)
      dsimp only at hp_47
      obtain ⟨rfl, rfl, rfl, rfl, hv, q_48, q_49, q53, q54, qi⟩ := hp_47
      refine z_if_eq (tgt := 30) F dX4_addAmount_23 (by decide) zv_46 (fun c_50 => ?_) (fun c_50 => ?_)
      · refine z_iconst F dX4_addAmount_30 ?_
        exact g_zret F hr hlk hH hS hz (by omega) ⟨rfl, rfl, rfl, rfl, hv, fun b hb => q_48 b hb, fun b hb => q_49 b hb, by (try dsimp only); first | exact add_i qf (by omega) (by omega) (by omega) (by omega) (qi.resolve_left (fun h => by omega)).2 | (obtain ⟨-, eA, hw⟩ := qi.resolve_right (fun h => by omega); rw [q53 (by omega), eA]; exact add_f qf (by omega) (by omega) (by omega)) | exact add_no qf (by omega) (by omega)⟩ dX4_addAmount_31
      · refine z_iconst F dX4_addAmount_26 ?_
        refine z_goto (tgt := 31) F dX4_addAmount_27 (by decide) ?_
        exact g_zret F hr hlk hH hS hz (by omega) ⟨rfl, rfl, rfl, rfl, hv, fun b hb => q_48 b hb, fun b hb => q_49 b hb, by (try dsimp only); first | exact add_i qf (by omega) (by omega) (by omega) (by omega) (qi.resolve_left (fun h => by omega)).2 | (obtain ⟨-, eA, hw⟩ := qi.resolve_right (fun h => by omega); rw [q53 (by omega), eA]; exact add_f qf (by omega) (by omega) (by omega)) | exact add_no qf (by omega) (by omega)⟩ dX4_addAmount_31
end
section
def rmX6_changef : Room := { frames := 3, cells := 0, slots := 0, locals := 108 }
set_option maxHeartbeats 4000000 in
set_option maxRecDepth 100000 in
/-- a change -/
theorem c_X6_changef (l : Launch) (g : gG) (gh : gGh) (pA bA nA : Nat) (cl : Int) (I : gI) (R : gR) (J : gJ) (AI : gI) (AJ : gJ) (AR : gR) (x : Nat) (tb : Int) (ca : Int) (cb : Int) (c3 : Int) (c4 : Int) (n : Int) (ztb : zr tb) (zca : zr ca) (zcb : zr cb) (zc3 : zr c3) (zc4 : zr c4) (zn : zr n) (hv : gInv g gh R AR I AI) (hx : xS g gh R AR x pA bA nA) (h37 : gh 42 0 ≠ 1) (hcl : 0 ≤ tb → tb < (I pA 2).toInt → ∀ y, AR (gh 6 pA) tb.toNat = some y → (I y 2).toInt = cl) : gMet l g yX6_change wsX6_change rmX6_changef [.ref x, .int (iI tb), .int (iI ca), .int (iI cb), .int (iI c3), .int (iI c4), .int (iI n)] (I, R, J, AI, AJ, AR) (gQi g (fun (z : Int) (w : gS) => R = w.2.1 ∧ J = w.2.2.1 ∧ AJ = w.2.2.2.2.1 ∧ AR = w.2.2.2.2.2 ∧ (gInv g gh R AR (w.1) (w.2.2.2.1)) ∧ (rF g I (w.1)) ∧ (∀ b, b ≠ gh 37 0 → (w.1) b = I b) ∧ (∀ b, b ≠ gh 29 0 → b ≠ gh 0 (gh 37 0) → (w.2.2.2.1) b = AI b) ∧ (chP (I pA 2).toInt tb n z (I (gh 37 0) 3).toInt ((w.1) (gh 37 0) 3).toInt (AI (gh 0 (gh 37 0))) ((w.2.2.2.1) (gh 0 (gh 37 0))) (cky tb ca cb c3 c4 cl)))) := by
  refine gStart (cc := cX6_change) (maxL := 8) (ret := (some (.int))) (by decide) rfl (Nat.le_of_ble_eq_true rfl) ?_
  intro p e s m below meth c ls F hr hlk hH hz hS hl
  have hl : lv_has ls 8 [(0, .ref x), (1, .int (iI tb)), (2, .int (iI ca)), (3, .int (iI cb)), (4, .int (iI c3)), (5, .int (iI c4)), (6, .int (iI n))] := hl
  have hS : va_S (gA g) s.heap s.heap [] := hS
  obtain ⟨H, hHe⟩ : ∃ H : Heap, H = s.heap := ⟨_, rfl⟩
  obtain ⟨locs, hlo⟩ : ∃ k : List Loc, k = [] := ⟨_, rfl⟩
  have hH : gH g I R J AI AJ AR H := by rw [hHe]; exact hH
  have hS : va_S (gA g) s.heap H locs := by rw [hHe, hlo]; exact hS
  suffices hw : W p l e rmX6_changef s m ([.ref x, .int (iI tb), .int (iI ca), .int (iI cb), .int (iI c3), .int (iI c4), .int (iI n)] : List Value).toArray below meth c H locs 0 0 (MQ below (gQi g (fun (z : Int) (w : gS) => R = w.2.1 ∧ J = w.2.2.1 ∧ AJ = w.2.2.2.2.1 ∧ AR = w.2.2.2.2.2 ∧ (gInv g gh R AR (w.1) (w.2.2.2.1)) ∧ (rF g I (w.1)) ∧ (∀ b, b ≠ gh 37 0 → (w.1) b = I b) ∧ (∀ b, b ≠ gh 29 0 → b ≠ gh 0 (gh 37 0) → (w.2.2.2.1) b = AI b) ∧ (chP (I pA 2).toInt tb n z (I (gh 37 0) 3).toInt ((w.1) (gh 37 0) 3).toInt (AI (gh 0 (gh 37 0))) ((w.2.2.2.1) (gh 0 (gh 37 0))) (cky tb ca cb c3 c4 cl)))) ([.ref x, .int (iI tb), .int (iI ca), .int (iI cb), .int (iI c3), .int (iI c4), .int (iI n)] : List Value).toArray s 0 0 (gA g)) (F0 m 0 ls []) by
    rw [hHe, hlo] at hw; exact hw
  clear hHe hlo
  have rf : rF g I I := rF_r
  have iX6 : ∀ w ∈ u_ws RX6 TX6 18, w ∈ wsX6_change := (by decide +kernel)
  have iX4 : ∀ w ∈ u_ws RX4 TX4 4, w ∈ wsX6_change := (by decide +kernel)
  have iX2 : ∀ w ∈ u_ws RX2 TX2 3, w ∈ wsX6_change := (by decide +kernel)
  have iX0 : ∀ w ∈ u_ws RX0 TX0 15, w ∈ wsX6_change := (by decide +kernel)
  have k23 : Cond.fieldLink RX6 23 (TX6 3).1 (TX6 3).2.1 (TX6 3).2.2.1 ∈ wsX6_change := List.mem_of_getElem? (i := 1) rfl
  have k122 : Cond.fieldLink RX6 122 (TX2 2).1 (TX2 2).2.1 (TX2 2).2.2.1 ∈ wsX6_change := List.mem_of_getElem? (i := 2) rfl
  have k113 : Cond.fieldLink RX6 113 (TX2 0).1 (TX2 0).2.1 (TX2 0).2.2.1 ∈ wsX6_change := List.mem_of_getElem? (i := 3) rfl
  have k125 : Cond.fieldLink RX6 125 (TX0 2).1 (TX0 2).2.1 (TX0 2).2.2.1 ∈ wsX6_change := List.mem_of_getElem? (i := 4) rfl
  have k66 : Cond.fieldLink RX6 66 (TX6 12).1 (TX6 12).2.1 (TX6 12).2.2.1 ∈ wsX6_change := List.mem_of_getElem? (i := 5) rfl
  have k53 : Cond.fieldLink RX6 53 (TX6 8).1 (TX6 8).2.1 (TX6 8).2.2.1 ∈ wsX6_change := List.mem_of_getElem? (i := 6) rfl
  have k99 : Cond.fieldLink RX6 99 (TX4 3).1 (TX4 3).2.1 (TX4 3).2.2.1 ∈ wsX6_change := List.mem_of_getElem? (i := 7) rfl
  refine lv_iload_n F.1 F.2.1 dX6_change_0 rfl (lv_at hl 1 rfl) ?_
  refine z_if_lt (tgt := 15) F dX6_change_1 (by decide) ztb (fun c_1 => ?_) (fun c_1 => ?_)
  · refine z_iconst F dX6_change_15 ?_
    exact g_iret F hr hlk hH hS hz ⟨by decide, by decide⟩ ⟨rfl, rfl, rfl, rfl, hv, rf, fun _ _ => rfl, fun _ _ _ => rfl, Or.inl ⟨by omega, rfl, rfl, rfl⟩⟩ dX6_change_16
  · refine lv_iload_n F.1 F.2.1 dX6_change_4 rfl (lv_at hl 1 rfl) ?_
    refine lv_aload_n F.1 F.2.1 dX6_change_5 rfl (lv_at hl 0 rfl) ?_
    refine g_getR (ci := 6) (k := 3) F hH rfl (by decide) iX6 hx.1 (by decide) rfl (b := pA) hx.2.1 k23 dX6_change_6 ?_
    refine g_getI (ci := 2) (k := 2) F hH rfl (by decide) iX2 hx.2.2.1 (by decide) rfl k122 dX6_change_9 ?_
    have b_2 := gI_plan hv hx.2.2.1
    refine z_icmp_lt (tgt := 17) F dX6_change_12 (by decide) ztb (zr_t _) (fun c_3 => ?_) (fun c_3 => ?_)
    · refine lv_iload F.1 F.2.1 dX6_change_17 (lv_at hl 6 rfl) ?_
      refine z_bipush F dX6_change_19 (by decide) ?_
      refine z_icmp_lt (tgt := 36) F dX6_change_21 (by decide) zn ⟨by decide, by decide⟩ (fun c_4 => ?_) (fun c_4 => ?_)
      · refine z_iconst F dX6_change_36 ?_
        exact g_iret F hr hlk hH hS hz ⟨by decide, by decide⟩ ⟨rfl, rfl, rfl, rfl, hv, rf, fun _ _ => rfl, fun _ _ _ => rfl, Or.inl ⟨by omega, rfl, rfl, rfl⟩⟩ dX6_change_37
      · refine lv_iload F.1 F.2.1 dX6_change_24 (lv_at hl 6 rfl) ?_
        refine z_bipush F dX6_change_26 (by decide) ?_
        refine z_icmp_gt (tgt := 36) F dX6_change_28 (by decide) zn ⟨by decide, by decide⟩ (fun c_5 => ?_) (fun c_5 => ?_)
        · refine z_iconst F dX6_change_36 ?_
          exact g_iret F hr hlk hH hS hz ⟨by decide, by decide⟩ ⟨rfl, rfl, rfl, rfl, hv, rf, fun _ _ => rfl, fun _ _ _ => rfl, Or.inl ⟨by omega, rfl, rfl, rfl⟩⟩ dX6_change_37
        · refine lv_iload F.1 F.2.1 dX6_change_31 (lv_at hl 6 rfl) ?_
          refine z_if_ne (tgt := 38) F dX6_change_33 (by decide) zn (fun c_6 => ?_) (fun c_6 => ?_)
          · refine lv_aload_n F.1 F.2.1 dX6_change_38 rfl (lv_at hl 0 rfl) ?_
            refine g_getR (ci := 6) (k := 3) F hH rfl (by decide) iX6 hx.1 (by decide) rfl (b := pA) hx.2.1 k23 dX6_change_39 ?_
            obtain ⟨r_7a, r_7b⟩ := gR_lines hv hx.2.2.1
            refine g_getR (ci := 2) (k := 0) F hH rfl (by decide) iX2 hx.2.2.1 (by decide) rfl (b := gh 6 pA) r_7a k113 dX6_change_42 ?_
            refine lv_iload_n F.1 F.2.1 dX6_change_45 rfl (lv_at hl 1 rfl) ?_
            have hx46 : 0 ≤ tb ∧ tb < ((16 : Nat) : Int) ∧ tb ≤ 2147483647 := ⟨by omega, by omega, by omega⟩
            obtain ⟨y_8, y_8a, y_8b, y_8c, y_8d⟩ := gA_lines hv hx.2.2.1 (z := tb) (by omega) (by omega)
            refine g_aldL F hH r_7b hx46.1 hx46.2.1 hx46.2.2 (b := y_8) y_8a dX6_change_46 ?_
            have hcc : (I y_8 2).toInt = cl := hcl (by omega) (by omega) y_8 y_8a
            refine g_getI (ci := 0) (k := 2) F hH rfl (by decide) iX0 y_8b (by decide) rfl k125 dX6_change_47 ?_
            have b_9 := gI_line hv y_8b
            unfold vLineI at b_9
            refine lv_istore (lv' := [(7, .int (iI ((I y_8 2).toInt))), (0, .ref x), (1, .int (iI tb)), (2, .int (iI ca)), (3, .int (iI cb)), (4, .int (iI c3)), (5, .int (iI c4)), (6, .int (iI n))]) F.1 F.2.1 dX6_change_50 hl (by decide) rfl (fun ls hl => ?_)
            refine lv_aload_n F.1 F.2.1 dX6_change_52 rfl (lv_at hl 1 rfl) ?_
            obtain ⟨r_10a, r_10b⟩ := gR_x12 hv hx.1
            refine g_getR (ci := 6) (k := 12) F hH rfl (by decide) iX6 hx.1 (by decide) rfl (b := gh 29 0) r_10a k66 dX6_change_53 ?_
            refine z_iconst F dX6_change_56 ?_
            refine lv_iload_n F.1 F.2.1 dX6_change_57 rfl (lv_at hl 2 rfl) ?_
            have hx58 : 0 ≤ (0 : Int) ∧ (0 : Int) < ((5 : Nat) : Int) ∧ (0 : Int) ≤ 2147483647 := ⟨by omega, by omega, by omega⟩
            refine g_iast F hH hS r_10b hx58.1 hx58.2.1 hx58.2.2 dX6_change_58 (fun H locs hH hS => ?_)
            obtain ⟨AI_11, eAI_11⟩ : ∃ qQ, qQ = gup2 AI (gh 29 0) ((0 : Int)).toNat (iI (tb)) := ⟨_, rfl⟩
            rw [← eAI_11] at hH
            have kAI_11 : ∀ b, b ≠ (gh 29 0) → AI_11 b = AI b := fun b hb => by rw [eAI_11]; exact funext fun j => gup2_a _ _ hb
            have hv : gInv g gh R AR I AI_11 := gInv_plain hv (ro29 hv hx.1) kAI_11
            have key0 : (AI_11 (gh 29 0) 0).toInt = tb := by rw [eAI_11, gup2_e _ _ (by decide)]; exact iI_val ztb
            have fk : ∀ b, b ≠ gh 29 0 → AI_11 b = AI b := fun b hb => kAI_11 b hb
            refine lv_aload_n F.1 F.2.1 dX6_change_59 rfl (lv_at hl 1 rfl) ?_
            refine g_getR (ci := 6) (k := 12) F hH rfl (by decide) iX6 hx.1 (by decide) rfl (b := gh 29 0) r_10a k66 dX6_change_60 ?_
            refine z_iconst F dX6_change_63 ?_
            refine lv_iload_n F.1 F.2.1 dX6_change_64 rfl (lv_at hl 3 rfl) ?_
            have hx65 : 0 ≤ (1 : Int) ∧ (1 : Int) < ((5 : Nat) : Int) ∧ (1 : Int) ≤ 2147483647 := ⟨by omega, by omega, by omega⟩
            refine g_iast F hH hS r_10b hx65.1 hx65.2.1 hx65.2.2 dX6_change_65 (fun H locs hH hS => ?_)
            obtain ⟨AI_12, eAI_12⟩ : ∃ qQ, qQ = gup2 AI_11 (gh 29 0) ((1 : Int)).toNat (iI (ca)) := ⟨_, rfl⟩
            rw [← eAI_12] at hH
            have kAI_12 : ∀ b, b ≠ (gh 29 0) → AI_12 b = AI_11 b := fun b hb => by rw [eAI_12]; exact funext fun j => gup2_a _ _ hb
            have hv : gInv g gh R AR I AI_12 := gInv_plain hv (ro29 hv hx.1) kAI_12
            have key0 : (AI_12 (gh 29 0) 0).toInt = tb := by rw [eAI_12, gup2_k _ _ (by decide)]; exact key0
            have key1 : (AI_12 (gh 29 0) 1).toInt = ca := by rw [eAI_12, gup2_e _ _ (by decide)]; exact iI_val zca
            have fk : ∀ b, b ≠ gh 29 0 → AI_12 b = AI b := fun b hb => (kAI_12 b hb).trans (fk b hb)
            refine lv_aload_n F.1 F.2.1 dX6_change_66 rfl (lv_at hl 1 rfl) ?_
            refine g_getR (ci := 6) (k := 12) F hH rfl (by decide) iX6 hx.1 (by decide) rfl (b := gh 29 0) r_10a k66 dX6_change_67 ?_
            refine z_iconst F dX6_change_70 ?_
            have cut_82_12 : ∀ (k2 : Int) (H : Heap) (locs : List Loc) (ls : Array Slot), zr k2 → (k2 = if 1 < cl then cb else 0) → gH g I R J AI_12 AJ AR H → va_S (gA g) s.heap H locs → lv_has ls 8 [(7, .int (iI ((I y_8 2).toInt))), (0, .ref x), (1, .int (iI tb)), (2, .int (iI ca)), (3, .int (iI cb)), (4, .int (iI c3)), (5, .int (iI c4)), (6, .int (iI n))] → W p l e rmX6_changef s m ([.ref x, .int (iI tb), .int (iI ca), .int (iI cb), .int (iI c3), .int (iI c4), .int (iI n)] : List Value).toArray below meth c H locs 0 0 (MQ below (gQi g (fun (z : Int) (w : gS) => R = w.2.1 ∧ J = w.2.2.1 ∧ AJ = w.2.2.2.2.1 ∧ AR = w.2.2.2.2.2 ∧ (gInv g gh R AR (w.1) (w.2.2.2.1)) ∧ (rF g I (w.1)) ∧ (∀ b, b ≠ gh 37 0 → (w.1) b = I b) ∧ (∀ b, b ≠ gh 29 0 → b ≠ gh 0 (gh 37 0) → (w.2.2.2.1) b = AI b) ∧ (chP (I pA 2).toInt tb n z (I (gh 37 0) 3).toInt ((w.1) (gh 37 0) 3).toInt (AI (gh 0 (gh 37 0))) ((w.2.2.2.1) (gh 0 (gh 37 0))) (cky tb ca cb c3 c4 cl)))) ([.ref x, .int (iI tb), .int (iI ca), .int (iI cb), .int (iI c3), .int (iI c4), .int (iI n)] : List Value).toArray s 0 0 (gA g)) (F0 m 82 ls [.int (iI k2), .int (iI 2), .ref (gh 29 0)]) := by
              intro k2 H locs ls zk2 hk2 hH hS hl
              have hx82 : 0 ≤ (2 : Int) ∧ (2 : Int) < ((5 : Nat) : Int) ∧ (2 : Int) ≤ 2147483647 := ⟨by omega, by omega, by omega⟩
              refine g_iast F hH hS r_10b hx82.1 hx82.2.1 hx82.2.2 dX6_change_82 (fun H locs hH hS => ?_)
              obtain ⟨AI_14, eAI_14⟩ : ∃ qQ, qQ = gup2 AI_12 (gh 29 0) ((2 : Int)).toNat (iI (k2)) := ⟨_, rfl⟩
              rw [← eAI_14] at hH
              have kAI_14 : ∀ b, b ≠ (gh 29 0) → AI_14 b = AI_12 b := fun b hb => by rw [eAI_14]; exact funext fun j => gup2_a _ _ hb
              have hv : gInv g gh R AR I AI_14 := gInv_plain hv (ro29 hv hx.1) kAI_14
              have key0 : (AI_14 (gh 29 0) 0).toInt = tb := by rw [eAI_14, gup2_k _ _ (by decide)]; exact key0
              have key1 : (AI_14 (gh 29 0) 1).toInt = ca := by rw [eAI_14, gup2_k _ _ (by decide)]; exact key1
              have key2 : (AI_14 (gh 29 0) 2).toInt = k2 := by rw [eAI_14, gup2_e _ _ (by decide)]; exact iI_val zk2
              have fk : ∀ b, b ≠ gh 29 0 → AI_14 b = AI b := fun b hb => (kAI_14 b hb).trans (fk b hb)
              refine lv_aload_n F.1 F.2.1 dX6_change_83 rfl (lv_at hl 1 rfl) ?_
              refine g_getR (ci := 6) (k := 12) F hH rfl (by decide) iX6 hx.1 (by decide) rfl (b := gh 29 0) r_10a k66 dX6_change_84 ?_
              refine z_iconst F dX6_change_87 ?_
              have cut_100_14 : ∀ (k3 : Int) (H : Heap) (locs : List Loc) (ls : Array Slot), zr k3 → (k3 = if 2 < cl then c3 else 0) → gH g I R J AI_14 AJ AR H → va_S (gA g) s.heap H locs → lv_has ls 8 [(7, .int (iI ((I y_8 2).toInt))), (0, .ref x), (1, .int (iI tb)), (2, .int (iI ca)), (3, .int (iI cb)), (4, .int (iI c3)), (5, .int (iI c4)), (6, .int (iI n))] → W p l e rmX6_changef s m ([.ref x, .int (iI tb), .int (iI ca), .int (iI cb), .int (iI c3), .int (iI c4), .int (iI n)] : List Value).toArray below meth c H locs 0 0 (MQ below (gQi g (fun (z : Int) (w : gS) => R = w.2.1 ∧ J = w.2.2.1 ∧ AJ = w.2.2.2.2.1 ∧ AR = w.2.2.2.2.2 ∧ (gInv g gh R AR (w.1) (w.2.2.2.1)) ∧ (rF g I (w.1)) ∧ (∀ b, b ≠ gh 37 0 → (w.1) b = I b) ∧ (∀ b, b ≠ gh 29 0 → b ≠ gh 0 (gh 37 0) → (w.2.2.2.1) b = AI b) ∧ (chP (I pA 2).toInt tb n z (I (gh 37 0) 3).toInt ((w.1) (gh 37 0) 3).toInt (AI (gh 0 (gh 37 0))) ((w.2.2.2.1) (gh 0 (gh 37 0))) (cky tb ca cb c3 c4 cl)))) ([.ref x, .int (iI tb), .int (iI ca), .int (iI cb), .int (iI c3), .int (iI c4), .int (iI n)] : List Value).toArray s 0 0 (gA g)) (F0 m 100 ls [.int (iI k3), .int (iI 3), .ref (gh 29 0)]) := by
                intro k3 H locs ls zk3 hk3 hH hS hl
                have hx100 : 0 ≤ (3 : Int) ∧ (3 : Int) < ((5 : Nat) : Int) ∧ (3 : Int) ≤ 2147483647 := ⟨by omega, by omega, by omega⟩
                refine g_iast F hH hS r_10b hx100.1 hx100.2.1 hx100.2.2 dX6_change_100 (fun H locs hH hS => ?_)
                obtain ⟨AI_16, eAI_16⟩ : ∃ qQ, qQ = gup2 AI_14 (gh 29 0) ((3 : Int)).toNat (iI (k3)) := ⟨_, rfl⟩
                rw [← eAI_16] at hH
                have kAI_16 : ∀ b, b ≠ (gh 29 0) → AI_16 b = AI_14 b := fun b hb => by rw [eAI_16]; exact funext fun j => gup2_a _ _ hb
                have hv : gInv g gh R AR I AI_16 := gInv_plain hv (ro29 hv hx.1) kAI_16
                have key0 : (AI_16 (gh 29 0) 0).toInt = tb := by rw [eAI_16, gup2_k _ _ (by decide)]; exact key0
                have key1 : (AI_16 (gh 29 0) 1).toInt = ca := by rw [eAI_16, gup2_k _ _ (by decide)]; exact key1
                have key2 : (AI_16 (gh 29 0) 2).toInt = k2 := by rw [eAI_16, gup2_k _ _ (by decide)]; exact key2
                have key3 : (AI_16 (gh 29 0) 3).toInt = k3 := by rw [eAI_16, gup2_e _ _ (by decide)]; exact iI_val zk3
                have fk : ∀ b, b ≠ gh 29 0 → AI_16 b = AI b := fun b hb => (kAI_16 b hb).trans (fk b hb)
                refine lv_aload_n F.1 F.2.1 dX6_change_101 rfl (lv_at hl 1 rfl) ?_
                refine g_getR (ci := 6) (k := 12) F hH rfl (by decide) iX6 hx.1 (by decide) rfl (b := gh 29 0) r_10a k66 dX6_change_102 ?_
                refine z_iconst F dX6_change_105 ?_
                have cut_118_16 : ∀ (k4 : Int) (H : Heap) (locs : List Loc) (ls : Array Slot), zr k4 → (k4 = if 3 < cl then c4 else 0) → gH g I R J AI_16 AJ AR H → va_S (gA g) s.heap H locs → lv_has ls 8 [(7, .int (iI ((I y_8 2).toInt))), (0, .ref x), (1, .int (iI tb)), (2, .int (iI ca)), (3, .int (iI cb)), (4, .int (iI c3)), (5, .int (iI c4)), (6, .int (iI n))] → W p l e rmX6_changef s m ([.ref x, .int (iI tb), .int (iI ca), .int (iI cb), .int (iI c3), .int (iI c4), .int (iI n)] : List Value).toArray below meth c H locs 0 0 (MQ below (gQi g (fun (z : Int) (w : gS) => R = w.2.1 ∧ J = w.2.2.1 ∧ AJ = w.2.2.2.2.1 ∧ AR = w.2.2.2.2.2 ∧ (gInv g gh R AR (w.1) (w.2.2.2.1)) ∧ (rF g I (w.1)) ∧ (∀ b, b ≠ gh 37 0 → (w.1) b = I b) ∧ (∀ b, b ≠ gh 29 0 → b ≠ gh 0 (gh 37 0) → (w.2.2.2.1) b = AI b) ∧ (chP (I pA 2).toInt tb n z (I (gh 37 0) 3).toInt ((w.1) (gh 37 0) 3).toInt (AI (gh 0 (gh 37 0))) ((w.2.2.2.1) (gh 0 (gh 37 0))) (cky tb ca cb c3 c4 cl)))) ([.ref x, .int (iI tb), .int (iI ca), .int (iI cb), .int (iI c3), .int (iI c4), .int (iI n)] : List Value).toArray s 0 0 (gA g)) (F0 m 118 ls [.int (iI k4), .int (iI 4), .ref (gh 29 0)]) := by
                  intro k4 H locs ls zk4 hk4 hH hS hl
                  have hx118 : 0 ≤ (4 : Int) ∧ (4 : Int) < ((5 : Nat) : Int) ∧ (4 : Int) ≤ 2147483647 := ⟨by omega, by omega, by omega⟩
                  refine g_iast F hH hS r_10b hx118.1 hx118.2.1 hx118.2.2 dX6_change_118 (fun H locs hH hS => ?_)
                  obtain ⟨AI_18, eAI_18⟩ : ∃ qQ, qQ = gup2 AI_16 (gh 29 0) ((4 : Int)).toNat (iI (k4)) := ⟨_, rfl⟩
                  rw [← eAI_18] at hH
                  have kAI_18 : ∀ b, b ≠ (gh 29 0) → AI_18 b = AI_16 b := fun b hb => by rw [eAI_18]; exact funext fun j => gup2_a _ _ hb
                  have hv : gInv g gh R AR I AI_18 := gInv_plain hv (ro29 hv hx.1) kAI_18
                  have key0 : (AI_18 (gh 29 0) 0).toInt = tb := by rw [eAI_18, gup2_k _ _ (by decide)]; exact key0
                  have key1 : (AI_18 (gh 29 0) 1).toInt = ca := by rw [eAI_18, gup2_k _ _ (by decide)]; exact key1
                  have key2 : (AI_18 (gh 29 0) 2).toInt = k2 := by rw [eAI_18, gup2_k _ _ (by decide)]; exact key2
                  have key3 : (AI_18 (gh 29 0) 3).toInt = k3 := by rw [eAI_18, gup2_k _ _ (by decide)]; exact key3
                  have key4 : (AI_18 (gh 29 0) 4).toInt = k4 := by rw [eAI_18, gup2_e _ _ (by decide)]; exact iI_val zk4
                  have fk : ∀ b, b ≠ gh 29 0 → AI_18 b = AI b := fun b hb => (kAI_18 b hb).trans (fk b hb)
                  refine lv_aload_n F.1 F.2.1 dX6_change_119 rfl (lv_at hl 1 rfl) ?_
                  obtain ⟨r_19a, r_19b, r_19c, r_19d⟩ := gR_x8 hv hx.1
                  refine g_getR (ci := 6) (k := 8) F hH rfl (by decide) iX6 hx.1 (by decide) rfl (b := gh 37 0) r_19a k53 dX6_change_120 ?_
                  refine lv_aload_n F.1 F.2.1 dX6_change_123 rfl (lv_at hl 1 rfl) ?_
                  refine g_getR (ci := 6) (k := 12) F hH rfl (by decide) iX6 hx.1 (by decide) rfl (b := gh 29 0) r_10a k66 dX6_change_124 ?_
                  refine lv_iload F.1 F.2.1 dX6_change_127 (lv_at hl 7 rfl) ?_
                  obtain ⟨b_20a, b_20b, b_20c, b_20d, b_20e, b_20f, b_20g, b_20h⟩ := gI_rows hv r_19b
                  refine g_calli (g_runV (As := [.ref (gh 29 0), .int (iI n)]) (rest := []) (ci := 4) F hl.1 hH hS hz (c_X4_addAmountf l g gh I R J AI_18 AJ AR (gh 37 0) (gh 29 0) n zn hv r_19b r_10b (ro29 hv hx.1) (fun _ => by omega) (by first | exact hfz | omega)) (cwV 2 F.2.2.2.2.1 gX6_change_X4_addAmount rfl rfl rfl hdX4_addAmount ⟨Nat.le_of_ble_eq_true rfl, Nat.le_of_ble_eq_true rfl⟩) r_19b (by decide) rfl rfl rfl (Nat.le_of_ble_eq_true rfl) dX6_change_129 ⟨Nat.zero_le _, Nat.zero_le _⟩) hS (fun v_27 I_21 R_22 J_23 AI_24 AJ_25 AR_26 H locs zv_27 hp_28 hH hS => ?_)
                  dsimp only at hp_28
                  obtain ⟨rfl, rfl, rfl, rfl, hv, fi9, fa9, qad⟩ := hp_28
                  have rf := rF_t rf (rF_o r_19b fi9)
                  have u_29p : I_21 pA = I pA := rf pA 2 hx.2.2.1 (by decide)
                  have u_29p1 : (I_21 pA 1).toInt = (I pA 1).toInt := by rw [u_29p]
                  have u_29p2 : (I_21 pA 2).toInt = (I pA 2).toInt := by rw [u_29p]
                  have hne : gh 0 (gh 37 0) ≠ gh 29 0 := fun q => by have q9 := (hv.1 _ (gR_x8 hv hx.1).2.1).1.2.2.1; rw [q, ro29 hv hx.1] at q9; exact absurd q9 (by decide)
                  have qad : addP 5 40 (AI (gh 0 (gh 37 0))) (AI_24 (gh 0 (gh 37 0))) (I (gh 37 0) 3).toInt (I_21 (gh 37 0) 3).toInt (cky tb ca cb c3 c4 cl) n v_27 := by
                    have q := qad
                    rw [(gR_x8 hv hx.1).2.2.2, (gR_x8 hv hx.1).2.2.1, fk _ hne] at q
                    exact addP_c (cky_of key0 key1 (key2.trans hk2) (key3.trans hk3) (key4.trans hk4)) q
                  have hz01 : v_27 = 0 ∨ v_27 = 1 := by rcases qad with ⟨_, _, _, ⟨_, h, _⟩ | ⟨_, _, h, _⟩ | ⟨_, _, h, _⟩⟩ | ⟨_, _, _, h, _⟩ <;> omega
                  refine z_if_eq (tgt := 145) F dX6_change_132 (by decide) zv_27 (fun c_30 => ?_) (fun c_30 => ?_)
                  · refine z_iconst F dX6_change_145 ?_
                    exact g_iret F hr hlk hH hS hz ⟨by decide, by decide⟩ ⟨rfl, rfl, rfl, rfl, hv, rf, fi9, fun b h1 h2 => (fa9 b h2).trans (fk b h1), Or.inr ⟨⟨by omega, by omega, by omega, by omega, by omega⟩, _, qad, by (try dsimp only); omega⟩⟩ dX6_change_146
                  · refine lv_aload_n F.1 F.2.1 dX6_change_135 rfl (lv_at hl 1 rfl) ?_
                    refine g_getR (ci := 6) (k := 8) F hH rfl (by decide) iX6 hx.1 (by decide) rfl (b := gh 37 0) r_19a k53 dX6_change_136 ?_
                    refine g_getI (ci := 4) (k := 3) F hH rfl (by decide) iX4 r_19b (by decide) rfl k99 dX6_change_139 ?_
                    obtain ⟨b_31a, b_31b, b_31c, b_31d, b_31e, b_31f, b_31g, b_31h⟩ := gI_rows hv r_19b
                    refine z_goto (tgt := 146) F dX6_change_142 (by decide) ?_
                    exact g_iret F hr hlk hH hS hz (zr_t _) ⟨rfl, rfl, rfl, rfl, hv, rf, fi9, fun b h1 h2 => (fa9 b h2).trans (fk b h1), Or.inr ⟨⟨by omega, by omega, by omega, by omega, by omega⟩, _, qad, by (try dsimp only); omega⟩⟩ dX6_change_146
                refine lv_iload F.1 F.2.1 dX6_change_106 (lv_at hl 0 rfl) ?_
                refine z_iconst F dX6_change_108 ?_
                refine z_icmp_le (tgt := 117) F dX6_change_109 (by decide) (zr_t _) ⟨by decide, by decide⟩ (fun c_32 => ?_) (fun c_32 => ?_)
                · refine z_iconst F dX6_change_117 ?_
                  exact cut_118_16 0 H locs ls ⟨by decide, by decide⟩ (by first | exact (if_neg (by omega)).symm | exact (if_pos (by omega)).symm) hH hS (lv_sub hl [0, 1, 2, 3, 4, 5, 6, 7] rfl)
                · refine lv_iload F.1 F.2.1 dX6_change_112 (lv_at hl 6 rfl) ?_
                  refine z_goto (tgt := 118) F dX6_change_114 (by decide) ?_
                  exact cut_118_16 c4 H locs ls zc4 (by first | exact (if_neg (by omega)).symm | exact (if_pos (by omega)).symm) hH hS (lv_sub hl [0, 1, 2, 3, 4, 5, 6, 7] rfl)
              refine lv_iload F.1 F.2.1 dX6_change_88 (lv_at hl 0 rfl) ?_
              refine z_iconst F dX6_change_90 ?_
              refine z_icmp_le (tgt := 99) F dX6_change_91 (by decide) (zr_t _) ⟨by decide, by decide⟩ (fun c_33 => ?_) (fun c_33 => ?_)
              · refine z_iconst F dX6_change_99 ?_
                exact cut_100_14 0 H locs ls ⟨by decide, by decide⟩ (by first | exact (if_neg (by omega)).symm | exact (if_pos (by omega)).symm) hH hS (lv_sub hl [0, 1, 2, 3, 4, 5, 6, 7] rfl)
              · refine lv_iload F.1 F.2.1 dX6_change_94 (lv_at hl 5 rfl) ?_
                refine z_goto (tgt := 100) F dX6_change_96 (by decide) ?_
                exact cut_100_14 c3 H locs ls zc3 (by first | exact (if_neg (by omega)).symm | exact (if_pos (by omega)).symm) hH hS (lv_sub hl [0, 1, 2, 3, 4, 5, 6, 7] rfl)
            refine lv_iload F.1 F.2.1 dX6_change_71 (lv_at hl 0 rfl) ?_
            refine z_iconst F dX6_change_73 ?_
            refine z_icmp_le (tgt := 81) F dX6_change_74 (by decide) (zr_t _) ⟨by decide, by decide⟩ (fun c_34 => ?_) (fun c_34 => ?_)
            · refine z_iconst F dX6_change_81 ?_
              exact cut_82_12 0 H locs ls ⟨by decide, by decide⟩ (by first | exact (if_neg (by omega)).symm | exact (if_pos (by omega)).symm) hH hS (lv_sub hl [0, 1, 2, 3, 4, 5, 6, 7] rfl)
            · refine lv_iload_n F.1 F.2.1 dX6_change_77 rfl (lv_at hl 4 rfl) ?_
              refine z_goto (tgt := 82) F dX6_change_78 (by decide) ?_
              exact cut_82_12 cb H locs ls zcb (by first | exact (if_neg (by omega)).symm | exact (if_pos (by omega)).symm) hH hS (lv_sub hl [0, 1, 2, 3, 4, 5, 6, 7] rfl)
          · refine z_iconst F dX6_change_36 ?_
            exact g_iret F hr hlk hH hS hz ⟨by decide, by decide⟩ ⟨rfl, rfl, rfl, rfl, hv, rf, fun _ _ => rfl, fun _ _ _ => rfl, Or.inl ⟨by omega, rfl, rfl, rfl⟩⟩ dX6_change_37
    · refine z_iconst F dX6_change_15 ?_
      exact g_iret F hr hlk hH hS hz ⟨by decide, by decide⟩ ⟨rfl, rfl, rfl, rfl, hv, rf, fun _ _ => rfl, fun _ _ _ => rfl, Or.inl ⟨by omega, rfl, rfl, rfl⟩⟩ dX6_change_16
end
