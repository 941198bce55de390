def rmX0_tellsSecondf : Room := { frames := 0, cells := 0, slots := 0, locals := 0 }
set_option maxHeartbeats 4000000 in
set_option maxRecDepth 100000 in
/-- whether a pair tells this column -/
theorem c_X0_tellsSecondf (l : Launch) (g : gG) (gh : gGh) (I : gI) (R : gR) (J : gJ) (AI : gI) (AJ : gJ) (AR : gR) (a : Nat) (col : Int) (zcol : zr col) (hv : gInv g gh R AR I AI) (ha : gO g a 0) : gMet l g yX0_tellsSecond wsX0_tellsSecond rmX0_tellsSecondf [.ref a, .int (iI col)] (I, R, J, AI, AJ, AR) (gQi g (fun (z : Int) (w : gS) => I = w.1 ∧ R = w.2.1 ∧ J = w.2.2.1 ∧ AI = w.2.2.2.1 ∧ AJ = w.2.2.2.2.1 ∧ AR = w.2.2.2.2.2 ∧ (z = 0 ∨ z = 1) ∧ (tIz z (∃ j : Nat, (j : Int) < (I a 8).toInt ∧ (AI (gh 3 a) (2 * j + 1)).toInt = col)))) := by
  refine gStart (cc := cX0_tellsSecond) (maxL := 3) (ret := (some (.boolean))) (by decide) rfl (Nat.le_of_ble_eq_true rfl) ?_
  intro p e s m below meth c ls F hr hlk hH hz hS hl
  have hl : lv_has ls 3 [(0, .ref a), (1, .int (iI col))] := hl
  have hS : va_S (gA g) s.heap s.heap [] := hS
  obtain ⟨H, hHe⟩ : ∃ H : Heap, H = s.heap := ⟨_, rfl⟩
  obtain ⟨locs, hlo⟩ : ∃ k : List Loc, k = [] := ⟨_, rfl⟩
  have hH : gH g I R J AI AJ AR H := by rw [hHe]; exact hH
  have hS : va_S (gA g) s.heap H locs := by rw [hHe, hlo]; exact hS
  suffices hw : W p l e rmX0_tellsSecondf s m ([.ref a, .int (iI col)] : List Value).toArray below meth c H locs 0 0 (MQ below (gQi g (fun (z : Int) (w : gS) => I = w.1 ∧ R = w.2.1 ∧ J = w.2.2.1 ∧ AI = w.2.2.2.1 ∧ AJ = w.2.2.2.2.1 ∧ AR = w.2.2.2.2.2 ∧ (z = 0 ∨ z = 1) ∧ (tIz z (∃ j : Nat, (j : Int) < (I a 8).toInt ∧ (AI (gh 3 a) (2 * j + 1)).toInt = col)))) ([.ref a, .int (iI col)] : List Value).toArray s 0 0 (gA g)) (F0 m 0 ls []) by
    rw [hHe, hlo] at hw; exact hw
  clear hHe hlo
  have iX0 : ∀ w ∈ u_ws RX0 TX0 15, w ∈ wsX0_tellsSecond := (by decide +kernel)
  have k34 : Cond.fieldLink RX0 34 (TX0 8).1 (TX0 8).2.1 (TX0 8).2.2.1 ∈ wsX0_tellsSecond := List.mem_of_getElem? (i := 1) rfl
  have k11 : Cond.fieldLink RX0 11 (TX0 7).1 (TX0 7).2.1 (TX0 7).2.2.1 ∈ wsX0_tellsSecond := List.mem_of_getElem? (i := 2) rfl
  refine z_iconst F dX0_tellsSecond_0 ?_
  refine lv_istore_n (lv' := [(2, .int (iI 0)), (0, .ref a), (1, .int (iI col))]) F.1 F.2.1 dX0_tellsSecond_1 rfl hl (by decide) rfl (fun ls hl => ?_)
  have cut_2_0 : ∀ (NN : Nat) (i : Int) (H : Heap) (locs : List Loc) (ls : Array Slot), zr i → (0 ≤ i ∧ i ≤ 8) → (∀ j : Nat, (j : Int) < i → (AI (gh 3 a) (2 * j + 1)).toInt ≠ col) → (8 - i) < ((NN : Nat) : Int) → gH g I R J AI AJ AR H → va_S (gA g) s.heap H locs → lv_has ls 3 [(2, .int (iI i)), (0, .ref a), (1, .int (iI col))] → W p l e rmX0_tellsSecondf s m ([.ref a, .int (iI col)] : List Value).toArray below meth c H locs 0 0 (MQ below (gQi g (fun (z : Int) (w : gS) => I = w.1 ∧ R = w.2.1 ∧ J = w.2.2.1 ∧ AI = w.2.2.2.1 ∧ AJ = w.2.2.2.2.1 ∧ AR = w.2.2.2.2.2 ∧ (z = 0 ∨ z = 1) ∧ (tIz z (∃ j : Nat, (j : Int) < (I a 8).toInt ∧ (AI (gh 3 a) (2 * j + 1)).toInt = col)))) ([.ref a, .int (iI col)] : List Value).toArray s 0 0 (gA g)) (F0 m 2 ls []) := by
    intro NN2
    induction NN2 with
    | zero =>
      intro i H locs ls zi hi hno hm2 hH hS hl
      exact absurd hm2 (by omega)
    | succ NN2 ih2 =>
      intro i H locs ls zi hi hno hm2 hH hS hl
      refine lv_iload_n F.1 F.2.1 dX0_tellsSecond_2 rfl (lv_at hl 0 rfl) ?_
      refine lv_aload_n F.1 F.2.1 dX0_tellsSecond_3 rfl (lv_at hl 1 rfl) ?_
      refine g_getI (ci := 0) (k := 8) F hH rfl (by decide) iX0 ha (by decide) rfl k34 dX0_tellsSecond_4 ?_
      have b_2 := gI_line hv ha
      unfold vLineI at b_2
      refine z_icmp_ge (tgt := 32) F dX0_tellsSecond_7 (by decide) zi (zr_t _) (fun c_3 => ?_) (fun c_3 => ?_)
      · refine z_iconst F dX0_tellsSecond_32 ?_
        exact g_zret F hr hlk hH hS hz (by omega) ⟨rfl, rfl, rfl, rfl, rfl, rfl, by first | omega | rfl | (dsimp only; omega), tIz_f (fun ⟨j, h1, h2⟩ => hno j (by omega) h2)⟩ dX0_tellsSecond_33
      · refine lv_aload_n F.1 F.2.1 dX0_tellsSecond_10 rfl (lv_at hl 1 rfl) ?_
        obtain ⟨r_4a, r_4b⟩ := gR_parts hv ha
        refine g_getR (ci := 0) (k := 7) F hH rfl (by decide) iX0 ha (by decide) rfl (b := gh 3 a) r_4a k11 dX0_tellsSecond_11 ?_
        refine z_iconst F dX0_tellsSecond_14 ?_
        refine lv_iload_n F.1 F.2.1 dX0_tellsSecond_15 rfl (lv_at hl 0 rfl) ?_
        refine z_imul F dX0_tellsSecond_16 ?_
        refine z_iconst F dX0_tellsSecond_17 ?_
        refine z_iadd F dX0_tellsSecond_18 ?_
        have hx19 : 0 ≤ ((2 * i) + 1) ∧ ((2 * i) + 1) < ((32 : Nat) : Int) ∧ ((2 * i) + 1) ≤ 2147483647 := ⟨by omega, by omega, by omega⟩
        refine g_iald F hH r_4b hx19.1 hx19.2.1 hx19.2.2 dX0_tellsSecond_19 ?_
        refine z_name (fun v_5 ev_5 => ?_)
        have zv_5 : zr v_5 := by rw [ev_5]; exact zr_t _
        have t15 : (AI (gh 3 a) (2 * i.toNat + 1)).toInt = v_5 := by rw [ev_5]; rw [show (2 * i + 1).toNat = 2 * i.toNat + 1 by omega]
        refine lv_iload_n F.1 F.2.1 dX0_tellsSecond_20 rfl (lv_at hl 2 rfl) ?_
        refine z_icmp_ne (tgt := 26) F dX0_tellsSecond_21 (by decide) zv_5 zcol (fun c_6 => ?_) (fun c_6 => ?_)
        · refine z_iinc (lv' := [(2, .int (iI (i + 1))), (0, .ref a), (1, .int (iI col))]) F dX0_tellsSecond_26 hl (k := 0) rfl (by decide) rfl (fun ls hl => ?_)
          refine z_goto (tgt := 2) F dX0_tellsSecond_29 (by decide) ?_
          exact ih2 (i + 1) H locs ls ⟨by omega, by omega⟩ (by omega) (by first | exact (fun k hk => absurd hk (by omega)) | exact ix_step (P := fun j => (AI (gh 3 a) (2 * j + 1)).toInt ≠ col) hno (by omega) (by omega)) (by omega) hH hS (lv_sub hl [0, 1, 2] rfl)
        · refine z_iconst F dX0_tellsSecond_24 ?_
          exact g_zret F hr hlk hH hS hz (by omega) ⟨rfl, rfl, rfl, rfl, rfl, rfl, by first | omega | rfl | (dsimp only; omega), tIz_t ⟨i.toNat, by omega, by omega⟩⟩ dX0_tellsSecond_25
  exact cut_2_0 (((8 - 0) + 1 : Int).toNat) 0 H locs ls ⟨by decide, by decide⟩ (by omega) (by first | exact (fun k hk => absurd hk (by omega)) | exact ix_step (P := fun j => (AI (gh 3 a) (2 * j + 1)).toInt ≠ col) hno (by omega) (by omega)) (by omega) hH hS (lv_sub hl [0, 1, 2] rfl)
