section
def rmX0_holdsf : Room := { frames := 0, cells := 0, slots := 0, locals := 0 }
set_option maxHeartbeats 4000000 in
set_option maxRecDepth 100000 in
/-- whether the tests hold -/
theorem c_X0_holdsf (l : Launch) (g : gG) (gh : gGh) (n : Nat) (lc : LC) (t : Tup) (I : gI) (R : gR) (J : gJ) (AI : gI) (AJ : gJ) (AR : gR) (a : Nat) (o : Nat) (fr : Int) (zfr : zr fr) (hv : gInv g gh R AR I AI) (ha : gO g a 0) (ho : gAr g o 9 n) (hkd : (I a 0).toInt = 1) (hn : n ≤ 1440) (h2 : 0 ≤ fr) (h3 : fr + 4 ≤ (n : Int)) (hlc : lnC (I a) (AI (gh 3 a)) lc) (hk1 : lc.1 0 = 1) (ht : ∀ j, j < 4 → AI o (fr.toNat + j) = tg t j) : gMet l g yX0_holds wsX0_holds rmX0_holdsf [.ref a, .ref o, .int (iI fr)] (I, R, J, AI, AJ, AR) (gQi g (fun (z : Int) (w : gS) => I = w.1 ∧ R = w.2.1 ∧ J = w.2.2.1 ∧ AI = w.2.2.2.1 ∧ AJ = w.2.2.2.2.1 ∧ AR = w.2.2.2.2.2 ∧ (z = 0 ∨ z = 1) ∧ (tIz z (hldP lc t)))) := by
  refine gStart (cc := cX0_holds) (maxL := 8) (ret := (some (.boolean))) (by decide) rfl (Nat.le_of_ble_eq_true rfl) ?_
  intro p e s m below meth c ls F hr hlk hH hz hS hl
  have hl : lv_has ls 8 [(0, .ref a), (1, .ref o), (2, .int (iI fr))] := hl
  have hS : va_S (gA g) s.heap s.heap [] := hS
  obtain ⟨H, hHe⟩ : ∃ H : Heap, H = s.heap := ⟨_, rfl⟩
  obtain ⟨locs, hlo⟩ : ∃ k : List Loc, k = [] := ⟨_, rfl⟩
  have hH : gH g I R J AI AJ AR H := by rw [hHe]; exact hH
  have hS : va_S (gA g) s.heap H locs := by rw [hHe, hlo]; exact hS
  suffices hw : W p l e rmX0_holdsf s m ([.ref a, .ref o, .int (iI fr)] : List Value).toArray below meth c H locs 0 0 (MQ below (gQi g (fun (z : Int) (w : gS) => I = w.1 ∧ R = w.2.1 ∧ J = w.2.2.1 ∧ AI = w.2.2.2.1 ∧ AJ = w.2.2.2.2.1 ∧ AR = w.2.2.2.2.2 ∧ (z = 0 ∨ z = 1) ∧ (tIz z (hldP lc t)))) ([.ref a, .ref o, .int (iI fr)] : List Value).toArray s 0 0 (gA g)) (F0 m 0 ls []) by
    rw [hHe, hlo] at hw; exact hw
  clear hHe hlo
  have h8c := hlc.2.1 (Or.inl hk1)
  have iX0 : ∀ w ∈ u_ws RX0 TX0 15, w ∈ wsX0_holds := (by decide +kernel)
  have k34 : Cond.fieldLink RX0 34 (TX0 8).1 (TX0 8).2.1 (TX0 8).2.2.1 ∈ wsX0_holds := List.mem_of_getElem? (i := 1) rfl
  have k11 : Cond.fieldLink RX0 11 (TX0 7).1 (TX0 7).2.1 (TX0 7).2.2.1 ∈ wsX0_holds := List.mem_of_getElem? (i := 2) rfl
  refine z_iconst F dX0_holds_0 ?_
  refine lv_istore_n (lv' := [(3, .int (iI 0)), (0, .ref a), (1, .ref o), (2, .int (iI fr))]) F.1 F.2.1 dX0_holds_1 rfl hl (by decide) rfl (fun ls hl => ?_)
  have cut_2_0 : ∀ (NN : Nat) (k : Int) (H : Heap) (locs : List Loc) (ls : Array Slot), zr k → (0 ≤ k ∧ k ≤ 8) → (∀ j : Nat, (j : Int) < k → tstP lc j t) → (8 - k) < ((NN : Nat) : Int) → gH g I R J AI AJ AR H → va_S (gA g) s.heap H locs → lv_has ls 8 [(3, .int (iI k)), (0, .ref a), (1, .ref o), (2, .int (iI fr))] → W p l e rmX0_holdsf s m ([.ref a, .ref o, .int (iI fr)] : List Value).toArray below meth c H locs 0 0 (MQ below (gQi g (fun (z : Int) (w : gS) => I = w.1 ∧ R = w.2.1 ∧ J = w.2.2.1 ∧ AI = w.2.2.2.1 ∧ AJ = w.2.2.2.2.1 ∧ AR = w.2.2.2.2.2 ∧ (z = 0 ∨ z = 1) ∧ (tIz z (hldP lc t)))) ([.ref a, .ref o, .int (iI fr)] : List Value).toArray s 0 0 (gA g)) (F0 m 2 ls []) := by
    intro NN2
    induction NN2 with
    | zero =>
      intro k H locs ls zk hk hno hm2 hH hS hl
      exact absurd hm2 (by omega)
    | succ NN2 ih2 =>
      intro k H locs ls zk hk hno hm2 hH hS hl
      refine lv_iload_n F.1 F.2.1 dX0_holds_2 rfl (lv_at hl 0 rfl) ?_
      refine lv_aload_n F.1 F.2.1 dX0_holds_3 rfl (lv_at hl 1 rfl) ?_
      refine g_getI (ci := 0) (k := 8) F hH rfl (by decide) iX0 ha (by decide) rfl k34 dX0_holds_4 ?_
      have b_2 := gI_line hv ha
      unfold vLineI at b_2
      refine z_icmp_ge (tgt := 128) F dX0_holds_7 (by decide) zk (zr_t _) (fun c_3 => ?_) (fun c_3 => ?_)
      · refine z_iconst F dX0_holds_128 ?_
        exact g_zret F hr hlk hH hS hz (by omega) ⟨rfl, rfl, rfl, rfl, rfl, rfl, by first | omega | rfl | (dsimp only; omega), tIz_t (fun j hj => hno j (by omega))⟩ dX0_holds_129
      · refine lv_iload_n F.1 F.2.1 dX0_holds_10 rfl (lv_at hl 0 rfl) ?_
        refine z_iconst F dX0_holds_11 ?_
        refine z_imul F dX0_holds_12 ?_
        refine lv_istore (lv' := [(4, .int (iI (k * 4))), (3, .int (iI k)), (0, .ref a), (1, .ref o), (2, .int (iI fr))]) F.1 F.2.1 dX0_holds_13 hl (by decide) rfl (fun ls hl => ?_)
        refine lv_aload_n F.1 F.2.1 dX0_holds_15 rfl (lv_at hl 3 rfl) ?_
        refine lv_iload_n F.1 F.2.1 dX0_holds_16 rfl (lv_at hl 4 rfl) ?_
        refine lv_aload_n F.1 F.2.1 dX0_holds_17 rfl (lv_at hl 2 rfl) ?_
        obtain ⟨r_4a, r_4b⟩ := gR_parts hv ha
        refine g_getR (ci := 0) (k := 7) F hH rfl (by decide) iX0 ha (by decide) rfl (b := gh 3 a) r_4a k11 dX0_holds_18 ?_
        refine lv_iload F.1 F.2.1 dX0_holds_21 (lv_at hl 0 rfl) ?_
        have hx23 : 0 ≤ (k * 4) ∧ (k * 4) < ((32 : Nat) : Int) ∧ (k * 4) ≤ 2147483647 := ⟨by omega, by omega, by omega⟩
        refine g_iald F hH r_4b hx23.1 hx23.2.1 hx23.2.2 dX0_holds_23 ?_
        refine z_name (fun v_5 ev_5 => ?_)
        have zv_5 : zr v_5 := by rw [ev_5]; exact zr_t _
        have qa := (gP_line hv ha).1 hkd k.toNat (by omega)
        rw [show 4 * k.toNat = (k * 4).toNat from by omega, show (k * 4).toNat + 2 = ((k * 4) + 2).toNat from by omega, ← ev_5] at qa
        have hpk := hlc.2.2.2.1 hk1 k.toNat (by omega)
        have hc23 : v_5 = lc.2 k.toNat 0 := by rw [ev_5, ← hpk.1]; congr 2; omega
        refine z_iadd F dX0_holds_24 ?_
        have hx25 : 0 ≤ (fr + v_5) ∧ (fr + v_5) < ((n : Nat) : Int) ∧ (fr + v_5) ≤ 2147483647 := ⟨by omega, by omega, by omega⟩
        refine g_iald F hH ho hx25.1 hx25.2.1 hx25.2.2 dX0_holds_25 ?_
        refine z_name (fun v_6 ev_6 => ?_)
        have zv_6 : zr v_6 := by rw [ev_6]; exact zr_t _
        refine lv_istore (lv' := [(5, .int (iI v_6)), (4, .int (iI (k * 4))), (3, .int (iI k)), (0, .ref a), (1, .ref o), (2, .int (iI fr))]) F.1 F.2.1 dX0_holds_26 hl (by decide) rfl (fun ls hl => ?_)
        have hcv : v_6 = tu t (lc.2 k.toNat 0).toNat := by unfold tu; rw [← hc23, ← ht _ (by omega), ev_6]; congr 2; omega
        refine lv_aload_n F.1 F.2.1 dX0_holds_28 rfl (lv_at hl 3 rfl) ?_
        refine g_getR (ci := 0) (k := 7) F hH rfl (by decide) iX0 ha (by decide) rfl (b := gh 3 a) r_4a k11 dX0_holds_29 ?_
        refine lv_iload F.1 F.2.1 dX0_holds_32 (lv_at hl 1 rfl) ?_
        refine z_iconst F dX0_holds_34 ?_
        refine z_iadd F dX0_holds_35 ?_
        have hx36 : 0 ≤ ((k * 4) + 2) ∧ ((k * 4) + 2) < ((32 : Nat) : Int) ∧ ((k * 4) + 2) ≤ 2147483647 := ⟨by omega, by omega, by omega⟩
        refine g_iald F hH r_4b hx36.1 hx36.2.1 hx36.2.2 dX0_holds_36 ?_
        refine z_name (fun v_7 ev_7 => ?_)
        have zv_7 : zr v_7 := by rw [ev_7]; exact zr_t _
        rw [← ev_7] at qa
        have hc36 : v_7 = lc.2 k.toNat 2 := by rw [ev_7, ← hpk.2.2.1]; congr 2; omega
        refine z_iconst F dX0_holds_37 ?_
        refine z_icmp_ne (tgt := 53) F dX0_holds_38 (by decide) zv_7 ⟨by decide, by decide⟩ (fun c_8 => ?_) (fun c_8 => ?_)
        · refine lv_aload_n F.1 F.2.1 dX0_holds_53 rfl (lv_at hl 4 rfl) ?_
          refine lv_iload_n F.1 F.2.1 dX0_holds_54 rfl (lv_at hl 5 rfl) ?_
          refine lv_aload_n F.1 F.2.1 dX0_holds_55 rfl (lv_at hl 3 rfl) ?_
          refine g_getR (ci := 0) (k := 7) F hH rfl (by decide) iX0 ha (by decide) rfl (b := gh 3 a) r_4a k11 dX0_holds_56 ?_
          refine lv_iload F.1 F.2.1 dX0_holds_59 (lv_at hl 1 rfl) ?_
          refine z_iconst F dX0_holds_61 ?_
          refine z_iadd F dX0_holds_62 ?_
          have hx63 : 0 ≤ ((k * 4) + 2) ∧ ((k * 4) + 2) < ((32 : Nat) : Int) ∧ ((k * 4) + 2) ≤ 2147483647 := ⟨by omega, by omega, by omega⟩
          refine g_iald F hH r_4b hx63.1 hx63.2.1 hx63.2.2 dX0_holds_63 ?_
          refine z_name (fun v_9 ev_9 => ?_)
          have zv_9 : zr v_9 := by rw [ev_9]; exact zr_t _
          have qb := (gP_line hv ha).1 hkd k.toNat (by omega)
          rw [show 4 * k.toNat = (k * 4).toNat from by omega, show (k * 4).toNat + 2 = ((k * 4) + 2).toNat from by omega, ← ev_9] at qb
          refine z_iadd F dX0_holds_64 ?_
          have hx65 : 0 ≤ (fr + v_9) ∧ (fr + v_9) < ((n : Nat) : Int) ∧ (fr + v_9) ≤ 2147483647 := ⟨by omega, by omega, by omega⟩
          refine g_iald F hH ho hx65.1 hx65.2.1 hx65.2.2 dX0_holds_65 ?_
          refine z_name (fun v_10 ev_10 => ?_)
          have zv_10 : zr v_10 := by rw [ev_10]; exact zr_t _
          have hcw : v_10 = (if lc.2 k.toNat 2 = -1 then lc.2 k.toNat 3 else tu t (lc.2 k.toNat 2).toNat) := by rw [if_neg (by omega)]; unfold tu; rw [← ht _ (by omega), ev_10, ← hpk.2.2.1]; congr 2; omega
          refine lv_istore (lv' := [(6, .int (iI v_10)), (5, .int (iI v_6)), (4, .int (iI (k * 4))), (3, .int (iI k)), (0, .ref a), (1, .ref o), (2, .int (iI fr))]) F.1 F.2.1 dX0_holds_66 hl (by decide) rfl (fun ls hl => ?_)
          refine lv_aload_n F.1 F.2.1 dX0_holds_68 rfl (lv_at hl 4 rfl) ?_
          refine g_getR (ci := 0) (k := 7) F hH rfl (by decide) iX0 ha (by decide) rfl (b := gh 3 a) r_4a k11 dX0_holds_69 ?_
          refine lv_iload F.1 F.2.1 dX0_holds_72 (lv_at hl 2 rfl) ?_
          refine z_iconst F dX0_holds_74 ?_
          refine z_iadd F dX0_holds_75 ?_
          have hx76 : 0 ≤ ((k * 4) + 1) ∧ ((k * 4) + 1) < ((32 : Nat) : Int) ∧ ((k * 4) + 1) ≤ 2147483647 := ⟨by omega, by omega, by omega⟩
          refine g_iald F hH r_4b hx76.1 hx76.2.1 hx76.2.2 dX0_holds_76 ?_
          refine z_name (fun v_11 ev_11 => ?_)
          have zv_11 : zr v_11 := by rw [ev_11]; exact zr_t _
          have hc76 : v_11 = lc.2 k.toNat 1 := by rw [ev_11, ← hpk.2.1]; congr 2; omega
          have htst : tstP lc k.toNat t ↔ tst3 v_6 v_11 v_10 := by unfold tstP; rw [hcv, hcw, hc76]
          clear hcw
          refine lv_istore (lv' := [(7, .int (iI v_11)), (6, .int (iI v_10)), (5, .int (iI v_6)), (4, .int (iI (k * 4))), (3, .int (iI k)), (0, .ref a), (1, .ref o), (2, .int (iI fr))]) F.1 F.2.1 dX0_holds_77 hl (by decide) rfl (fun ls hl => ?_)
          refine lv_iload F.1 F.2.1 dX0_holds_79 (lv_at hl 0 rfl) ?_
          refine z_bipush F dX0_holds_81 (by decide) ?_
          refine z_icmp_ne (tgt := 96) F dX0_holds_83 (by decide) zv_11 ⟨by decide, by decide⟩ (fun c_12 => ?_) (fun c_12 => ?_)
          · refine lv_iload F.1 F.2.1 dX0_holds_96 (lv_at hl 0 rfl) ?_
            refine z_bipush F dX0_holds_98 (by decide) ?_
            refine z_icmp_ne (tgt := 113) F dX0_holds_100 (by decide) zv_11 ⟨by decide, by decide⟩ (fun c_13 => ?_) (fun c_13 => ?_)
            · refine lv_iload F.1 F.2.1 dX0_holds_113 (lv_at hl 2 rfl) ?_
              refine lv_iload F.1 F.2.1 dX0_holds_115 (lv_at hl 1 rfl) ?_
              refine z_icmp_gt (tgt := 122) F dX0_holds_117 (by decide) zv_6 zv_10 (fun c_14 => ?_) (fun c_14 => ?_)
              · refine z_iinc (lv' := [(3, .int (iI (k + 1))), (7, .int (iI v_11)), (6, .int (iI v_10)), (5, .int (iI v_6)), (4, .int (iI (k * 4))), (0, .ref a), (1, .ref o), (2, .int (iI fr))]) F dX0_holds_122 hl (k := 4) rfl (by decide) rfl (fun ls hl => ?_)
                refine z_goto (tgt := 2) F dX0_holds_125 (by decide) ?_
                exact ih2 (k + 1) H locs ls ⟨by omega, by omega⟩ (by omega) (ix_step (P := fun j => tstP lc j t) hno (by omega) (htst.mpr (tst3_y (fun _ => by omega) (fun _ => by omega) (fun _ _ => by omega)))) (by omega) hH hS (lv_sub hl [0, 5, 6, 7] rfl)
              · refine z_iconst F dX0_holds_120 ?_
                exact g_zret F hr hlk hH hS hz (by omega) ⟨rfl, rfl, rfl, rfl, rfl, rfl, by first | omega | rfl | (dsimp only; omega), tIz_f (fun h9 => by have h8 := htst.mp (h9 k.toNat (by omega)); have h7 := tst3_e h8; omega)⟩ dX0_holds_121
            · refine lv_iload F.1 F.2.1 dX0_holds_103 (lv_at hl 2 rfl) ?_
              refine lv_iload F.1 F.2.1 dX0_holds_105 (lv_at hl 1 rfl) ?_
              refine z_icmp_lt (tgt := 122) F dX0_holds_107 (by decide) zv_6 zv_10 (fun c_15 => ?_) (fun c_15 => ?_)
              · refine z_iinc (lv' := [(3, .int (iI (k + 1))), (7, .int (iI v_11)), (6, .int (iI v_10)), (5, .int (iI v_6)), (4, .int (iI (k * 4))), (0, .ref a), (1, .ref o), (2, .int (iI fr))]) F dX0_holds_122 hl (k := 4) rfl (by decide) rfl (fun ls hl => ?_)
                refine z_goto (tgt := 2) F dX0_holds_125 (by decide) ?_
                exact ih2 (k + 1) H locs ls ⟨by omega, by omega⟩ (by omega) (ix_step (P := fun j => tstP lc j t) hno (by omega) (htst.mpr (tst3_y (fun _ => by omega) (fun _ => by omega) (fun _ _ => by omega)))) (by omega) hH hS (lv_sub hl [0, 5, 6, 7] rfl)
              · refine z_goto (tgt := 120) F dX0_holds_110 (by decide) ?_
                refine z_iconst F dX0_holds_120 ?_
                exact g_zret F hr hlk hH hS hz (by omega) ⟨rfl, rfl, rfl, rfl, rfl, rfl, by first | omega | rfl | (dsimp only; omega), tIz_f (fun h9 => by have h8 := htst.mp (h9 k.toNat (by omega)); have h7 := tst3_e h8; omega)⟩ dX0_holds_121
          · refine lv_iload F.1 F.2.1 dX0_holds_86 (lv_at hl 2 rfl) ?_
            refine lv_iload F.1 F.2.1 dX0_holds_88 (lv_at hl 1 rfl) ?_
            refine z_icmp_eq (tgt := 122) F dX0_holds_90 (by decide) zv_6 zv_10 (fun c_16 => ?_) (fun c_16 => ?_)
            · refine z_iinc (lv' := [(3, .int (iI (k + 1))), (7, .int (iI v_11)), (6, .int (iI v_10)), (5, .int (iI v_6)), (4, .int (iI (k * 4))), (0, .ref a), (1, .ref o), (2, .int (iI fr))]) F dX0_holds_122 hl (k := 4) rfl (by decide) rfl (fun ls hl => ?_)
              refine z_goto (tgt := 2) F dX0_holds_125 (by decide) ?_
              exact ih2 (k + 1) H locs ls ⟨by omega, by omega⟩ (by omega) (ix_step (P := fun j => tstP lc j t) hno (by omega) (htst.mpr (tst3_y (fun _ => by omega) (fun _ => by omega) (fun _ _ => by omega)))) (by omega) hH hS (lv_sub hl [0, 5, 6, 7] rfl)
            · refine z_goto (tgt := 120) F dX0_holds_93 (by decide) ?_
              refine z_iconst F dX0_holds_120 ?_
              exact g_zret F hr hlk hH hS hz (by omega) ⟨rfl, rfl, rfl, rfl, rfl, rfl, by first | omega | rfl | (dsimp only; omega), tIz_f (fun h9 => by have h8 := htst.mp (h9 k.toNat (by omega)); have h7 := tst3_e h8; omega)⟩ dX0_holds_121
        · refine lv_aload_n F.1 F.2.1 dX0_holds_41 rfl (lv_at hl 3 rfl) ?_
          refine g_getR (ci := 0) (k := 7) F hH rfl (by decide) iX0 ha (by decide) rfl (b := gh 3 a) r_4a k11 dX0_holds_42 ?_
          refine lv_iload F.1 F.2.1 dX0_holds_45 (lv_at hl 1 rfl) ?_
          refine z_iconst F dX0_holds_47 ?_
          refine z_iadd F dX0_holds_48 ?_
          have hx49 : 0 ≤ ((k * 4) + 3) ∧ ((k * 4) + 3) < ((32 : Nat) : Int) ∧ ((k * 4) + 3) ≤ 2147483647 := ⟨by omega, by omega, by omega⟩
          refine g_iald F hH r_4b hx49.1 hx49.2.1 hx49.2.2 dX0_holds_49 ?_
          refine z_name (fun v_17 ev_17 => ?_)
          have zv_17 : zr v_17 := by rw [ev_17]; exact zr_t _
          have hcw : v_17 = (if lc.2 k.toNat 2 = -1 then lc.2 k.toNat 3 else tu t (lc.2 k.toNat 2).toNat) := by rw [if_pos (by omega), ev_17, ← hpk.2.2.2]; congr 2; omega
          refine z_goto (tgt := 66) F dX0_holds_50 (by decide) ?_
          refine lv_istore (lv' := [(6, .int (iI v_17)), (5, .int (iI v_6)), (4, .int (iI (k * 4))), (3, .int (iI k)), (0, .ref a), (1, .ref o), (2, .int (iI fr))]) F.1 F.2.1 dX0_holds_66 hl (by decide) rfl (fun ls hl => ?_)
          refine lv_aload_n F.1 F.2.1 dX0_holds_68 rfl (lv_at hl 4 rfl) ?_
          refine g_getR (ci := 0) (k := 7) F hH rfl (by decide) iX0 ha (by decide) rfl (b := gh 3 a) r_4a k11 dX0_holds_69 ?_
          refine lv_iload F.1 F.2.1 dX0_holds_72 (lv_at hl 2 rfl) ?_
          refine z_iconst F dX0_holds_74 ?_
          refine z_iadd F dX0_holds_75 ?_
          have hx76 : 0 ≤ ((k * 4) + 1) ∧ ((k * 4) + 1) < ((32 : Nat) : Int) ∧ ((k * 4) + 1) ≤ 2147483647 := ⟨by omega, by omega, by omega⟩
          refine g_iald F hH r_4b hx76.1 hx76.2.1 hx76.2.2 dX0_holds_76 ?_
          refine z_name (fun v_18 ev_18 => ?_)
          have zv_18 : zr v_18 := by rw [ev_18]; exact zr_t _
          have hc76 : v_18 = lc.2 k.toNat 1 := by rw [ev_18, ← hpk.2.1]; congr 2; omega
          have htst : tstP lc k.toNat t ↔ tst3 v_6 v_18 v_17 := by unfold tstP; rw [hcv, hcw, hc76]
          clear hcw
          refine lv_istore (lv' := [(7, .int (iI v_18)), (6, .int (iI v_17)), (5, .int (iI v_6)), (4, .int (iI (k * 4))), (3, .int (iI k)), (0, .ref a), (1, .ref o), (2, .int (iI fr))]) F.1 F.2.1 dX0_holds_77 hl (by decide) rfl (fun ls hl => ?_)
          refine lv_iload F.1 F.2.1 dX0_holds_79 (lv_at hl 0 rfl) ?_
          refine z_bipush F dX0_holds_81 (by decide) ?_
          refine z_icmp_ne (tgt := 96) F dX0_holds_83 (by decide) zv_18 ⟨by decide, by decide⟩ (fun c_19 => ?_) (fun c_19 => ?_)
          · refine lv_iload F.1 F.2.1 dX0_holds_96 (lv_at hl 0 rfl) ?_
            refine z_bipush F dX0_holds_98 (by decide) ?_
            refine z_icmp_ne (tgt := 113) F dX0_holds_100 (by decide) zv_18 ⟨by decide, by decide⟩ (fun c_20 => ?_) (fun c_20 => ?_)
            · refine lv_iload F.1 F.2.1 dX0_holds_113 (lv_at hl 2 rfl) ?_
              refine lv_iload F.1 F.2.1 dX0_holds_115 (lv_at hl 1 rfl) ?_
              refine z_icmp_gt (tgt := 122) F dX0_holds_117 (by decide) zv_6 zv_17 (fun c_21 => ?_) (fun c_21 => ?_)
              · refine z_iinc (lv' := [(3, .int (iI (k + 1))), (7, .int (iI v_18)), (6, .int (iI v_17)), (5, .int (iI v_6)), (4, .int (iI (k * 4))), (0, .ref a), (1, .ref o), (2, .int (iI fr))]) F dX0_holds_122 hl (k := 4) rfl (by decide) rfl (fun ls hl => ?_)
                refine z_goto (tgt := 2) F dX0_holds_125 (by decide) ?_
                exact ih2 (k + 1) H locs ls ⟨by omega, by omega⟩ (by omega) (ix_step (P := fun j => tstP lc j t) hno (by omega) (htst.mpr (tst3_y (fun _ => by omega) (fun _ => by omega) (fun _ _ => by omega)))) (by omega) hH hS (lv_sub hl [0, 5, 6, 7] rfl)
              · refine z_iconst F dX0_holds_120 ?_
                exact g_zret F hr hlk hH hS hz (by omega) ⟨rfl, rfl, rfl, rfl, rfl, rfl, by first | omega | rfl | (dsimp only; omega), tIz_f (fun h9 => by have h8 := htst.mp (h9 k.toNat (by omega)); have h7 := tst3_e h8; omega)⟩ dX0_holds_121
            · refine lv_iload F.1 F.2.1 dX0_holds_103 (lv_at hl 2 rfl) ?_
              refine lv_iload F.1 F.2.1 dX0_holds_105 (lv_at hl 1 rfl) ?_
              refine z_icmp_lt (tgt := 122) F dX0_holds_107 (by decide) zv_6 zv_17 (fun c_22 => ?_) (fun c_22 => ?_)
              · refine z_iinc (lv' := [(3, .int (iI (k + 1))), (7, .int (iI v_18)), (6, .int (iI v_17)), (5, .int (iI v_6)), (4, .int (iI (k * 4))), (0, .ref a), (1, .ref o), (2, .int (iI fr))]) F dX0_holds_122 hl (k := 4) rfl (by decide) rfl (fun ls hl => ?_)
                refine z_goto (tgt := 2) F dX0_holds_125 (by decide) ?_
                exact ih2 (k + 1) H locs ls ⟨by omega, by omega⟩ (by omega) (ix_step (P := fun j => tstP lc j t) hno (by omega) (htst.mpr (tst3_y (fun _ => by omega) (fun _ => by omega) (fun _ _ => by omega)))) (by omega) hH hS (lv_sub hl [0, 5, 6, 7] rfl)
              · refine z_goto (tgt := 120) F dX0_holds_110 (by decide) ?_
                refine z_iconst F dX0_holds_120 ?_
                exact g_zret F hr hlk hH hS hz (by omega) ⟨rfl, rfl, rfl, rfl, rfl, rfl, by first | omega | rfl | (dsimp only; omega), tIz_f (fun h9 => by have h8 := htst.mp (h9 k.toNat (by omega)); have h7 := tst3_e h8; omega)⟩ dX0_holds_121
          · refine lv_iload F.1 F.2.1 dX0_holds_86 (lv_at hl 2 rfl) ?_
            refine lv_iload F.1 F.2.1 dX0_holds_88 (lv_at hl 1 rfl) ?_
            refine z_icmp_eq (tgt := 122) F dX0_holds_90 (by decide) zv_6 zv_17 (fun c_23 => ?_) (fun c_23 => ?_)
            · refine z_iinc (lv' := [(3, .int (iI (k + 1))), (7, .int (iI v_18)), (6, .int (iI v_17)), (5, .int (iI v_6)), (4, .int (iI (k * 4))), (0, .ref a), (1, .ref o), (2, .int (iI fr))]) F dX0_holds_122 hl (k := 4) rfl (by decide) rfl (fun ls hl => ?_)
              refine z_goto (tgt := 2) F dX0_holds_125 (by decide) ?_
              exact ih2 (k + 1) H locs ls ⟨by omega, by omega⟩ (by omega) (ix_step (P := fun j => tstP lc j t) hno (by omega) (htst.mpr (tst3_y (fun _ => by omega) (fun _ => by omega) (fun _ _ => by omega)))) (by omega) hH hS (lv_sub hl [0, 5, 6, 7] rfl)
            · refine z_goto (tgt := 120) F dX0_holds_93 (by decide) ?_
              refine z_iconst F dX0_holds_120 ?_
              exact g_zret F hr hlk hH hS hz (by omega) ⟨rfl, rfl, rfl, rfl, rfl, rfl, by first | omega | rfl | (dsimp only; omega), tIz_f (fun h9 => by have h8 := htst.mp (h9 k.toNat (by omega)); have h7 := tst3_e h8; omega)⟩ dX0_holds_121
  exact cut_2_0 (((8 - 0) + 1 : Int).toNat) 0 H locs ls ⟨by decide, by decide⟩ (by omega) (fun j hj => absurd hj (by omega)) (by omega) hH hS (lv_sub hl [0, 1, 2, 3] rfl)

def rmX0_fillTermsf : Room := { frames := 0, cells := 0, slots := 0, locals := 0 }
set_option maxHeartbeats 4000000 in
set_option maxRecDepth 100000 in
/-- the terms -/
theorem c_X0_fillTermsf (l : Launch) (g : gG) (gh : gGh) (n : Nat) (lc : LC) (hh : Nat → Int32) (cw : Int) (I : gI) (R : gR) (J : gJ) (AI : gI) (AJ : gJ) (AR : gR) (a : Nat) (o : Nat) (fr : Int) (k : Nat) (zfr : zr fr) (hv : gInv g gh R AR I AI) (ha : gO g a 0) (ho : gAr g o 9 n) (hkd : (I a 0).toInt = 0 ∨ (I a 0).toInt = 2 ∨ (I a 0).toInt = 8) (hn : n ≤ 1440) (h2 : 0 ≤ fr) (h3 : fr + 4 ≤ (n : Int)) (hk : gAr g k 9 5) (hk0 : gh 9 k = 0) (hlc : lnC (I a) (AI (gh 3 a)) lc) (hk2 : lc.1 0 = 2 ∨ lc.1 0 = 3 ∨ lc.1 0 = 8) (hhh : ∀ j : Nat, (j : Int) < cw → AI o (fr.toNat + j) = hh j) (hcw : ∀ k : Nat, (k : Int) < lc.1 4 → lc.2 k 0 < cw) (hok : o ≠ k) : gMet l g yX0_fillTerms wsX0_fillTerms rmX0_fillTermsf [.ref a, .ref o, .int (iI fr), .ref k] (I, R, J, AI, AJ, AR) (gQv g (fun w : gS => I = w.1 ∧ R = w.2.1 ∧ J = w.2.2.1 ∧ AJ = w.2.2.2.2.1 ∧ AR = w.2.2.2.2.2 ∧ (gInv g gh R AR I (w.2.2.2.1)) ∧ (∀ b, b ≠ k → (w.2.2.2.1) b = AI b) ∧ ((∀ j : Nat, (j : Int) < lc.1 4 → (w.2.2.2.1) k j = trm lc hh j) ∧ ∀ j : Nat, lc.1 4 ≤ (j : Int) → (w.2.2.2.1) k j = AI k j))) := by
  refine gStart (cc := cX0_fillTerms) (maxL := 6) (ret := none) (by decide) rfl (Nat.le_of_ble_eq_true rfl) ?_
  intro p e s m below meth c ls F hr hlk hH hz hS hl
  have hl : lv_has ls 6 [(0, .ref a), (1, .ref o), (2, .int (iI fr)), (3, .ref k)] := hl
  have hS : va_S (gA g) s.heap s.heap [] := hS
  obtain ⟨H, hHe⟩ : ∃ H : Heap, H = s.heap := ⟨_, rfl⟩
  obtain ⟨locs, hlo⟩ : ∃ k : List Loc, k = [] := ⟨_, rfl⟩
  have hH : gH g I R J AI AJ AR H := by rw [hHe]; exact hH
  have hS : va_S (gA g) s.heap H locs := by rw [hHe, hlo]; exact hS
  suffices hw : W p l e rmX0_fillTermsf s m ([.ref a, .ref o, .int (iI fr), .ref k] : List Value).toArray below meth c H locs 0 0 (MQ below (gQv g (fun w : gS => I = w.1 ∧ R = w.2.1 ∧ J = w.2.2.1 ∧ AJ = w.2.2.2.2.1 ∧ AR = w.2.2.2.2.2 ∧ (gInv g gh R AR I (w.2.2.2.1)) ∧ (∀ b, b ≠ k → (w.2.2.2.1) b = AI b) ∧ ((∀ j : Nat, (j : Int) < lc.1 4 → (w.2.2.2.1) k j = trm lc hh j) ∧ ∀ j : Nat, lc.1 4 ≤ (j : Int) → (w.2.2.2.1) k j = AI k j))) ([.ref a, .ref o, .int (iI fr), .ref k] : List Value).toArray s 0 0 (gA g)) (F0 m 0 ls []) by
    rw [hHe, hlo] at hw; exact hw
  clear hHe hlo
  have h8c := hlc.2.1 (by omega)
  have hb8 := gI_line hv ha
  unfold vLineI at hb8
  have hpn : gh 3 a ≠ k := ne_9 (ln_9 hv ha) hk0 (by decide)
  have iX0 : ∀ w ∈ u_ws RX0 TX0 15, w ∈ wsX0_fillTerms := (by decide +kernel)
  have k34 : Cond.fieldLink RX0 34 (TX0 8).1 (TX0 8).2.1 (TX0 8).2.2.1 ∈ wsX0_fillTerms := List.mem_of_getElem? (i := 1) rfl
  have k11 : Cond.fieldLink RX0 11 (TX0 7).1 (TX0 7).2.1 (TX0 7).2.2.1 ∈ wsX0_fillTerms := List.mem_of_getElem? (i := 2) rfl
  refine z_iconst F dX0_fillTerms_0 ?_
  refine lv_istore (lv' := [(4, .int (iI 0)), (0, .ref a), (1, .ref o), (2, .int (iI fr)), (3, .ref k)]) F.1 F.2.1 dX0_fillTerms_1 hl (by decide) rfl (fun ls hl => ?_)
  have cut_3_1 : ∀ (NN : Nat) (i : Int) (AI_1 : gI) (H : Heap) (locs : List Loc) (ls : Array Slot), zr i → (gInv g gh R AR I AI_1) → (∀ b, b ≠ k → AI_1 b = AI b) → (0 ≤ i ∧ i ≤ 8) → (i ≤ (I a 8).toInt) → ((∀ j : Nat, (j : Int) < i → AI_1 k j = trm lc hh j) ∧ ∀ j : Nat, i ≤ (j : Int) → AI_1 k j = AI k j) → (8 - i) < ((NN : Nat) : Int) → gH g I R J AI_1 AJ AR H → va_S (gA g) s.heap H locs → lv_has ls 6 [(4, .int (iI i)), (0, .ref a), (1, .ref o), (2, .int (iI fr)), (3, .ref k)] → W p l e rmX0_fillTermsf s m ([.ref a, .ref o, .int (iI fr), .ref k] : List Value).toArray below meth c H locs 0 0 (MQ below (gQv g (fun w : gS => I = w.1 ∧ R = w.2.1 ∧ J = w.2.2.1 ∧ AJ = w.2.2.2.2.1 ∧ AR = w.2.2.2.2.2 ∧ (gInv g gh R AR I (w.2.2.2.1)) ∧ (∀ b, b ≠ k → (w.2.2.2.1) b = AI b) ∧ ((∀ j : Nat, (j : Int) < lc.1 4 → (w.2.2.2.1) k j = trm lc hh j) ∧ ∀ j : Nat, lc.1 4 ≤ (j : Int) → (w.2.2.2.1) k j = AI k j))) ([.ref a, .ref o, .int (iI fr), .ref k] : List Value).toArray s 0 0 (gA g)) (F0 m 3 ls []) := by
    intro NN3
    induction NN3 with
    | zero =>
      intro i AI_1 H locs ls zi hv fA hi hi8 hq hm3 hH hS hl
      exact absurd hm3 (by omega)
    | succ NN3 ih3 =>
      intro i AI_1 H locs ls zi hv fA hi hi8 hq hm3 hH hS hl
      have hlc : lnC (I a) (AI_1 (gh 3 a)) lc := lnC_m hlc rfl (fA _ hpn)
      refine lv_iload F.1 F.2.1 dX0_fillTerms_3 (lv_at hl 0 rfl) ?_
      refine lv_aload_n F.1 F.2.1 dX0_fillTerms_5 rfl (lv_at hl 1 rfl) ?_
      refine g_getI (ci := 0) (k := 8) F hH rfl (by decide) iX0 ha (by decide) rfl k34 dX0_fillTerms_6 ?_
      have b_3 := gI_line hv ha
      unfold vLineI at b_3
      refine z_icmp_ge (tgt := 61) F dX0_fillTerms_9 (by decide) zi (zr_t _) (fun c_4 => ?_) (fun c_4 => ?_)
      · exact g_vret F hr hlk hH hS hz ⟨rfl, rfl, rfl, rfl, rfl, hv, fun b hb => fA b hb, ⟨fun j hj => hq.1 j (by omega), fun j hj => hq.2 j (by omega)⟩⟩ dX0_fillTerms_61
      · refine lv_aload_n F.1 F.2.1 dX0_fillTerms_12 rfl (lv_at hl 1 rfl) ?_
        obtain ⟨r_5a, r_5b⟩ := gR_parts hv ha
        refine g_getR (ci := 0) (k := 7) F hH rfl (by decide) iX0 ha (by decide) rfl (b := gh 3 a) r_5a k11 dX0_fillTerms_13 ?_
        refine z_iconst F dX0_fillTerms_16 ?_
        refine lv_iload F.1 F.2.1 dX0_fillTerms_17 (lv_at hl 0 rfl) ?_
        refine z_imul F dX0_fillTerms_19 ?_
        have hx20 : 0 ≤ (2 * i) ∧ (2 * i) < ((32 : Nat) : Int) ∧ (2 * i) ≤ 2147483647 := ⟨by omega, by omega, by omega⟩
        refine g_iald F hH r_5b hx20.1 hx20.2.1 hx20.2.2 dX0_fillTerms_20 ?_
        refine z_name (fun v_6 ev_6 => ?_)
        have zv_6 : zr v_6 := by rw [ev_6]; exact zr_t _
        have qp := (gP_line hv ha).2.1 hkd
        have qa := qp.2 i.toNat (by omega)
        rw [show 2 * i.toNat = (2 * i).toNat from by omega, ← ev_6] at qa
        have hpk := hlc.2.2.2.2.1 hk2 i.toNat (by omega)
        have hc20 : v_6 = lc.2 i.toNat 0 := by rw [ev_6, ← hpk.1]; congr 2; omega
        refine lv_istore (lv' := [(5, .int (iI v_6)), (4, .int (iI i)), (0, .ref a), (1, .ref o), (2, .int (iI fr)), (3, .ref k)]) F.1 F.2.1 dX0_fillTerms_21 hl (by decide) rfl (fun ls hl => ?_)
        refine lv_aload_n F.1 F.2.1 dX0_fillTerms_23 rfl (lv_at hl 5 rfl) ?_
        refine lv_iload F.1 F.2.1 dX0_fillTerms_24 (lv_at hl 1 rfl) ?_
        refine lv_iload F.1 F.2.1 dX0_fillTerms_26 (lv_at hl 0 rfl) ?_
        refine z_iconst F dX0_fillTerms_28 ?_
        refine z_icmp_ne (tgt := 36) F dX0_fillTerms_29 (by decide) zv_6 ⟨by decide, by decide⟩ (fun c_7 => ?_) (fun c_7 => ?_)
        · refine lv_aload_n F.1 F.2.1 dX0_fillTerms_36 rfl (lv_at hl 3 rfl) ?_
          refine lv_iload_n F.1 F.2.1 dX0_fillTerms_37 rfl (lv_at hl 4 rfl) ?_
          refine lv_iload F.1 F.2.1 dX0_fillTerms_38 (lv_at hl 0 rfl) ?_
          refine z_iadd F dX0_fillTerms_40 ?_
          have hx41 : 0 ≤ (fr + v_6) ∧ (fr + v_6) < ((n : Nat) : Int) ∧ (fr + v_6) ≤ 2147483647 := ⟨by omega, by omega, by omega⟩
          refine g_iald F hH ho hx41.1 hx41.2.1 hx41.2.2 dX0_fillTerms_41 ?_
          refine z_name (fun v_8 ev_8 => ?_)
          have zv_8 : zr v_8 := by rw [ev_8]; exact zr_t _
          have hc41 : iI v_8 = hh (lc.2 i.toNat 0).toNat := by rw [ev_8, iI_self, ← hc20, ← hhh _ (by have := hcw i.toNat (by omega); omega), fA _ hok]; congr 1; omega
          refine lv_aload_n F.1 F.2.1 dX0_fillTerms_42 rfl (lv_at hl 2 rfl) ?_
          refine g_getR (ci := 0) (k := 7) F hH rfl (by decide) iX0 ha (by decide) rfl (b := gh 3 a) r_5a k11 dX0_fillTerms_43 ?_
          refine z_iconst F dX0_fillTerms_46 ?_
          refine lv_iload F.1 F.2.1 dX0_fillTerms_47 (lv_at hl 1 rfl) ?_
          refine z_imul F dX0_fillTerms_49 ?_
          refine z_iconst F dX0_fillTerms_50 ?_
          refine z_iadd F dX0_fillTerms_51 ?_
          have hx52 : 0 ≤ ((2 * i) + 1) ∧ ((2 * i) + 1) < ((32 : Nat) : Int) ∧ ((2 * i) + 1) ≤ 2147483647 := ⟨by omega, by omega, by omega⟩
          refine g_iald F hH r_5b hx52.1 hx52.2.1 hx52.2.2 dX0_fillTerms_52 ?_
          refine z_name (fun v_9 ev_9 => ?_)
          have zv_9 : zr v_9 := by rw [ev_9]; exact zr_t _
          have hc52 : iI v_9 = iI (lc.2 i.toNat 1) := by rw [ev_9, iI_self, ← hpk.2, iI_self, fA _ hpn]; congr 1; omega
          refine z_iadd F dX0_fillTerms_53 ?_
          refine z_norm (fun v_10 zv_10 ev_10 => ?_)
          have hc53 : iI v_10 = trm lc hh i.toNat := by unfold trm; rw [if_neg (by omega), ev_10, ← iI_add, hc41, hc52]
          have hx54 : 0 ≤ i ∧ i < ((5 : Nat) : Int) ∧ i ≤ 2147483647 := ⟨by omega, by omega, by omega⟩
          refine g_iast F hH hS hk hx54.1 hx54.2.1 hx54.2.2 dX0_fillTerms_54 (fun H locs hH hS => ?_)
          obtain ⟨AI_11, eAI_11⟩ : ∃ qQ, qQ = gup2 AI_1 k (i).toNat (iI (v_10)) := ⟨_, rfl⟩
          rw [← eAI_11] at hH
          have kAI_11 : ∀ b, b ≠ k → AI_11 b = AI_1 b := fun b hb => by rw [eAI_11]; exact funext fun j => gup2_a _ _ hb
          have hv : gInv g gh R AR I AI_11 := gInv_plain hv hk0 kAI_11
          have hq1 : ∀ j : Nat, (j : Int) < i + 1 → AI_11 k j = trm lc hh j := fun j hj => by
            by_cases e9 : (j : Int) = i
            · rw [eAI_11, gup2_e _ _ (by omega), hc53, show i.toNat = j by omega]
            · rw [eAI_11, gup2_k _ _ (by omega)]; exact hq.1 j (by omega)
          have hq2 : ∀ j : Nat, i + 1 ≤ (j : Int) → AI_11 k j = AI k j := fun j hj => by rw [eAI_11, gup2_k _ _ (by omega)]; exact hq.2 j (by omega)
          refine z_iinc (lv' := [(4, .int (iI (i + 1))), (5, .int (iI v_6)), (0, .ref a), (1, .ref o), (2, .int (iI fr)), (3, .ref k)]) F dX0_fillTerms_55 hl (k := 1) rfl (by decide) rfl (fun ls hl => ?_)
          refine z_goto (tgt := 3) F dX0_fillTerms_58 (by decide) ?_
          exact ih3 (i + 1) AI_11 H locs ls ⟨by omega, by omega⟩ hv (fun b hb => (kAI_11 b hb).trans (fA b hb)) (by omega) (by omega) ⟨hq1, hq2⟩ (by omega) hH hS (lv_sub hl [0, 2, 3, 4, 5] rfl)
        · refine z_iconst F dX0_fillTerms_32 ?_
          refine z_goto (tgt := 42) F dX0_fillTerms_33 (by decide) ?_
          refine lv_aload_n F.1 F.2.1 dX0_fillTerms_42 rfl (lv_at hl 2 rfl) ?_
          refine g_getR (ci := 0) (k := 7) F hH rfl (by decide) iX0 ha (by decide) rfl (b := gh 3 a) r_5a k11 dX0_fillTerms_43 ?_
          refine z_iconst F dX0_fillTerms_46 ?_
          refine lv_iload F.1 F.2.1 dX0_fillTerms_47 (lv_at hl 1 rfl) ?_
          refine z_imul F dX0_fillTerms_49 ?_
          refine z_iconst F dX0_fillTerms_50 ?_
          refine z_iadd F dX0_fillTerms_51 ?_
          have hx52 : 0 ≤ ((2 * i) + 1) ∧ ((2 * i) + 1) < ((32 : Nat) : Int) ∧ ((2 * i) + 1) ≤ 2147483647 := ⟨by omega, by omega, by omega⟩
          refine g_iald F hH r_5b hx52.1 hx52.2.1 hx52.2.2 dX0_fillTerms_52 ?_
          refine z_name (fun v_12 ev_12 => ?_)
          have zv_12 : zr v_12 := by rw [ev_12]; exact zr_t _
          have hc52 : iI v_12 = iI (lc.2 i.toNat 1) := by rw [ev_12, iI_self, ← hpk.2, iI_self, fA _ hpn]; congr 1; omega
          refine z_iadd F dX0_fillTerms_53 ?_
          refine z_norm (fun v_13 zv_13 ev_13 => ?_)
          have hc53 : iI v_13 = trm lc hh i.toNat := by unfold trm; rw [if_pos (by omega), ev_13, ← iI_add, hc52]; rfl
          have hx54 : 0 ≤ i ∧ i < ((5 : Nat) : Int) ∧ i ≤ 2147483647 := ⟨by omega, by omega, by omega⟩
          refine g_iast F hH hS hk hx54.1 hx54.2.1 hx54.2.2 dX0_fillTerms_54 (fun H locs hH hS => ?_)
          obtain ⟨AI_14, eAI_14⟩ : ∃ qQ, qQ = gup2 AI_1 k (i).toNat (iI (v_13)) := ⟨_, rfl⟩
          rw [← eAI_14] at hH
          have kAI_14 : ∀ b, b ≠ k → AI_14 b = AI_1 b := fun b hb => by rw [eAI_14]; exact funext fun j => gup2_a _ _ hb
          have hv : gInv g gh R AR I AI_14 := gInv_plain hv hk0 kAI_14
          have hq1 : ∀ j : Nat, (j : Int) < i + 1 → AI_14 k j = trm lc hh j := fun j hj => by
            by_cases e9 : (j : Int) = i
            · rw [eAI_14, gup2_e _ _ (by omega), hc53, show i.toNat = j by omega]
            · rw [eAI_14, gup2_k _ _ (by omega)]; exact hq.1 j (by omega)
          have hq2 : ∀ j : Nat, i + 1 ≤ (j : Int) → AI_14 k j = AI k j := fun j hj => by rw [eAI_14, gup2_k _ _ (by omega)]; exact hq.2 j (by omega)
          refine z_iinc (lv' := [(4, .int (iI (i + 1))), (5, .int (iI v_6)), (0, .ref a), (1, .ref o), (2, .int (iI fr)), (3, .ref k)]) F dX0_fillTerms_55 hl (k := 1) rfl (by decide) rfl (fun ls hl => ?_)
          refine z_goto (tgt := 3) F dX0_fillTerms_58 (by decide) ?_
          exact ih3 (i + 1) AI_14 H locs ls ⟨by omega, by omega⟩ hv (fun b hb => (kAI_14 b hb).trans (fA b hb)) (by omega) (by omega) ⟨hq1, hq2⟩ (by omega) hH hS (lv_sub hl [0, 2, 3, 4, 5] rfl)
  exact cut_3_1 (((8 - 0) + 1 : Int).toNat) 0 AI H locs ls ⟨by decide, by decide⟩ hv (fun _ _ => rfl) (by omega) (by omega) ⟨fun j hj => absurd hj (by omega), fun _ _ => rfl⟩ (by omega) hH hS (lv_sub hl [0, 1, 2, 3, 4] rfl)

def rmX0_pairsAreAlikef : Room := { frames := 0, cells := 0, slots := 0, locals := 0 }
set_option maxHeartbeats 4000000 in
set_option maxRecDepth 100000 in
/-- whether the pairs are alike -/
theorem c_X0_pairsAreAlikef (l : Launch) (g : gG) (gh : gGh) (n n2 : Nat) (lc : LC) (t u : Tup) (I : gI) (R : gR) (J : gJ) (AI : gI) (AJ : gJ) (AR : gR) (a : Nat) (o : Nat) (fr : Int) (o2 : Nat) (fr2 : Int) (zfr : zr fr) (zfr2 : zr fr2) (hv : gInv g gh R AR I AI) (ha : gO g a 0) (ho : gAr g o 9 n) (hkd : (I a 0).toInt = 3) (hn : n ≤ 1440) (h2 : 0 ≤ fr) (h3 : fr + 4 ≤ (n : Int)) (ho2 : gAr g o2 9 n2) (hn2 : n2 ≤ 1440) (h4 : 0 ≤ fr2) (h5 : fr2 + 4 ≤ (n2 : Int)) (hlc : lnC (I a) (AI (gh 3 a)) lc) (hk3 : lc.1 0 = 3) (ht : ∀ j, j < 4 → AI o (fr.toNat + j) = tg t j) (hu : ∀ j, j < 4 → AI o2 (fr2.toNat + j) = tg u j) : gMet l g yX0_pairsAreAlike wsX0_pairsAreAlike rmX0_pairsAreAlikef [.ref a, .ref o, .int (iI fr), .ref o2, .int (iI fr2)] (I, R, J, AI, AJ, AR) (gQi g (fun (z : Int) (w : gS) => I = w.1 ∧ R = w.2.1 ∧ J = w.2.2.1 ∧ AI = w.2.2.2.1 ∧ AJ = w.2.2.2.2.1 ∧ AR = w.2.2.2.2.2 ∧ (z = 0 ∨ z = 1) ∧ (tIz z (alk lc t u)))) := by
  refine gStart (cc := cX0_pairsAreAlike) (maxL := 6) (ret := (some (.boolean))) (by decide) rfl (Nat.le_of_ble_eq_true rfl) ?_
  intro p e s m below meth c ls F hr hlk hH hz hS hl
  have hl : lv_has ls 6 [(0, .ref a), (1, .ref o), (2, .int (iI fr)), (3, .ref o2), (4, .int (iI fr2))] := hl
  have hS : va_S (gA g) s.heap s.heap [] := hS
  obtain ⟨H, hHe⟩ : ∃ H : Heap, H = s.heap := ⟨_, rfl⟩
  obtain ⟨locs, hlo⟩ : ∃ k : List Loc, k = [] := ⟨_, rfl⟩
  have hH : gH g I R J AI AJ AR H := by rw [hHe]; exact hH
  have hS : va_S (gA g) s.heap H locs := by rw [hHe, hlo]; exact hS
  suffices hw : W p l e rmX0_pairsAreAlikef s m ([.ref a, .ref o, .int (iI fr), .ref o2, .int (iI fr2)] : List Value).toArray below meth c H locs 0 0 (MQ below (gQi g (fun (z : Int) (w : gS) => I = w.1 ∧ R = w.2.1 ∧ J = w.2.2.1 ∧ AI = w.2.2.2.1 ∧ AJ = w.2.2.2.2.1 ∧ AR = w.2.2.2.2.2 ∧ (z = 0 ∨ z = 1) ∧ (tIz z (alk lc t u)))) ([.ref a, .ref o, .int (iI fr), .ref o2, .int (iI fr2)] : List Value).toArray s 0 0 (gA g)) (F0 m 0 ls []) by
    rw [hHe, hlo] at hw; exact hw
  clear hHe hlo
  have h8c := hlc.2.1 (by omega)
  have iX0 : ∀ w ∈ u_ws RX0 TX0 15, w ∈ wsX0_pairsAreAlike := (by decide +kernel)
  have k34 : Cond.fieldLink RX0 34 (TX0 8).1 (TX0 8).2.1 (TX0 8).2.2.1 ∈ wsX0_pairsAreAlike := List.mem_of_getElem? (i := 1) rfl
  have k11 : Cond.fieldLink RX0 11 (TX0 7).1 (TX0 7).2.1 (TX0 7).2.2.1 ∈ wsX0_pairsAreAlike := List.mem_of_getElem? (i := 2) rfl
  refine z_iconst F dX0_pairsAreAlike_0 ?_
  refine lv_istore (lv' := [(5, .int (iI 0)), (0, .ref a), (1, .ref o), (2, .int (iI fr)), (3, .ref o2), (4, .int (iI fr2))]) F.1 F.2.1 dX0_pairsAreAlike_1 hl (by decide) rfl (fun ls hl => ?_)
  have cut_3_0 : ∀ (NN : Nat) (i : Int) (H : Heap) (locs : List Loc) (ls : Array Slot), zr i → (0 ≤ i ∧ i ≤ 8) → (∀ j : Nat, (j : Int) < i → tg t (lc.2 j 0).toNat = tg u (lc.2 j 1).toNat) → (8 - i) < ((NN : Nat) : Int) → gH g I R J AI AJ AR H → va_S (gA g) s.heap H locs → lv_has ls 6 [(5, .int (iI i)), (0, .ref a), (1, .ref o), (2, .int (iI fr)), (3, .ref o2), (4, .int (iI fr2))] → W p l e rmX0_pairsAreAlikef s m ([.ref a, .ref o, .int (iI fr), .ref o2, .int (iI fr2)] : List Value).toArray below meth c H locs 0 0 (MQ below (gQi g (fun (z : Int) (w : gS) => I = w.1 ∧ R = w.2.1 ∧ J = w.2.2.1 ∧ AI = w.2.2.2.1 ∧ AJ = w.2.2.2.2.1 ∧ AR = w.2.2.2.2.2 ∧ (z = 0 ∨ z = 1) ∧ (tIz z (alk lc t u)))) ([.ref a, .ref o, .int (iI fr), .ref o2, .int (iI fr2)] : List Value).toArray s 0 0 (gA g)) (F0 m 3 ls []) := by
    intro NN3
    induction NN3 with
    | zero =>
      intro i H locs ls zi hi hno hm3 hH hS hl
      exact absurd hm3 (by omega)
    | succ NN3 ih3 =>
      intro i H locs ls zi hi hno hm3 hH hS hl
      refine lv_iload F.1 F.2.1 dX0_pairsAreAlike_3 (lv_at hl 0 rfl) ?_
      refine lv_aload_n F.1 F.2.1 dX0_pairsAreAlike_5 rfl (lv_at hl 1 rfl) ?_
      refine g_getI (ci := 0) (k := 8) F hH rfl (by decide) iX0 ha (by decide) rfl k34 dX0_pairsAreAlike_6 ?_
      have b_2 := gI_line hv ha
      unfold vLineI at b_2
      refine z_icmp_ge (tgt := 52) F dX0_pairsAreAlike_9 (by decide) zi (zr_t _) (fun c_3 => ?_) (fun c_3 => ?_)
      · refine z_iconst F dX0_pairsAreAlike_52 ?_
        exact g_zret F hr hlk hH hS hz (by omega) ⟨rfl, rfl, rfl, rfl, rfl, rfl, by first | omega | rfl | (dsimp only; omega), tIz_t (fun j hj => hno j (by omega))⟩ dX0_pairsAreAlike_53
      · refine lv_aload_n F.1 F.2.1 dX0_pairsAreAlike_12 rfl (lv_at hl 2 rfl) ?_
        refine lv_iload_n F.1 F.2.1 dX0_pairsAreAlike_13 rfl (lv_at hl 3 rfl) ?_
        refine lv_aload_n F.1 F.2.1 dX0_pairsAreAlike_14 rfl (lv_at hl 1 rfl) ?_
        obtain ⟨r_4a, r_4b⟩ := gR_parts hv ha
        refine g_getR (ci := 0) (k := 7) F hH rfl (by decide) iX0 ha (by decide) rfl (b := gh 3 a) r_4a k11 dX0_pairsAreAlike_15 ?_
        refine z_iconst F dX0_pairsAreAlike_18 ?_
        refine lv_iload F.1 F.2.1 dX0_pairsAreAlike_19 (lv_at hl 0 rfl) ?_
        refine z_imul F dX0_pairsAreAlike_21 ?_
        have hx22 : 0 ≤ (2 * i) ∧ (2 * i) < ((32 : Nat) : Int) ∧ (2 * i) ≤ 2147483647 := ⟨by omega, by omega, by omega⟩
        refine g_iald F hH r_4b hx22.1 hx22.2.1 hx22.2.2 dX0_pairsAreAlike_22 ?_
        refine z_name (fun v_5 ev_5 => ?_)
        have zv_5 : zr v_5 := by rw [ev_5]; exact zr_t _
        have qp := (gP_line hv ha).2.2.1 hkd
        have qa := qp.2 i.toNat (by omega)
        rw [show 2 * i.toNat = (2 * i).toNat from by omega, show (2 * i).toNat + 1 = ((2 * i) + 1).toNat from by omega, ← ev_5] at qa
        have hpk := hlc.2.2.2.2.1 (Or.inr (Or.inl hk3)) i.toNat (by omega)
        have hc22 : v_5 = lc.2 i.toNat 0 := by rw [ev_5, ← hpk.1]; congr 2; omega
        refine z_iadd F dX0_pairsAreAlike_23 ?_
        have hx24 : 0 ≤ (fr + v_5) ∧ (fr + v_5) < ((n : Nat) : Int) ∧ (fr + v_5) ≤ 2147483647 := ⟨by omega, by omega, by omega⟩
        refine g_iald F hH ho hx24.1 hx24.2.1 hx24.2.2 dX0_pairsAreAlike_24 ?_
        refine z_name (fun v_6 ev_6 => ?_)
        have zv_6 : zr v_6 := by rw [ev_6]; exact zr_t _
        have hc24 : iI v_6 = tg t (lc.2 i.toNat 0).toNat := by rw [← hc22, ← ht _ (by omega), ev_6, iI_self]; congr 1; omega
        refine lv_aload_n F.1 F.2.1 dX0_pairsAreAlike_25 rfl (lv_at hl 4 rfl) ?_
        refine lv_iload F.1 F.2.1 dX0_pairsAreAlike_26 (lv_at hl 5 rfl) ?_
        refine lv_aload_n F.1 F.2.1 dX0_pairsAreAlike_28 rfl (lv_at hl 1 rfl) ?_
        refine g_getR (ci := 0) (k := 7) F hH rfl (by decide) iX0 ha (by decide) rfl (b := gh 3 a) r_4a k11 dX0_pairsAreAlike_29 ?_
        refine z_iconst F dX0_pairsAreAlike_32 ?_
        refine lv_iload F.1 F.2.1 dX0_pairsAreAlike_33 (lv_at hl 0 rfl) ?_
        refine z_imul F dX0_pairsAreAlike_35 ?_
        refine z_iconst F dX0_pairsAreAlike_36 ?_
        refine z_iadd F dX0_pairsAreAlike_37 ?_
        have hx38 : 0 ≤ ((2 * i) + 1) ∧ ((2 * i) + 1) < ((32 : Nat) : Int) ∧ ((2 * i) + 1) ≤ 2147483647 := ⟨by omega, by omega, by omega⟩
        refine g_iald F hH r_4b hx38.1 hx38.2.1 hx38.2.2 dX0_pairsAreAlike_38 ?_
        refine z_name (fun v_7 ev_7 => ?_)
        have zv_7 : zr v_7 := by rw [ev_7]; exact zr_t _
        rw [← ev_7] at qa
        have hc38 : v_7 = lc.2 i.toNat 1 := by rw [ev_7, ← hpk.2]; congr 2; omega
        refine z_iadd F dX0_pairsAreAlike_39 ?_
        have hx40 : 0 ≤ (fr2 + v_7) ∧ (fr2 + v_7) < ((n2 : Nat) : Int) ∧ (fr2 + v_7) ≤ 2147483647 := ⟨by omega, by omega, by omega⟩
        refine g_iald F hH ho2 hx40.1 hx40.2.1 hx40.2.2 dX0_pairsAreAlike_40 ?_
        refine z_name (fun v_8 ev_8 => ?_)
        have zv_8 : zr v_8 := by rw [ev_8]; exact zr_t _
        have hc40 : iI v_8 = tg u (lc.2 i.toNat 1).toNat := by rw [← hc38, ← hu _ (by omega), ev_8, iI_self]; congr 1; omega
        refine z_icmp_eq (tgt := 46) F dX0_pairsAreAlike_41 (by decide) zv_6 zv_8 (fun c_9 => ?_) (fun c_9 => ?_)
        · refine z_iinc (lv' := [(5, .int (iI (i + 1))), (0, .ref a), (1, .ref o), (2, .int (iI fr)), (3, .ref o2), (4, .int (iI fr2))]) F dX0_pairsAreAlike_46 hl (k := 0) rfl (by decide) rfl (fun ls hl => ?_)
          refine z_goto (tgt := 3) F dX0_pairsAreAlike_49 (by decide) ?_
          exact ih3 (i + 1) H locs ls ⟨by omega, by omega⟩ (by omega) (ix_step (P := fun j => tg t (lc.2 j 0).toNat = tg u (lc.2 j 1).toNat) hno (by omega) (by rw [← hc24, ← hc40]; congr 1)) (by omega) hH hS (lv_sub hl [0, 1, 2, 3, 4, 5] rfl)
        · refine z_iconst F dX0_pairsAreAlike_44 ?_
          exact g_zret F hr hlk hH hS hz (by omega) ⟨rfl, rfl, rfl, rfl, rfl, rfl, by first | omega | rfl | (dsimp only; omega), tIz_f (fun h9 => by have h8 := h9 i.toNat (by omega); rw [← hc24, ← hc40] at h8; exact absurd ((iI_eq zv_6 zv_8).mp h8) (by omega))⟩ dX0_pairsAreAlike_45
  exact cut_3_0 (((8 - 0) + 1 : Int).toNat) 0 H locs ls ⟨by decide, by decide⟩ (by omega) (fun j hj => absurd hj (by omega)) (by omega) hH hS (lv_sub hl [0, 1, 2, 3, 4, 5] rfl)
end
section
def rmX3_clearKeyf : Room := { frames := 0, cells := 0, slots := 0, locals := 0 }
set_option maxHeartbeats 4000000 in
set_option maxRecDepth 100000 in
/-- an empty key -/
theorem c_X3_clearKeyf (l : Launch) (g : gG) (gh : gGh) (I : gI) (R : gR) (J : gJ) (AI : gI) (AJ : gJ) (AR : gR) (a : Nat) (hv : gInv g gh R AR I AI) (ha : gO g a 3) : gMet l g yX3_clearKey wsX3_clearKey rmX3_clearKeyf [.ref a] (I, R, J, AI, AJ, AR) (gQv g (fun w : gS => I = w.1 ∧ R = w.2.1 ∧ J = w.2.2.1 ∧ AJ = w.2.2.2.2.1 ∧ AR = w.2.2.2.2.2 ∧ (gInv g gh R AR I (w.2.2.2.1)) ∧ (∀ b, b ≠ gh 30 0 → (w.2.2.2.1) b = AI b) ∧ (∀ j, j < 5 → (w.2.2.2.1) (gh 30 0) j = 0))) := by
  refine gStart (cc := cX3_clearKey) (maxL := 2) (ret := none) (by decide) rfl (Nat.le_of_ble_eq_true rfl) ?_
  intro p e s m below meth c ls F hr hlk hH hz hS hl
  have hl : lv_has ls 2 [(0, .ref a)] := hl
  have hS : va_S (gA g) s.heap s.heap [] := hS
  obtain ⟨H, hHe⟩ : ∃ H : Heap, H = s.heap := ⟨_, rfl⟩
  obtain ⟨locs, hlo⟩ : ∃ k : List Loc, k = [] := ⟨_, rfl⟩
  have hH : gH g I R J AI AJ AR H := by rw [hHe]; exact hH
  have hS : va_S (gA g) s.heap H locs := by rw [hHe, hlo]; exact hS
  suffices hw : W p l e rmX3_clearKeyf s m ([.ref a] : List Value).toArray below meth c H locs 0 0 (MQ below (gQv g (fun w : gS => I = w.1 ∧ R = w.2.1 ∧ J = w.2.2.1 ∧ AJ = w.2.2.2.2.1 ∧ AR = w.2.2.2.2.2 ∧ (gInv g gh R AR I (w.2.2.2.1)) ∧ (∀ b, b ≠ gh 30 0 → (w.2.2.2.1) b = AI b) ∧ (∀ j, j < 5 → (w.2.2.2.1) (gh 30 0) j = 0))) ([.ref a] : List Value).toArray s 0 0 (gA g)) (F0 m 0 ls []) by
    rw [hHe, hlo] at hw; exact hw
  clear hHe hlo
  have iX3 : ∀ w ∈ u_ws RX3 TX3 3, w ∈ wsX3_clearKey := (by decide +kernel)
  have k11 : Cond.fieldLink RX3 11 (TX3 0).1 (TX3 0).2.1 (TX3 0).2.2.1 ∈ wsX3_clearKey := List.mem_of_getElem? (i := 1) rfl
  refine z_iconst F dX3_clearKey_0 ?_
  refine lv_istore_n (lv' := [(1, .int (iI 0)), (0, .ref a)]) F.1 F.2.1 dX3_clearKey_1 rfl hl (by decide) rfl (fun ls hl => ?_)
  have cut_2_1 : ∀ (NN : Nat) (i : Int) (AI_1 : gI) (H : Heap) (locs : List Loc) (ls : Array Slot), zr i → (gInv g gh R AR I AI_1) → (0 ≤ i ∧ i ≤ 5) → (∀ b, b ≠ gh 30 0 → AI_1 b = AI b) → (∀ j : Nat, (j : Int) < i → AI_1 (gh 30 0) j = 0) → (5 - i) < ((NN : Nat) : Int) → gH g I R J AI_1 AJ AR H → va_S (gA g) s.heap H locs → lv_has ls 2 [(1, .int (iI i)), (0, .ref a)] → W p l e rmX3_clearKeyf s m ([.ref a] : List Value).toArray below meth c H locs 0 0 (MQ below (gQv g (fun w : gS => I = w.1 ∧ R = w.2.1 ∧ J = w.2.2.1 ∧ AJ = w.2.2.2.2.1 ∧ AR = w.2.2.2.2.2 ∧ (gInv g gh R AR I (w.2.2.2.1)) ∧ (∀ b, b ≠ gh 30 0 → (w.2.2.2.1) b = AI b) ∧ (∀ j, j < 5 → (w.2.2.2.1) (gh 30 0) j = 0))) ([.ref a] : List Value).toArray s 0 0 (gA g)) (F0 m 2 ls []) := by
    intro NN2
    induction NN2 with
    | zero =>
      intro i AI_1 H locs ls zi hv hi fA hzk hm2 hH hS hl
      exact absurd hm2 (by omega)
    | succ NN2 ih2 =>
      intro i AI_1 H locs ls zi hv hi fA hzk hm2 hH hS hl
      refine lv_iload_n F.1 F.2.1 dX3_clearKey_2 rfl (lv_at hl 0 rfl) ?_
      refine lv_aload_n F.1 F.2.1 dX3_clearKey_3 rfl (lv_at hl 1 rfl) ?_
      obtain ⟨r_3a, r_3b⟩ := gR_rk0 hv ha
      refine g_getR (ci := 3) (k := 0) F hH rfl (by decide) iX3 ha (by decide) rfl (b := gh 30 0) r_3a k11 dX3_clearKey_4 ?_
      refine g_alen9 F hH r_3b dX3_clearKey_7 ?_
      refine z_icmp_ge (tgt := 24) F dX3_clearKey_8 (by decide) zi ⟨by omega, by omega⟩ (fun c_4 => ?_) (fun c_4 => ?_)
      · exact g_vret F hr hlk hH hS hz ⟨rfl, rfl, rfl, rfl, rfl, hv, fun b hb => fA b hb, fun j hj => hzk j (by omega)⟩ dX3_clearKey_24
      · refine lv_aload_n F.1 F.2.1 dX3_clearKey_11 rfl (lv_at hl 1 rfl) ?_
        refine g_getR (ci := 3) (k := 0) F hH rfl (by decide) iX3 ha (by decide) rfl (b := gh 30 0) r_3a k11 dX3_clearKey_12 ?_
        refine lv_iload_n F.1 F.2.1 dX3_clearKey_15 rfl (lv_at hl 0 rfl) ?_
        refine z_iconst F dX3_clearKey_16 ?_
        have hx17 : 0 ≤ i ∧ i < ((5 : Nat) : Int) ∧ i ≤ 2147483647 := ⟨by omega, by omega, by omega⟩
        refine g_iast F hH hS r_3b hx17.1 hx17.2.1 hx17.2.2 dX3_clearKey_17 (fun H locs hH hS => ?_)
        obtain ⟨AI_5, eAI_5⟩ : ∃ qQ, qQ = gup2 AI_1 (gh 30 0) (i).toNat (iI (0)) := ⟨_, rfl⟩
        rw [← eAI_5] at hH
        have kAI_5 : ∀ b, b ≠ (gh 30 0) → AI_5 b = AI_1 b := fun b hb => by rw [eAI_5]; exact funext fun j => gup2_a _ _ hb
        have hv : gInv g gh R AR I AI_5 := gInv_plain hv (ro30 hv ha) kAI_5
        have hzk : ∀ j : Nat, (j : Int) < i + 1 → AI_5 (gh 30 0) j = 0 := fun j hj => by
          by_cases e9 : (j : Int) = i
          · rw [eAI_5, gup2_e _ _ (by omega)]; rfl
          · rw [eAI_5, gup2_k _ _ (by omega)]; exact hzk j (by omega)
        refine z_iinc (lv' := [(1, .int (iI (i + 1))), (0, .ref a)]) F dX3_clearKey_18 hl (k := 0) rfl (by decide) rfl (fun ls hl => ?_)
        refine z_goto (tgt := 2) F dX3_clearKey_21 (by decide) ?_
        exact ih2 (i + 1) AI_5 H locs ls ⟨by omega, by omega⟩ hv (by omega) (fun b hb => (kAI_5 b hb).trans (fA b hb)) hzk (by omega) hH hS (lv_sub hl [0, 1] rfl)
  exact cut_2_1 (((5 - 0) + 1 : Int).toNat) 0 AI H locs ls ⟨by decide, by decide⟩ hv (by omega) (fun _ _ => rfl) (fun j hj => absurd hj (by omega)) (by omega) hH hS (lv_sub hl [0, 1] rfl)

def rmX3_selectf : Room := { frames := 2, cells := 0, slots := 0, locals := 84 }
set_option maxHeartbeats 4000000 in
set_option maxRecDepth 100000 in
/-- a select -/
theorem c_X3_selectf (l : Launch) (g : gG) (gh : gGh) (lc : LC) (n : Nat) (I : gI) (R : gR) (J : gJ) (AI : gI) (AJ : gJ) (AR : gR) (a : Nat) (ln : Nat) (inr : Nat) (out : Nat) (hv : gInv g gh R AR I AI) (ha : gO g a 3) (hln : gO g ln 0) (hin : gO g inr 4) (hout : gO g out 4) (h4 : gh 2 out = 4) (hkd : (I ln 0).toInt = 1) (hlc : lnC (I ln) (AI (gh 3 ln)) lc) (hk1 : lc.1 0 = 1) (hne : inr ≠ out) (h5 : gh 2 inr = 4) (hnx : (I inr 3).toInt = (n : Int)) (hA : okB (AI (gh 0 inr)) n) (hl0 : (I out 3).toInt = 0) (hn9 : (n : Int) ≤ (gh 1 out : Int)) : gMet l g yX3_select wsX3_select rmX3_selectf [.ref a, .ref ln, .ref inr, .ref out] (I, R, J, AI, AJ, AR) (gQi g (fun (z : Int) (w : gS) => R = w.2.1 ∧ J = w.2.2.1 ∧ AJ = w.2.2.2.2.1 ∧ AR = w.2.2.2.2.2 ∧ (gInv g gh R AR (w.1) (w.2.2.2.1)) ∧ (rF g I (w.1)) ∧ (-4 ≤ z ∧ z ≤ 0) ∧ (kI out I (w.1)) ∧ (kA gh out AI (w.2.2.2.1)) ∧ (z = 0 ∧ isB ((w.2.2.2.1) (gh 0 out)) ((w.1) out 3).toInt.toNat (sR (vK lc) (vA lc) (AI (gh 0 inr)) n s0T) zM ∧ ((w.1) out 3).toInt ≤ (n : Int)))) := by
  refine gStart (cc := cX3_select) (maxL := 5) (ret := (some (.int))) (by decide) rfl (Nat.le_of_ble_eq_true rfl) ?_
  intro p e s m below meth c ls F hr hlk hH hz hS hl
  have hl : lv_has ls 5 [(0, .ref a), (1, .ref ln), (2, .ref inr), (3, .ref out)] := hl
  have hS : va_S (gA g) s.heap s.heap [] := hS
  obtain ⟨H, hHe⟩ : ∃ H : Heap, H = s.heap := ⟨_, rfl⟩
  obtain ⟨locs, hlo⟩ : ∃ k : List Loc, k = [] := ⟨_, rfl⟩
  have hH : gH g I R J AI AJ AR H := by rw [hHe]; exact hH
  have hS : va_S (gA g) s.heap H locs := by rw [hHe, hlo]; exact hS
  suffices hw : W p l e rmX3_selectf s m ([.ref a, .ref ln, .ref inr, .ref out] : List Value).toArray below meth c H locs 0 0 (MQ below (gQi g (fun (z : Int) (w : gS) => R = w.2.1 ∧ J = w.2.2.1 ∧ AJ = w.2.2.2.2.1 ∧ AR = w.2.2.2.2.2 ∧ (gInv g gh R AR (w.1) (w.2.2.2.1)) ∧ (rF g I (w.1)) ∧ (-4 ≤ z ∧ z ≤ 0) ∧ (kI out I (w.1)) ∧ (kA gh out AI (w.2.2.2.1)) ∧ (z = 0 ∧ isB ((w.2.2.2.1) (gh 0 out)) ((w.1) out 3).toInt.toNat (sR (vK lc) (vA lc) (AI (gh 0 inr)) n s0T) zM ∧ ((w.1) out 3).toInt ≤ (n : Int)))) ([.ref a, .ref ln, .ref inr, .ref out] : List Value).toArray s 0 0 (gA g)) (F0 m 0 ls []) by
    rw [hHe, hlo] at hw; exact hw
  clear hHe hlo
  have rf : rF g I I := rF_r
  have fI : kI out I I := kI_r
  have fA : kA gh out AI AI := kA_r
  have iX4 : ∀ w ∈ u_ws RX4 TX4 4, w ∈ wsX3_select := (by decide +kernel)
  have k23 : Cond.fieldLink RX3 23 (TX4 3).1 (TX4 3).2.1 (TX4 3).2.2.1 ∈ wsX3_select := List.mem_of_getElem? (i := 1) rfl
  have k63 : Cond.fieldLink RX3 63 (TX4 2).1 (TX4 2).2.1 (TX4 2).2.2.1 ∈ wsX3_select := List.mem_of_getElem? (i := 2) rfl
  refine z_iconst F dX3_select_0 ?_
  refine lv_istore (lv' := [(4, .int (iI 0)), (0, .ref a), (1, .ref ln), (2, .ref inr), (3, .ref out)]) F.1 F.2.1 dX3_select_1 hl (by decide) rfl (fun ls hl => ?_)
  have cut_3_2 : ∀ (NN : Nat) (i : Int) (I_1 : gI) (AI_2 : gI) (H : Heap) (locs : List Loc) (ls : Array Slot), zr i → (gInv g gh R AR I_1 AI_2) → (rF g I I_1) → ((I_1 ln 0).toInt = 1) → (0 ≤ i ∧ i ≤ 240) → (kI out I I_1) → (kA gh out AI AI_2) → (selI (AI_2 (gh 0 out)) (I_1 out 3).toInt.toNat (AI (gh 0 inr)) n i.toNat (sR (vK lc) (vA lc) (AI (gh 0 inr)) i.toNat s0T)) → (0 ≤ (I_1 out 3).toInt ∧ 0 ≤ i ∧ i ≤ (n : Int)) → (240 - i) < ((NN : Nat) : Int) → gH g I_1 R J AI_2 AJ AR H → va_S (gA g) s.heap H locs → lv_has ls 5 [(4, .int (iI i)), (0, .ref a), (1, .ref ln), (2, .ref inr), (3, .ref out)] → W p l e rmX3_selectf s m ([.ref a, .ref ln, .ref inr, .ref out] : List Value).toArray below meth c H locs 0 0 (MQ below (gQi g (fun (z : Int) (w : gS) => R = w.2.1 ∧ J = w.2.2.1 ∧ AJ = w.2.2.2.2.1 ∧ AR = w.2.2.2.2.2 ∧ (gInv g gh R AR (w.1) (w.2.2.2.1)) ∧ (rF g I (w.1)) ∧ (-4 ≤ z ∧ z ≤ 0) ∧ (kI out I (w.1)) ∧ (kA gh out AI (w.2.2.2.1)) ∧ (z = 0 ∧ isB ((w.2.2.2.1) (gh 0 out)) ((w.1) out 3).toInt.toNat (sR (vK lc) (vA lc) (AI (gh 0 inr)) n s0T) zM ∧ ((w.1) out 3).toInt ≤ (n : Int)))) ([.ref a, .ref ln, .ref inr, .ref out] : List Value).toArray s 0 0 (gA g)) (F0 m 3 ls []) := by
    intro NN3
    induction NN3 with
    | zero =>
      intro i I_1 AI_2 H locs ls zi hv rf hkd hi fI fA hse hse2 hm3 hH hS hl
      exact absurd hm3 (by omega)
    | succ NN3 ih3 =>
      intro i I_1 AI_2 H locs ls zi hv rf hkd hi fI fA hse hse2 hm3 hH hS hl
      have hX : AI_2 (gh 0 inr) = AI (gh 0 inr) := kA_x fA hv ha hout hin hne
      have hXi : I_1 inr = I inr := fI inr hne
      have hXn : (I_1 inr 3).toInt = (n : Int) := by rw [hXi]; exact hnx
      have hlcN : lnC (I_1 ln) (AI_2 (gh 3 ln)) lc := lnC_m hlc (fI ln (gO_ne hln hout (by decide))) (kA_l fA hv ha hout hln)
      have hle := hse.2.1
      refine lv_iload F.1 F.2.1 dX3_select_3 (lv_at hl 0 rfl) ?_
      refine lv_aload_n F.1 F.2.1 dX3_select_5 rfl (lv_at hl 3 rfl) ?_
      refine g_getI (ci := 4) (k := 3) F hH rfl (by decide) iX4 hin (by decide) rfl k23 dX3_select_6 ?_
      obtain ⟨b_4a, b_4b, b_4c, b_4d, b_4e, b_4f, b_4g, b_4h⟩ := gI_rows hv hin
      refine z_icmp_ge (tgt := 53) F dX3_select_9 (by decide) zi (zr_t _) (fun c_5 => ?_) (fun c_5 => ?_)
      · refine z_iconst F dX3_select_53 ?_
        exact g_iret F hr hlk hH hS hz ⟨by decide, by decide⟩ ⟨rfl, rfl, rfl, rfl, hv, rf, by first | omega | rfl | (dsimp only; omega), fI, fA, ⟨rfl, by rw [← show i.toNat = n by omega]; exact hse.1, by (try dsimp only); omega⟩⟩ dX3_select_54
      · refine lv_aload_n F.1 F.2.1 dX3_select_12 rfl (lv_at hl 2 rfl) ?_
        refine lv_aload_n F.1 F.2.1 dX3_select_13 rfl (lv_at hl 3 rfl) ?_
        obtain ⟨r_6a, r_6b⟩ := gR_cells hv hin
        refine g_getR (ci := 4) (k := 2) F hH rfl (by decide) iX4 hin (by decide) rfl (b := gh 0 inr) r_6a k63 dX3_select_14 ?_
        refine lv_iload F.1 F.2.1 dX3_select_17 (lv_at hl 0 rfl) ?_
        refine z_bipush F dX3_select_19 (by decide) ?_
        refine z_imul F dX3_select_21 ?_
        have b_7 := gI_line hv hln
        unfold vLineI at b_7
        refine g_calli (g_runV (As := [.ref (gh 0 inr), .int (iI (i * 6))]) (rest := []) (ci := 0) F hl.1 hH hS hz (c_X0_holdsf l g gh (6 * gh 1 inr) lc (tup (AI (gh 0 inr)) i.toNat) I_1 R J AI_2 AJ AR ln (gh 0 inr) (i * 6) ⟨by omega, by omega⟩ hv hln r_6b (by omega) (by omega) (by omega) (by omega) hlcN hk1 (fun j hj => by rw [hX]; exact rowt (by omega) j hj)) (cwV 2 F.2.2.2.2.1 gX3_select_X0_holds rfl rfl rfl hdX0_holds ⟨Nat.le_of_ble_eq_true rfl, Nat.le_of_ble_eq_true rfl⟩) hln (by decide) rfl rfl rfl (Nat.le_of_ble_eq_true rfl) dX3_select_22 ⟨Nat.zero_le _, Nat.zero_le _⟩) hS (fun v_14 I_8 R_9 J_10 AI_11 AJ_12 AR_13 H locs zv_14 hp_15 hH hS => ?_)
        dsimp only at hp_15
        obtain ⟨rfl, rfl, rfl, rfl, rfl, rfl, q_16, qh⟩ := hp_15
        refine z_if_eq (tgt := 47) F dX3_select_25 (by decide) zv_14 (fun c_17 => ?_) (fun c_17 => ?_)
        · have hse9 := selI_no hse (by rw [vA1_n hk1 (tIz_0 qh (by omega))])
          rw [show i.toNat + 1 = (i + 1).toNat by omega] at hse9
          refine z_iinc (lv' := [(4, .int (iI (i + 1))), (0, .ref a), (1, .ref ln), (2, .ref inr), (3, .ref out)]) F dX3_select_47 hl (k := 0) rfl (by decide) rfl (fun ls hl => ?_)
          refine z_goto (tgt := 3) F dX3_select_50 (by decide) ?_
          exact ih3 (i + 1) I_1 AI_2 H locs ls ⟨by omega, by omega⟩ hv rf (by omega) (by omega) fI fA hse9 (by omega) (by omega) hH hS (lv_sub hl [0, 1, 2, 3, 4] rfl)
        · refine lv_aload_n F.1 F.2.1 dX3_select_28 rfl (lv_at hl 4 rfl) ?_
          refine lv_aload_n F.1 F.2.1 dX3_select_29 rfl (lv_at hl 3 rfl) ?_
          refine lv_iload F.1 F.2.1 dX3_select_30 (lv_at hl 0 rfl) ?_
          refine lv_aload_n F.1 F.2.1 dX3_select_32 rfl (lv_at hl 3 rfl) ?_
          refine lv_iload F.1 F.2.1 dX3_select_33 (lv_at hl 0 rfl) ?_
          refine g_calli (g_runV (As := [.int (iI i)]) (rest := [.int (iI i), .ref inr, .ref out]) (ci := 4) F hl.1 hH hS hz (c_X4_amount l g gh I_1 R J AI_2 AJ AR inr i zi hv hin (by omega) (by omega)) (cwV 1 F.2.2.2.2.1 gX3_select_X4_amount rfl rfl rfl hdX4_amount ⟨Nat.le_of_ble_eq_true rfl, Nat.le_of_ble_eq_true rfl⟩) hin (by decide) rfl rfl rfl (Nat.le_of_ble_eq_true rfl) dX3_select_35 ⟨Nat.zero_le _, Nat.zero_le _⟩) hS (fun v_24 I_18 R_19 J_20 AI_21 AJ_22 AR_23 H locs zv_24 hp_25 hH hS => ?_)
          dsimp only at hp_25
          obtain ⟨rfl, rfl, rfl, rfl, rfl, rfl, qa0⟩ := hp_25
          have qa : v_24 = ((AI (gh 0 inr)) (6 * i.toNat + 4)).toInt := by rw [qa0, hX, show (i * 6 + (I_1 inr 0).toInt).toNat = 6 * i.toNat + 4 by omega]
          obtain ⟨b_26a, b_26b, b_26c, b_26d, b_26e, b_26f, b_26g, b_26h⟩ := gI_rows hv hout
          refine g_calli (g_runV (As := [.ref inr, .int (iI i), .int (iI v_24)]) (rest := []) (ci := 4) F hl.1 hH hS hz (c_X4_appendf l g gh I_1 R J AI_2 AJ AR out inr i v_24 zi zv_24 hv hout hin (by omega) (by omega) (by omega)) (cwV 3 F.2.2.2.2.1 gX3_select_X4_append rfl rfl rfl hdX4_append ⟨Nat.le_of_ble_eq_true rfl, Nat.le_of_ble_eq_true rfl⟩) hout (by decide) rfl rfl rfl (Nat.le_of_ble_eq_true rfl) dX3_select_38 ⟨Nat.zero_le _, Nat.zero_le _⟩) hS (fun v_33 I_27 R_28 J_29 AI_30 AJ_31 AR_32 H locs zv_33 hp_34 hH hS => ?_)
          dsimp only at hp_34
          obtain ⟨rfl, rfl, rfl, rfl, hv, q_35, q_36, qap⟩ := hp_34
          have rf := rF_t rf (rF_o hout q_35)
          have u_37 : (I_27 ln 0).toInt = (I ln 0).toInt := by rw [rf ln 0 hln (by decide)]
          have fI := kI_t fI q_35
          have fA := kA_t fA (kA_o q_36)
          obtain ⟨q1, ql, qn, qp⟩ := qap.resolve_left (fun h => absurd h.2.2.2 (by omega))
          refine z_if_ne (tgt := 47) F dX3_select_41 (by decide) zv_33 (fun c_38 => ?_) (fun c_38 => ?_)
          · have hse9 := selI_ap hA (by omega) hse (vK_id (by omega)) (by rw [vA1_y hk1 (tIz_1 qh (by omega))]; exact hA.2 _ (by omega)) (by rw [vA1_y hk1 (tIz_1 qh (by omega))]; rw [← iI_self ((AI (gh 0 inr)) (6 * i.toNat + 4)), ← qa, ← hX]; exact ap_W qp (by omega) (by omega))
            rw [show (I_1 out 3).toInt.toNat + 1 = (I_27 out 3).toInt.toNat by omega, show i.toNat + 1 = (i + 1).toNat by omega] at hse9
            refine z_iinc (lv' := [(4, .int (iI (i + 1))), (0, .ref a), (1, .ref ln), (2, .ref inr), (3, .ref out)]) F dX3_select_47 hl (k := 0) rfl (by decide) rfl (fun ls hl => ?_)
            refine z_goto (tgt := 3) F dX3_select_50 (by decide) ?_
            exact ih3 (i + 1) I_27 AI_30 H locs ls ⟨by omega, by omega⟩ hv rf (by omega) (by omega) fI fA hse9 (by omega) (by omega) hH hS (lv_sub hl [0, 1, 2, 3, 4] rfl)
          · refine z_bipush F dX3_select_44 (by decide) ?_
            exact g_iret F hr hlk hH hS hz ⟨by decide, by decide⟩ ⟨rfl, rfl, rfl, rfl, hv, rf, by first | omega | rfl | (dsimp only; omega), fI, fA, by omega⟩ dX3_select_46
  exact cut_3_2 (((240 - 0) + 1 : Int).toNat) 0 I AI H locs ls ⟨by decide, by decide⟩ hv rf (by omega) (by omega) fI fA (by rw [show (I out 3).toInt = 0 by omega]; exact selI_0) (by omega) (by omega) hH hS (lv_sub hl [0, 1, 2, 3, 4] rfl)

def rmX3_distinctf : Room := { frames := 2, cells := 0, slots := 0, locals := 84 }
set_option maxHeartbeats 4000000 in
set_option maxRecDepth 100000 in
/-- a distinct -/
theorem c_X3_distinctf (l : Launch) (g : gG) (gh : gGh) (lc : LC) (n : Nat) (I : gI) (R : gR) (J : gJ) (AI : gI) (AJ : gJ) (AR : gR) (a : Nat) (inr : Nat) (out : Nat) (hv : gInv g gh R AR I AI) (ha : gO g a 3) (hin : gO g inr 4) (hout : gO g out 4) (h4 : gh 2 out = 4) (hk6 : lc.1 0 = 6) (hne : inr ≠ out) (h5 : gh 2 inr = 4) (hnx : (I inr 3).toInt = (n : Int)) (hA : okB (AI (gh 0 inr)) n) (hl0 : (I out 3).toInt = 0) (hn9 : (n : Int) ≤ (gh 1 out : Int)) : gMet l g yX3_distinct wsX3_distinct rmX3_distinctf [.ref a, .ref inr, .ref out] (I, R, J, AI, AJ, AR) (gQi g (fun (z : Int) (w : gS) => R = w.2.1 ∧ J = w.2.2.1 ∧ AJ = w.2.2.2.2.1 ∧ AR = w.2.2.2.2.2 ∧ (gInv g gh R AR (w.1) (w.2.2.2.1)) ∧ (rF g I (w.1)) ∧ (-4 ≤ z ∧ z ≤ 0) ∧ (kI out I (w.1)) ∧ (kA gh out AI (w.2.2.2.1)) ∧ (z = 0 ∧ isB ((w.2.2.2.1) (gh 0 out)) ((w.1) out 3).toInt.toNat (sR (vK lc) (vA lc) (AI (gh 0 inr)) n s0T) zM ∧ ((w.1) out 3).toInt ≤ (n : Int)))) := by
  refine gStart (cc := cX3_distinct) (maxL := 4) (ret := (some (.int))) (by decide) rfl (Nat.le_of_ble_eq_true rfl) ?_
  intro p e s m below meth c ls F hr hlk hH hz hS hl
  have hl : lv_has ls 4 [(0, .ref a), (1, .ref inr), (2, .ref out)] := hl
  have hS : va_S (gA g) s.heap s.heap [] := hS
  obtain ⟨H, hHe⟩ : ∃ H : Heap, H = s.heap := ⟨_, rfl⟩
  obtain ⟨locs, hlo⟩ : ∃ k : List Loc, k = [] := ⟨_, rfl⟩
  have hH : gH g I R J AI AJ AR H := by rw [hHe]; exact hH
  have hS : va_S (gA g) s.heap H locs := by rw [hHe, hlo]; exact hS
  suffices hw : W p l e rmX3_distinctf s m ([.ref a, .ref inr, .ref out] : List Value).toArray below meth c H locs 0 0 (MQ below (gQi g (fun (z : Int) (w : gS) => R = w.2.1 ∧ J = w.2.2.1 ∧ AJ = w.2.2.2.2.1 ∧ AR = w.2.2.2.2.2 ∧ (gInv g gh R AR (w.1) (w.2.2.2.1)) ∧ (rF g I (w.1)) ∧ (-4 ≤ z ∧ z ≤ 0) ∧ (kI out I (w.1)) ∧ (kA gh out AI (w.2.2.2.1)) ∧ (z = 0 ∧ isB ((w.2.2.2.1) (gh 0 out)) ((w.1) out 3).toInt.toNat (sR (vK lc) (vA lc) (AI (gh 0 inr)) n s0T) zM ∧ ((w.1) out 3).toInt ≤ (n : Int)))) ([.ref a, .ref inr, .ref out] : List Value).toArray s 0 0 (gA g)) (F0 m 0 ls []) by
    rw [hHe, hlo] at hw; exact hw
  clear hHe hlo
  have rf : rF g I I := rF_r
  have fI : kI out I I := kI_r
  have fA : kA gh out AI AI := kA_r
  have iX4 : ∀ w ∈ u_ws RX4 TX4 4, w ∈ wsX3_distinct := (by decide +kernel)
  have k23 : Cond.fieldLink RX3 23 (TX4 3).1 (TX4 3).2.1 (TX4 3).2.2.1 ∈ wsX3_distinct := List.mem_of_getElem? (i := 1) rfl
  refine z_iconst F dX3_distinct_0 ?_
  refine lv_istore_n (lv' := [(3, .int (iI 0)), (0, .ref a), (1, .ref inr), (2, .ref out)]) F.1 F.2.1 dX3_distinct_1 rfl hl (by decide) rfl (fun ls hl => ?_)
  have cut_2_2 : ∀ (NN : Nat) (i : Int) (I_1 : gI) (AI_2 : gI) (H : Heap) (locs : List Loc) (ls : Array Slot), zr i → (gInv g gh R AR I_1 AI_2) → (rF g I I_1) → (0 ≤ i ∧ i ≤ 240) → (kI out I I_1) → (kA gh out AI AI_2) → (selI (AI_2 (gh 0 out)) (I_1 out 3).toInt.toNat (AI (gh 0 inr)) n i.toNat (sR (vK lc) (vA lc) (AI (gh 0 inr)) i.toNat s0T)) → (0 ≤ (I_1 out 3).toInt ∧ 0 ≤ i ∧ i ≤ (n : Int)) → (240 - i) < ((NN : Nat) : Int) → gH g I_1 R J AI_2 AJ AR H → va_S (gA g) s.heap H locs → lv_has ls 4 [(3, .int (iI i)), (0, .ref a), (1, .ref inr), (2, .ref out)] → W p l e rmX3_distinctf s m ([.ref a, .ref inr, .ref out] : List Value).toArray below meth c H locs 0 0 (MQ below (gQi g (fun (z : Int) (w : gS) => R = w.2.1 ∧ J = w.2.2.1 ∧ AJ = w.2.2.2.2.1 ∧ AR = w.2.2.2.2.2 ∧ (gInv g gh R AR (w.1) (w.2.2.2.1)) ∧ (rF g I (w.1)) ∧ (-4 ≤ z ∧ z ≤ 0) ∧ (kI out I (w.1)) ∧ (kA gh out AI (w.2.2.2.1)) ∧ (z = 0 ∧ isB ((w.2.2.2.1) (gh 0 out)) ((w.1) out 3).toInt.toNat (sR (vK lc) (vA lc) (AI (gh 0 inr)) n s0T) zM ∧ ((w.1) out 3).toInt ≤ (n : Int)))) ([.ref a, .ref inr, .ref out] : List Value).toArray s 0 0 (gA g)) (F0 m 2 ls []) := by
    intro NN2
    induction NN2 with
    | zero =>
      intro i I_1 AI_2 H locs ls zi hv rf hi fI fA hse hse2 hm2 hH hS hl
      exact absurd hm2 (by omega)
    | succ NN2 ih2 =>
      intro i I_1 AI_2 H locs ls zi hv rf hi fI fA hse hse2 hm2 hH hS hl
      have hX : AI_2 (gh 0 inr) = AI (gh 0 inr) := kA_x fA hv ha hout hin hne
      have hXi : I_1 inr = I inr := fI inr hne
      have hXn : (I_1 inr 3).toInt = (n : Int) := by rw [hXi]; exact hnx
      have hle := hse.2.1
      refine lv_iload_n F.1 F.2.1 dX3_distinct_2 rfl (lv_at hl 0 rfl) ?_
      refine lv_aload_n F.1 F.2.1 dX3_distinct_3 rfl (lv_at hl 2 rfl) ?_
      refine g_getI (ci := 4) (k := 3) F hH rfl (by decide) iX4 hin (by decide) rfl k23 dX3_distinct_4 ?_
      obtain ⟨b_4a, b_4b, b_4c, b_4d, b_4e, b_4f, b_4g, b_4h⟩ := gI_rows hv hin
      refine z_icmp_ge (tgt := 37) F dX3_distinct_7 (by decide) zi (zr_t _) (fun c_5 => ?_) (fun c_5 => ?_)
      · refine z_iconst F dX3_distinct_37 ?_
        exact g_iret F hr hlk hH hS hz ⟨by decide, by decide⟩ ⟨rfl, rfl, rfl, rfl, hv, rf, by first | omega | rfl | (dsimp only; omega), fI, fA, ⟨rfl, by rw [← show i.toNat = n by omega]; exact hse.1, by (try dsimp only); omega⟩⟩ dX3_distinct_38
      · refine lv_aload_n F.1 F.2.1 dX3_distinct_10 rfl (lv_at hl 2 rfl) ?_
        refine lv_iload_n F.1 F.2.1 dX3_distinct_11 rfl (lv_at hl 0 rfl) ?_
        refine g_calli (g_runV (As := [.int (iI i)]) (rest := []) (ci := 4) F hl.1 hH hS hz (c_X4_amount l g gh I_1 R J AI_2 AJ AR inr i zi hv hin (by omega) (by omega)) (cwV 1 F.2.2.2.2.1 gX3_distinct_X4_amount rfl rfl rfl hdX4_amount ⟨Nat.le_of_ble_eq_true rfl, Nat.le_of_ble_eq_true rfl⟩) hin (by decide) rfl rfl rfl (Nat.le_of_ble_eq_true rfl) dX3_distinct_12 ⟨Nat.zero_le _, Nat.zero_le _⟩) hS (fun v_12 I_6 R_7 J_8 AI_9 AJ_10 AR_11 H locs zv_12 hp_13 hH hS => ?_)
        dsimp only at hp_13
        obtain ⟨rfl, rfl, rfl, rfl, rfl, rfl, qa0⟩ := hp_13
        have qa : v_12 = ((AI (gh 0 inr)) (6 * i.toNat + 4)).toInt := by rw [qa0, hX, show (i * 6 + (I_1 inr 0).toInt).toNat = 6 * i.toNat + 4 by omega]
        refine z_if_le (tgt := 31) F dX3_distinct_15 (by decide) zv_12 (fun c_14 => ?_) (fun c_14 => ?_)
        · have hse9 := selI_no hse (by rw [vA6_n hk6 (by omega)])
          rw [show i.toNat + 1 = (i + 1).toNat by omega] at hse9
          refine z_iinc (lv' := [(3, .int (iI (i + 1))), (0, .ref a), (1, .ref inr), (2, .ref out)]) F dX3_distinct_31 hl (k := 0) rfl (by decide) rfl (fun ls hl => ?_)
          refine z_goto (tgt := 2) F dX3_distinct_34 (by decide) ?_
          exact ih2 (i + 1) I_1 AI_2 H locs ls ⟨by omega, by omega⟩ hv rf (by omega) fI fA hse9 (by omega) (by omega) hH hS (lv_sub hl [0, 1, 2, 3] rfl)
        · refine lv_aload_n F.1 F.2.1 dX3_distinct_18 rfl (lv_at hl 3 rfl) ?_
          refine lv_aload_n F.1 F.2.1 dX3_distinct_19 rfl (lv_at hl 2 rfl) ?_
          refine lv_iload_n F.1 F.2.1 dX3_distinct_20 rfl (lv_at hl 0 rfl) ?_
          refine z_iconst F dX3_distinct_21 ?_
          obtain ⟨b_15a, b_15b, b_15c, b_15d, b_15e, b_15f, b_15g, b_15h⟩ := gI_rows hv hout
          refine g_calli (g_runV (As := [.ref inr, .int (iI i), .int (iI 1)]) (rest := []) (ci := 4) F hl.1 hH hS hz (c_X4_appendf l g gh I_1 R J AI_2 AJ AR out inr i 1 zi ⟨by decide, by decide⟩ hv hout hin (by omega) (by omega) (by omega)) (cwV 3 F.2.2.2.2.1 gX3_distinct_X4_append rfl rfl rfl hdX4_append ⟨Nat.le_of_ble_eq_true rfl, Nat.le_of_ble_eq_true rfl⟩) hout (by decide) rfl rfl rfl (Nat.le_of_ble_eq_true rfl) dX3_distinct_22 ⟨Nat.zero_le _, Nat.zero_le _⟩) hS (fun v_22 I_16 R_17 J_18 AI_19 AJ_20 AR_21 H locs zv_22 hp_23 hH hS => ?_)
          dsimp only at hp_23
          obtain ⟨rfl, rfl, rfl, rfl, hv, q_24, q_25, qap⟩ := hp_23
          have rf := rF_t rf (rF_o hout q_24)
          have fI := kI_t fI q_24
          have fA := kA_t fA (kA_o q_25)
          obtain ⟨q1, ql, qn, qp⟩ := qap.resolve_left (fun h => absurd h.2.2.2 (by omega))
          refine z_if_ne (tgt := 31) F dX3_distinct_25 (by decide) zv_22 (fun c_26 => ?_) (fun c_26 => ?_)
          · have hse9 := selI_ap hA (by omega) hse (vK_id (by omega)) (by rw [vA6_y hk6 (by omega)]; decide) (by rw [vA6_y hk6 (by omega)]; rw [← hX]; exact ap_W qp (by omega) (by omega))
            rw [show (I_1 out 3).toInt.toNat + 1 = (I_16 out 3).toInt.toNat by omega, show i.toNat + 1 = (i + 1).toNat by omega] at hse9
            refine z_iinc (lv' := [(3, .int (iI (i + 1))), (0, .ref a), (1, .ref inr), (2, .ref out)]) F dX3_distinct_31 hl (k := 0) rfl (by decide) rfl (fun ls hl => ?_)
            refine z_goto (tgt := 2) F dX3_distinct_34 (by decide) ?_
            exact ih2 (i + 1) I_16 AI_19 H locs ls ⟨by omega, by omega⟩ hv rf (by omega) fI fA hse9 (by omega) (by omega) hH hS (lv_sub hl [0, 1, 2, 3] rfl)
          · refine z_bipush F dX3_distinct_28 (by decide) ?_
            exact g_iret F hr hlk hH hS hz ⟨by decide, by decide⟩ ⟨rfl, rfl, rfl, rfl, hv, rf, by first | omega | rfl | (dsimp only; omega), fI, fA, by omega⟩ dX3_distinct_30
  exact cut_2_2 (((240 - 0) + 1 : Int).toNat) 0 I AI H locs ls ⟨by decide, by decide⟩ hv rf (by omega) fI fA (by rw [show (I out 3).toInt = 0 by omega]; exact selI_0) (by omega) (by omega) hH hS (lv_sub hl [0, 1, 2, 3] rfl)

def rmX3_projectf : Room := { frames := 3, cells := 0, slots := 0, locals := 108 }
set_option maxHeartbeats 4000000 in
set_option maxRecDepth 100000 in
/-- a project -/
theorem c_X3_projectf (l : Launch) (g : gG) (gh : gGh) (lc : LC) (n : Nat) (I : gI) (R : gR) (J : gJ) (AI : gI) (AJ : gJ) (AR : gR) (a : Nat) (ln : Nat) (inr : Nat) (out : Nat) (hv : gInv g gh R AR I AI) (ha : gO g a 3) (hln : gO g ln 0) (hin : gO g inr 4) (hout : gO g out 4) (h4 : gh 2 out = 4) (hkd : (I ln 0).toInt = 2) (hlc : lnC (I ln) (AI (gh 3 ln)) lc) (hk2 : lc.1 0 = 2) (hp4 : 0 ≤ lc.1 4) (hp3 : ∀ k : Nat, (k : Int) < lc.1 4 → lc.2 k 0 < 4) (hne : inr ≠ out) (h5 : gh 2 inr = 4) (hnx : (I inr 3).toInt = (n : Int)) (hA : okB (AI (gh 0 inr)) n) (hl0 : (I out 3).toInt = 0) (hn9 : (n : Int) ≤ (gh 1 out : Int)) : gMet l g yX3_project wsX3_project rmX3_projectf [.ref a, .ref ln, .ref inr, .ref out] (I, R, J, AI, AJ, AR) (gQi g (fun (z : Int) (w : gS) => R = w.2.1 ∧ J = w.2.2.1 ∧ AJ = w.2.2.2.2.1 ∧ AR = w.2.2.2.2.2 ∧ (gInv g gh R AR (w.1) (w.2.2.2.1)) ∧ (rF g I (w.1)) ∧ (-4 ≤ z ∧ z ≤ 0) ∧ (kI out I (w.1)) ∧ (kA gh out AI (w.2.2.2.1)) ∧ (z = 0 ∧ isB ((w.2.2.2.1) (gh 0 out)) ((w.1) out 3).toInt.toNat (sR (vK lc) (vA lc) (AI (gh 0 inr)) n s0T) zM ∧ ((w.1) out 3).toInt ≤ (n : Int)))) := by
  refine gStart (cc := cX3_project) (maxL := 5) (ret := (some (.int))) (by decide) rfl (Nat.le_of_ble_eq_true rfl) ?_
  intro p e s m below meth c ls F hr hlk hH hz hS hl
  have hl : lv_has ls 5 [(0, .ref a), (1, .ref ln), (2, .ref inr), (3, .ref out)] := hl
  have hS : va_S (gA g) s.heap s.heap [] := hS
  obtain ⟨H, hHe⟩ : ∃ H : Heap, H = s.heap := ⟨_, rfl⟩
  obtain ⟨locs, hlo⟩ : ∃ k : List Loc, k = [] := ⟨_, rfl⟩
  have hH : gH g I R J AI AJ AR H := by rw [hHe]; exact hH
  have hS : va_S (gA g) s.heap H locs := by rw [hHe, hlo]; exact hS
  suffices hw : W p l e rmX3_projectf s m ([.ref a, .ref ln, .ref inr, .ref out] : List Value).toArray below meth c H locs 0 0 (MQ below (gQi g (fun (z : Int) (w : gS) => R = w.2.1 ∧ J = w.2.2.1 ∧ AJ = w.2.2.2.2.1 ∧ AR = w.2.2.2.2.2 ∧ (gInv g gh R AR (w.1) (w.2.2.2.1)) ∧ (rF g I (w.1)) ∧ (-4 ≤ z ∧ z ≤ 0) ∧ (kI out I (w.1)) ∧ (kA gh out AI (w.2.2.2.1)) ∧ (z = 0 ∧ isB ((w.2.2.2.1) (gh 0 out)) ((w.1) out 3).toInt.toNat (sR (vK lc) (vA lc) (AI (gh 0 inr)) n s0T) zM ∧ ((w.1) out 3).toInt ≤ (n : Int)))) ([.ref a, .ref ln, .ref inr, .ref out] : List Value).toArray s 0 0 (gA g)) (F0 m 0 ls []) by
    rw [hHe, hlo] at hw; exact hw
  clear hHe hlo
  have rf : rF g I I := rF_r
  have fI : kI out I I := kI_r
  have fA : kA gh out AI AI := kA_r
  have iX4 : ∀ w ∈ u_ws RX4 TX4 4, w ∈ wsX3_project := (by decide +kernel)
  have iX3 : ∀ w ∈ u_ws RX3 TX3 3, w ∈ wsX3_project := (by decide +kernel)
  have k23 : Cond.fieldLink RX3 23 (TX4 3).1 (TX4 3).2.1 (TX4 3).2.2.1 ∈ wsX3_project := List.mem_of_getElem? (i := 1) rfl
  have k63 : Cond.fieldLink RX3 63 (TX4 2).1 (TX4 2).2.1 (TX4 2).2.2.1 ∈ wsX3_project := List.mem_of_getElem? (i := 2) rfl
  have k11 : Cond.fieldLink RX3 11 (TX3 0).1 (TX3 0).2.1 (TX3 0).2.2.1 ∈ wsX3_project := List.mem_of_getElem? (i := 3) rfl
  refine lv_aload_n F.1 F.2.1 dX3_project_0 rfl (lv_at hl 0 rfl) ?_
  refine g_callv (g_runV (As := []) (rest := []) (ci := 3) F hl.1 hH hS hz (c_X3_clearKeyf l g gh I R J AI AJ AR a hv ha) (cwV 0 F.2.2.2.2.1 gX3_project_X3_clearKey rfl rfl rfl hdX3_clearKey ⟨Nat.le_of_ble_eq_true rfl, Nat.le_of_ble_eq_true rfl⟩) ha (by decide) rfl rfl rfl (Nat.le_of_ble_eq_true rfl) dX3_project_1 ⟨Nat.zero_le _, Nat.zero_le _⟩) hS (fun I_1 R_2 J_3 AI_4 AJ_5 AR_6 H locs hp_7 hH hS => ?_)
  dsimp only at hp_7
  obtain ⟨rfl, rfl, rfl, rfl, rfl, hv, q_8, hkz0⟩ := hp_7
  have fA := kA_t fA (kA_0 q_8)
  refine z_iconst F dX3_project_4 ?_
  refine lv_istore (lv' := [(4, .int (iI 0)), (0, .ref a), (1, .ref ln), (2, .ref inr), (3, .ref out)]) F.1 F.2.1 dX3_project_5 hl (by decide) rfl (fun ls hl => ?_)
  have cut_7_10 : ∀ (NN : Nat) (i : Int) (I_9 : gI) (AI_10 : gI) (H : Heap) (locs : List Loc) (ls : Array Slot), zr i → (gInv g gh R AR I_9 AI_10) → (rF g I I_9) → ((I_9 ln 0).toInt = 2) → (0 ≤ i ∧ i ≤ 240) → (kI out I I_9) → (kA gh out AI AI_10) → (prjI (AI_10 (gh 0 out)) (I_9 out 3).toInt.toNat i.toNat (sR (vK lc) (vA lc) (AI (gh 0 inr)) i.toNat s0T)) → (0 ≤ (I_9 out 3).toInt ∧ 0 ≤ i ∧ i ≤ (n : Int)) → (∀ j : Nat, lc.1 4 ≤ (j : Int) → j < 5 → AI_10 (gh 30 0) j = 0) → (240 - i) < ((NN : Nat) : Int) → gH g I_9 R J AI_10 AJ AR H → va_S (gA g) s.heap H locs → lv_has ls 5 [(4, .int (iI i)), (0, .ref a), (1, .ref ln), (2, .ref inr), (3, .ref out)] → W p l e rmX3_projectf s m ([.ref a, .ref ln, .ref inr, .ref out] : List Value).toArray below meth c H locs 0 0 (MQ below (gQi g (fun (z : Int) (w : gS) => R = w.2.1 ∧ J = w.2.2.1 ∧ AJ = w.2.2.2.2.1 ∧ AR = w.2.2.2.2.2 ∧ (gInv g gh R AR (w.1) (w.2.2.2.1)) ∧ (rF g I (w.1)) ∧ (-4 ≤ z ∧ z ≤ 0) ∧ (kI out I (w.1)) ∧ (kA gh out AI (w.2.2.2.1)) ∧ (z = 0 ∧ isB ((w.2.2.2.1) (gh 0 out)) ((w.1) out 3).toInt.toNat (sR (vK lc) (vA lc) (AI (gh 0 inr)) n s0T) zM ∧ ((w.1) out 3).toInt ≤ (n : Int)))) ([.ref a, .ref ln, .ref inr, .ref out] : List Value).toArray s 0 0 (gA g)) (F0 m 7 ls []) := by
    intro NN7
    induction NN7 with
    | zero =>
      intro i I_9 AI_10 H locs ls zi hv rf hkd hi fI fA hpj hse2 hkz hm7 hH hS hl
      exact absurd hm7 (by omega)
    | succ NN7 ih7 =>
      intro i I_9 AI_10 H locs ls zi hv rf hkd hi fI fA hpj hse2 hkz hm7 hH hS hl
      have hX : AI_10 (gh 0 inr) = AI (gh 0 inr) := kA_x fA hv ha hout hin hne
      have hXi : I_9 inr = I inr := fI inr hne
      have hXn : (I_9 inr 3).toInt = (n : Int) := by rw [hXi]; exact hnx
      have hlcN : lnC (I_9 ln) (AI_10 (gh 3 ln)) lc := lnC_m hlc (fI ln (gO_ne hln hout (by decide))) (kA_l fA hv ha hout hln)
      have hle := hpj.2
      refine lv_iload F.1 F.2.1 dX3_project_7 (lv_at hl 0 rfl) ?_
      refine lv_aload_n F.1 F.2.1 dX3_project_9 rfl (lv_at hl 3 rfl) ?_
      refine g_getI (ci := 4) (k := 3) F hH rfl (by decide) iX4 hin (by decide) rfl k23 dX3_project_10 ?_
      obtain ⟨b_12a, b_12b, b_12c, b_12d, b_12e, b_12f, b_12g, b_12h⟩ := gI_rows hv hin
      refine z_icmp_ge (tgt := 59) F dX3_project_13 (by decide) zi (zr_t _) (fun c_13 => ?_) (fun c_13 => ?_)
      · refine z_iconst F dX3_project_59 ?_
        exact g_iret F hr hlk hH hS hz ⟨by decide, by decide⟩ ⟨rfl, rfl, rfl, rfl, hv, rf, by first | omega | rfl | (dsimp only; omega), fI, fA, ⟨rfl, by rw [← show i.toNat = n by omega]; exact hpj.1, by (try dsimp only); omega⟩⟩ dX3_project_60
      · refine lv_aload_n F.1 F.2.1 dX3_project_16 rfl (lv_at hl 2 rfl) ?_
        refine lv_aload_n F.1 F.2.1 dX3_project_17 rfl (lv_at hl 3 rfl) ?_
        obtain ⟨r_14a, r_14b⟩ := gR_cells hv hin
        refine g_getR (ci := 4) (k := 2) F hH rfl (by decide) iX4 hin (by decide) rfl (b := gh 0 inr) r_14a k63 dX3_project_18 ?_
        refine lv_iload F.1 F.2.1 dX3_project_21 (lv_at hl 0 rfl) ?_
        refine z_bipush F dX3_project_23 (by decide) ?_
        refine z_imul F dX3_project_25 ?_
        refine lv_aload_n F.1 F.2.1 dX3_project_26 rfl (lv_at hl 1 rfl) ?_
        obtain ⟨r_15a, r_15b⟩ := gR_rk0 hv ha
        refine g_getR (ci := 3) (k := 0) F hH rfl (by decide) iX3 ha (by decide) rfl (b := gh 30 0) r_15a k11 dX3_project_27 ?_
        have b_16 := gI_line hv hln
        unfold vLineI at b_16
        refine g_callv (g_runV (As := [.ref (gh 0 inr), .int (iI (i * 6)), .ref (gh 30 0)]) (rest := []) (ci := 0) F hl.1 hH hS hz (c_X0_fillTermsf l g gh (6 * gh 1 inr) lc (tg (tup (AI (gh 0 inr)) i.toNat)) 4 I_9 R J AI_10 AJ AR ln (gh 0 inr) (i * 6) (gh 30 0) ⟨by omega, by omega⟩ hv hln r_14b (by omega) (by omega) (by omega) (by omega) r_15b (ro30 hv ha) hlcN (Or.inl hk2) (fun j hj => by rw [hX]; exact rowt (by omega) j (by omega)) hp3 (cells_k hv ha hin).1) (cwV 3 F.2.2.2.2.1 gX3_project_X0_fillTerms rfl rfl rfl hdX0_fillTerms ⟨Nat.le_of_ble_eq_true rfl, Nat.le_of_ble_eq_true rfl⟩) hln (by decide) rfl rfl rfl (Nat.le_of_ble_eq_true rfl) dX3_project_30 ⟨Nat.zero_le _, Nat.zero_le _⟩) hS (fun I_17 R_18 J_19 AI_20 AJ_21 AR_22 H locs hp_23 hH hS => ?_)
        dsimp only at hp_23
        obtain ⟨rfl, rfl, rfl, rfl, rfl, hv, q_24, qft⟩ := hp_23
        have fA := kA_t fA (kA_0 q_24)
        have hkt : ∀ j, j < 4 → AI_20 (gh 30 0) j = tg (vK lc (tup (AI (gh 0 inr)) i.toNat)) j := fun j hj => by
          rw [vK_2 hk2]; unfold trT; rw [tg_mk j hj]
          by_cases e9 : (j : Int) < lc.1 4
          · rw [if_pos e9]; exact qft.1 j e9
          · rw [if_neg e9, qft.2 j (by omega)]; exact hkz j (by omega) (by omega)
        have hkz : ∀ j : Nat, lc.1 4 ≤ (j : Int) → j < 5 → AI_20 (gh 30 0) j = 0 := fun j h1 h2 => by rw [qft.2 j h1]; exact hkz j h1 h2
        have hpj : prjI (AI_20 (gh 0 out)) (I_9 out 3).toInt.toNat i.toNat (sR (vK lc) (vA lc) (AI (gh 0 inr)) i.toNat s0T) := by rw [q_24 _ (cells_k hv ha hout).1]; exact hpj
        have hX : AI_20 (gh 0 inr) = AI (gh 0 inr) := kA_x fA hv ha hout hin hne
        have hXi : I_9 inr = I inr := fI inr hne
        have hXn : (I_9 inr 3).toInt = (n : Int) := by rw [hXi]; exact hnx
        have hlcN : lnC (I_9 ln) (AI_20 (gh 3 ln)) lc := lnC_m hlc (fI ln (gO_ne hln hout (by decide))) (kA_l fA hv ha hout hln)
        refine lv_aload_n F.1 F.2.1 dX3_project_33 rfl (lv_at hl 4 rfl) ?_
        refine lv_aload_n F.1 F.2.1 dX3_project_34 rfl (lv_at hl 1 rfl) ?_
        refine g_getR (ci := 3) (k := 0) F hH rfl (by decide) iX3 ha (by decide) rfl (b := gh 30 0) r_15a k11 dX3_project_35 ?_
        refine lv_aload_n F.1 F.2.1 dX3_project_38 rfl (lv_at hl 3 rfl) ?_
        refine lv_iload F.1 F.2.1 dX3_project_39 (lv_at hl 0 rfl) ?_
        refine g_calli (g_runV (As := [.int (iI i)]) (rest := [.ref (gh 30 0), .ref out]) (ci := 4) F hl.1 hH hS hz (c_X4_amount l g gh I_9 R J AI_20 AJ AR inr i zi hv hin (by omega) (by omega)) (cwV 1 F.2.2.2.2.1 gX3_project_X4_amount rfl rfl rfl hdX4_amount ⟨Nat.le_of_ble_eq_true rfl, Nat.le_of_ble_eq_true rfl⟩) hin (by decide) rfl rfl rfl (Nat.le_of_ble_eq_true rfl) dX3_project_41 ⟨Nat.zero_le _, Nat.zero_le _⟩) hS (fun v_31 I_25 R_26 J_27 AI_28 AJ_29 AR_30 H locs zv_31 hp_32 hH hS => ?_)
        dsimp only at hp_32
        obtain ⟨rfl, rfl, rfl, rfl, rfl, rfl, qa0⟩ := hp_32
        have qa : v_31 = ((AI (gh 0 inr)) (6 * i.toNat + 4)).toInt := by rw [qa0, hX, show (i * 6 + (I_9 inr 0).toInt).toNat = 6 * i.toNat + 4 by omega]
        obtain ⟨b_33a, b_33b, b_33c, b_33d, b_33e, b_33f, b_33g, b_33h⟩ := gI_rows hv hout
        refine g_calli (g_runV (As := [.ref (gh 30 0), .int (iI v_31)]) (rest := []) (ci := 4) F hl.1 hH hS hz (c_X4_addAmountf l g gh I_9 R J AI_20 AJ AR out (gh 30 0) v_31 zv_31 hv hout r_15b (ro30 hv ha) (fun h => absurd h (by omega)) (by first | exact hfz | omega)) (cwV 2 F.2.2.2.2.1 gX3_project_X4_addAmount rfl rfl rfl hdX4_addAmount ⟨Nat.le_of_ble_eq_true rfl, Nat.le_of_ble_eq_true rfl⟩) hout (by decide) rfl rfl rfl (Nat.le_of_ble_eq_true rfl) dX3_project_44 ⟨Nat.zero_le _, Nat.zero_le _⟩) hS (fun v_40 I_34 R_35 J_36 AI_37 AJ_38 AR_39 H locs zv_40 hp_41 hH hS => ?_)
        dsimp only at hp_41
        obtain ⟨rfl, rfl, rfl, rfl, hv, q_42, q_43, qad⟩ := hp_41
        have rf := rF_t rf (rF_o hout q_42)
        have u_44 : (I_34 ln 0).toInt = (I ln 0).toInt := by rw [rf ln 0 hln (by decide)]
        have fI := kI_t fI q_42
        have fA := kA_t fA (kA_o q_43)
        rw [h4] at qad
        obtain ⟨q1, q2, hpj9⟩ := prj_step (κ := vK lc) (α := vA lc) (x := (AI (gh 0 inr))) hpj (by omega) qad (key_tu hkt) (by rw [vA_id (by omega) (by omega), qa, iI_self]) zv_31 (by omega)
        rw [show i.toNat + 1 = (i + 1).toNat by omega] at hpj9
        have hkz : ∀ j : Nat, lc.1 4 ≤ (j : Int) → j < 5 → AI_37 (gh 30 0) j = 0 := fun j h1 h2 => by rw [q_43 _ (cells_k hv ha hout).1.symm]; exact hkz j h1 h2
        refine z_if_ne (tgt := 53) F dX3_project_47 (by decide) zv_40 (fun c_45 => ?_) (fun c_45 => ?_)
        · refine z_iinc (lv' := [(4, .int (iI (i + 1))), (0, .ref a), (1, .ref ln), (2, .ref inr), (3, .ref out)]) F dX3_project_53 hl (k := 0) rfl (by decide) rfl (fun ls hl => ?_)
          refine z_goto (tgt := 7) F dX3_project_56 (by decide) ?_
          exact ih7 (i + 1) I_34 AI_37 H locs ls ⟨by omega, by omega⟩ hv rf (by omega) (by omega) fI fA hpj9 (by omega) hkz (by omega) hH hS (lv_sub hl [0, 1, 2, 3, 4] rfl)
        · refine z_bipush F dX3_project_50 (by decide) ?_
          exact g_iret F hr hlk hH hS hz ⟨by decide, by decide⟩ ⟨rfl, rfl, rfl, rfl, hv, rf, by first | omega | rfl | (dsimp only; omega), fI, fA, by omega⟩ dX3_project_52
  exact cut_7_10 (((240 - 0) + 1 : Int).toNat) 0 I AI_4 H locs ls ⟨by decide, by decide⟩ hv rf (by omega) (by omega) fI fA (by rw [show (I out 3).toInt = 0 by omega]; exact ⟨isW_0 (fun t h => h rfl), Nat.le_refl _⟩) (by omega) (fun j _ h2 => hkz0 j h2) (by omega) hH hS (lv_sub hl [0, 1, 2, 3, 4] rfl)
end
