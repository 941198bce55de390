def rmX0_holdsf : Room := { frames := 0, cells := 0, slots := 0, locals := 0 }
set_option maxHeartbeats 4000000 in
set_option maxRecDepth 100000 in
/-- whether the tests hold -/
theorem c_X0_holdsf (l : Launch) (g : gG) (gh : gGh) (n : Nat) (lc : LC) (t : Tup) (I : gI) (R : gR) (J : gJ) (AI : gI) (AJ : gJ) (AR : gR) (a : Nat) (o : Nat) (fr : Int) (zfr : zr fr) (hv : gInv g gh R AR I AI) (ha : gO g a 0) (ho : gAr g o 9 n) (hkd : (I a 0).toInt = 1) (hn : n ≤ 1440) (h2 : 0 ≤ fr) (h3 : fr + 4 ≤ (n : Int)) (hlc : lnC (I a) (AI (gh 3 a)) lc) (hk1 : lc.1 0 = 1) (ht : ∀ j, j < 4 → AI o (fr.toNat + j) = tg t j) : gMet l g yX0_holds wsX0_holds rmX0_holdsf [.ref a, .ref o, .int (iI fr)] (I, R, J, AI, AJ, AR) (gQi g (fun (z : Int) (w : gS) => I = w.1 ∧ R = w.2.1 ∧ J = w.2.2.1 ∧ AI = w.2.2.2.1 ∧ AJ = w.2.2.2.2.1 ∧ AR = w.2.2.2.2.2 ∧ (z = 0 ∨ z = 1) ∧ (tIz z (hldP lc t)))) := by
  refine gStart (cc := cX0_holds) (maxL := 8) (ret := (some (.boolean))) (by decide) rfl (Nat.le_of_ble_eq_true rfl) ?_
  intro p e s m below meth c ls F hr hlk hH hz hS hl
  have hl : lv_has ls 8 [(0, .ref a), (1, .ref o), (2, .int (iI fr))] := hl
  have hS : va_S (gA g) s.heap s.heap [] := hS
  obtain ⟨H, hHe⟩ : ∃ H : Heap, H = s.heap := ⟨_, rfl⟩
  obtain ⟨locs, hlo⟩ : ∃ k : List Loc, k = [] := ⟨_, rfl⟩
  have hH : gH g I R J AI AJ AR H := by rw [hHe]; exact hH
  have hS : va_S (gA g) s.heap H locs := by rw [hHe, hlo]; exact hS
  suffices hw : W p l e rmX0_holdsf s m ([.ref a, .ref o, .int (iI fr)] : List Value).toArray below meth c H locs 0 0 (MQ below (gQi g (fun (z : Int) (w : gS) => I = w.1 ∧ R = w.2.1 ∧ J = w.2.2.1 ∧ AI = w.2.2.2.1 ∧ AJ = w.2.2.2.2.1 ∧ AR = w.2.2.2.2.2 ∧ (z = 0 ∨ z = 1) ∧ (tIz z (hldP lc t)))) ([.ref a, .ref o, .int (iI fr)] : List Value).toArray s 0 0 (gA g)) (F0 m 0 ls []) by
    rw [hHe, hlo] at hw; exact hw
  clear hHe hlo
  have h8c := hlc.2.1 (Or.inl hk1)
  have iX0 : ∀ w ∈ u_ws RX0 TX0 15, w ∈ wsX0_holds := (by decide +kernel)
  have k34 : Cond.fieldLink RX0 34 (TX0 8).1 (TX0 8).2.1 (TX0 8).2.2.1 ∈ wsX0_holds := List.mem_of_getElem? (i := 1) rfl
  have k11 : Cond.fieldLink RX0 11 (TX0 7).1 (TX0 7).2.1 (TX0 7).2.2.1 ∈ wsX0_holds := List.mem_of_getElem? (i := 2) rfl
  refine z_iconst F dX0_holds_0 ?_
  refine lv_istore_n (lv' := [(3, .int (iI 0)), (0, .ref a), (1, .ref o), (2, .int (iI fr))]) F.1 F.2.1 dX0_holds_1 rfl hl (by decide) rfl (fun ls hl => ?_)
  have cut_2_0 : ∀ (NN : Nat) (k : Int) (H : Heap) (locs : List Loc) (ls : Array Slot), zr k → (0 ≤ k ∧ k ≤ 8) → (∀ j : Nat, (j : Int) < k → tstP lc j t) → (8 - k) < ((NN : Nat) : Int) → gH g I R J AI AJ AR H → va_S (gA g) s.heap H locs → lv_has ls 8 [(3, .int (iI k)), (0, .ref a), (1, .ref o), (2, .int (iI fr))] → W p l e rmX0_holdsf s m ([.ref a, .ref o, .int (iI fr)] : List Value).toArray below meth c H locs 0 0 (MQ below (gQi g (fun (z : Int) (w : gS) => I = w.1 ∧ R = w.2.1 ∧ J = w.2.2.1 ∧ AI = w.2.2.2.1 ∧ AJ = w.2.2.2.2.1 ∧ AR = w.2.2.2.2.2 ∧ (z = 0 ∨ z = 1) ∧ (tIz z (hldP lc t)))) ([.ref a, .ref o, .int (iI fr)] : List Value).toArray s 0 0 (gA g)) (F0 m 2 ls []) := by
    intro NN2
    induction NN2 with
    | zero =>
      intro k H locs ls zk hk hno hm2 hH hS hl
      exact absurd hm2 (by omega)
    | succ NN2 ih2 =>
      intro k H locs ls zk hk hno hm2 hH hS hl
      refine lv_iload_n F.1 F.2.1 dX0_holds_2 rfl (lv_at hl 0 rfl) ?_
      refine lv_aload_n F.1 F.2.1 dX0_holds_3 rfl (lv_at hl 1 rfl) ?_
      refine g_getI (ci := 0) (k := 8) F hH rfl (by decide) iX0 ha (by decide) rfl k34 dX0_holds_4 ?_
      have b_2 := gI_line hv ha
      unfold vLineI at b_2
      refine z_icmp_ge (tgt := 128) F dX0_holds_7 (by decide) zk (zr_t _) (fun c_3 => ?_) (fun c_3 => ?_)
      · refine z_iconst F dX0_holds_128 ?_
        exact g_zret F hr hlk hH hS hz (by omega) ⟨rfl, rfl, rfl, rfl, rfl, rfl, by first | omega | rfl | (dsimp only; omega), tIz_t (fun j hj => hno j (by omega))⟩ dX0_holds_129
      · refine lv_iload_n F.1 F.2.1 dX0_holds_10 rfl (lv_at hl 0 rfl) ?_
        refine z_iconst F dX0_holds_11 ?_
        refine z_imul F dX0_holds_12 ?_
        refine lv_istore (lv' := [(4, .int (iI (k * 4))), (3, .int (iI k)), (0, .ref a), (1, .ref o), (2, .int (iI fr))]) F.1 F.2.1 dX0_holds_13 hl (by decide) rfl (fun ls hl => ?_)
        refine lv_aload_n F.1 F.2.1 dX0_holds_15 rfl (lv_at hl 3 rfl) ?_
        refine lv_iload_n F.1 F.2.1 dX0_holds_16 rfl (lv_at hl 4 rfl) ?_
        refine lv_aload_n F.1 F.2.1 dX0_holds_17 rfl (lv_at hl 2 rfl) ?_
        obtain ⟨r_4a, r_4b⟩ := gR_parts hv ha
        refine g_getR (ci := 0) (k := 7) F hH rfl (by decide) iX0 ha (by decide) rfl (b := gh 3 a) r_4a k11 dX0_holds_18 ?_
        refine lv_iload F.1 F.2.1 dX0_holds_21 (lv_at hl 0 rfl) ?_
        have hx23 : 0 ≤ (k * 4) ∧ (k * 4) < ((32 : Nat) : Int) ∧ (k * 4) ≤ 2147483647 := ⟨by omega, by omega, by omega⟩
        refine g_iald F hH r_4b hx23.1 hx23.2.1 hx23.2.2 dX0_holds_23 ?_
        refine z_name (fun v_5 ev_5 => ?_)
        have zv_5 : zr v_5 := by rw [ev_5]; exact zr_t _
        have qa := (gP_line hv ha).1 hkd k.toNat (by omega)
        rw [show 4 * k.toNat = (k * 4).toNat from by omega, show (k * 4).toNat + 2 = ((k * 4) + 2).toNat from by omega, ← ev_5] at qa
        have hpk := hlc.2.2.2.1 hk1 k.toNat (by omega)
        have hc23 : v_5 = lc.2 k.toNat 0 := by rw [ev_5, ← hpk.1]; congr 2; omega
        refine z_iadd F dX0_holds_24 ?_
        have hx25 : 0 ≤ (fr + v_5) ∧ (fr + v_5) < ((n : Nat) : Int) ∧ (fr + v_5) ≤ 2147483647 := ⟨by omega, by omega, by omega⟩
        refine g_iald F hH ho hx25.1 hx25.2.1 hx25.2.2 dX0_holds_25 ?_
        refine z_name (fun v_6 ev_6 => ?_)
        have zv_6 : zr v_6 := by rw [ev_6]; exact zr_t _
        refine lv_istore (lv' := [(5, .int (iI v_6)), (4, .int (iI (k * 4))), (3, .int (iI k)), (0, .ref a), (1, .ref o), (2, .int (iI fr))]) F.1 F.2.1 dX0_holds_26 hl (by decide) rfl (fun ls hl => ?_)
        have hcv : v_6 = tu t (lc.2 k.toNat 0).toNat := by unfold tu; rw [← hc23, ← ht _ (by omega), ev_6]; congr 2; omega
        refine lv_aload_n F.1 F.2.1 dX0_holds_28 rfl (lv_at hl 3 rfl) ?_
        refine g_getR (ci := 0) (k := 7) F hH rfl (by decide) iX0 ha (by decide) rfl (b := gh 3 a) r_4a k11 dX0_holds_29 ?_
        refine lv_iload F.1 F.2.1 dX0_holds_32 (lv_at hl 1 rfl) ?_
        refine z_iconst F dX0_holds_34 ?_
        refine z_iadd F dX0_holds_35 ?_
        have hx36 : 0 ≤ ((k * 4) + 2) ∧ ((k * 4) + 2) < ((32 : Nat) : Int) ∧ ((k * 4) + 2) ≤ 2147483647 := ⟨by omega, by omega, by omega⟩
        refine g_iald F hH r_4b hx36.1 hx36.2.1 hx36.2.2 dX0_holds_36 ?_
        refine z_name (fun v_7 ev_7 => ?_)
        have zv_7 : zr v_7 := by rw [ev_7]; exact zr_t _
        rw [← ev_7] at qa
        have hc36 : v_7 = lc.2 k.toNat 2 := by rw [ev_7, ← hpk.2.2.1]; congr 2; omega
        refine z_iconst F dX0_holds_37 ?_
        refine z_icmp_ne (tgt := 53) F dX0_holds_38 (by decide) zv_7 ⟨by decide, by decide⟩ (fun c_8 => ?_) (fun c_8 => ?_)
        · refine lv_aload_n F.1 F.2.1 dX0_holds_53 rfl (lv_at hl 4 rfl) ?_
          refine lv_iload_n F.1 F.2.1 dX0_holds_54 rfl (lv_at hl 5 rfl) ?_
          refine lv_aload_n F.1 F.2.1 dX0_holds_55 rfl (lv_at hl 3 rfl) ?_
          refine g_getR (ci := 0) (k := 7) F hH rfl (by decide) iX0 ha (by decide) rfl (b := gh 3 a) r_4a k11 dX0_holds_56 ?_
          refine lv_iload F.1 F.2.1 dX0_holds_59 (lv_at hl 1 rfl) ?_
          refine z_iconst F dX0_holds_61 ?_
          refine z_iadd F dX0_holds_62 ?_
          have hx63 : 0 ≤ ((k * 4) + 2) ∧ ((k * 4) + 2) < ((32 : Nat) : Int) ∧ ((k * 4) + 2) ≤ 2147483647 := ⟨by omega, by omega, by omega⟩
          refine g_iald F hH r_4b hx63.1 hx63.2.1 hx63.2.2 dX0_holds_63 ?_
          refine z_name (fun v_9 ev_9 => ?_)
          have zv_9 : zr v_9 := by rw [ev_9]; exact zr_t _
          have qb := (gP_line hv ha).1 hkd k.toNat (by omega)
          rw [show 4 * k.toNat = (k * 4).toNat from by omega, show (k * 4).toNat + 2 = ((k * 4) + 2).toNat from by omega, ← ev_9] at qb
          refine z_iadd F dX0_holds_64 ?_
          have hx65 : 0 ≤ (fr + v_9) ∧ (fr + v_9) < ((n : Nat) : Int) ∧ (fr + v_9) ≤ 2147483647 := ⟨by omega, by omega, by omega⟩
          refine g_iald F hH ho hx65.1 hx65.2.1 hx65.2.2 dX0_holds_65 ?_
          refine z_name (fun v_10 ev_10 => ?_)
          have zv_10 : zr v_10 := by rw [ev_10]; exact zr_t _
          have hcw : v_10 = (if lc.2 k.toNat 2 = -1 then lc.2 k.toNat 3 else tu t (lc.2 k.toNat 2).toNat) := by rw [if_neg (by omega)]; unfold tu; rw [← ht _ (by omega), ev_10, ← hpk.2.2.1]; congr 2; omega
          refine lv_istore (lv' := [(6, .int (iI v_10)), (5, .int (iI v_6)), (4, .int (iI (k * 4))), (3, .int (iI k)), (0, .ref a), (1, .ref o), (2, .int (iI fr))]) F.1 F.2.1 dX0_holds_66 hl (by decide) rfl (fun ls hl => ?_)
          refine lv_aload_n F.1 F.2.1 dX0_holds_68 rfl (lv_at hl 4 rfl) ?_
          refine g_getR (ci := 0) (k := 7) F hH rfl (by decide) iX0 ha (by decide) rfl (b := gh 3 a) r_4a k11 dX0_holds_69 ?_
          refine lv_iload F.1 F.2.1 dX0_holds_72 (lv_at hl 2 rfl) ?_
          refine z_iconst F dX0_holds_74 ?_
          refine z_iadd F dX0_holds_75 ?_
          have hx76 : 0 ≤ ((k * 4) + 1) ∧ ((k * 4) + 1) < ((32 : Nat) : Int) ∧ ((k * 4) + 1) ≤ 2147483647 := ⟨by omega, by omega, by omega⟩
          refine g_iald F hH r_4b hx76.1 hx76.2.1 hx76.2.2 dX0_holds_76 ?_
          refine z_name (fun v_11 ev_11 => ?_)
          have zv_11 : zr v_11 := by rw [ev_11]; exact zr_t _
          have hc76 : v_11 = lc.2 k.toNat 1 := by rw [ev_11, ← hpk.2.1]; congr 2; omega
          have htst : tstP lc k.toNat t ↔ tst3 v_6 v_11 v_10 := by unfold tstP; rw [hcv, hcw, hc76]
          clear hcw
          refine lv_istore (lv' := [(7, .int (iI v_11)), (6, .int (iI v_10)), (5, .int (iI v_6)), (4, .int (iI (k * 4))), (3, .int (iI k)), (0, .ref a), (1, .ref o), (2, .int (iI fr))]) F.1 F.2.1 dX0_holds_77 hl (by decide) rfl (fun ls hl => ?_)
          refine lv_iload F.1 F.2.1 dX0_holds_79 (lv_at hl 0 rfl) ?_
          refine z_bipush F dX0_holds_81 (by decide) ?_
          refine z_icmp_ne (tgt := 96) F dX0_holds_83 (by decide) zv_11 ⟨by decide, by decide⟩ (fun c_12 => ?_) (fun c_12 => ?_)
          · refine lv_iload F.1 F.2.1 dX0_holds_96 (lv_at hl 0 rfl) ?_
            refine z_bipush F dX0_holds_98 (by decide) ?_
            refine z_icmp_ne (tgt := 113) F dX0_holds_100 (by decide) zv_11 ⟨by decide, by decide⟩ (fun c_13 => ?_) (fun c_13 => ?_)
            · refine lv_iload F.1 F.2.1 dX0_holds_113 (lv_at hl 2 rfl) ?_
              refine lv_iload F.1 F.2.1 dX0_holds_115 (lv_at hl 1 rfl) ?_
              refine z_icmp_gt (tgt := 122) F dX0_holds_117 (by decide) zv_6 zv_10 (fun c_14 => ?_) (fun c_14 => ?_)
              · refine z_iinc (lv' := [(3, .int (iI (k + 1))), (7, .int (iI v_11)), (6, .int (iI v_10)), (5, .int (iI v_6)), (4, .int (iI (k * 4))), (0, .ref a), (1, .ref o), (2, .int (iI fr))]) F dX0_holds_122 hl (k := 4) rfl (by decide) rfl (fun ls hl => ?_)
                refine z_goto (tgt := 2) F dX0_holds_125 (by decide) ?_
                exact ih2 (k + 1) H locs ls ⟨by omega, by omega⟩ (by omega) (ix_step (P := fun j => tstP lc j t) hno (by omega) (htst.mpr (tst3_y (fun _ => by omega) (fun _ => by omega) (fun _ _ => by omega)))) (by omega) hH hS (lv_sub hl [0, 5, 6, 7] rfl)
              · refine z_iconst F dX0_holds_120 ?_
                exact g_zret F hr hlk hH hS hz (by omega) ⟨rfl, rfl, rfl, rfl, rfl, rfl, by first | omega | rfl | (dsimp only; omega), tIz_f (fun h9 => by have h8 := htst.mp (h9 k.toNat (by omega)); have h7 := tst3_e h8; omega)⟩ dX0_holds_121
            · refine lv_iload F.1 F.2.1 dX0_holds_103 (lv_at hl 2 rfl) ?_
              refine lv_iload F.1 F.2.1 dX0_holds_105 (lv_at hl 1 rfl) ?_
              refine z_icmp_lt (tgt := 122) F dX0_holds_107 (by decide) zv_6 zv_10 (fun c_15 => ?_) (fun c_15 => ?_)
              · refine z_iinc (lv' := [(3, .int (iI (k + 1))), (7, .int (iI v_11)), (6, .int (iI v_10)), (5, .int (iI v_6)), (4, .int (iI (k * 4))), (0, .ref a), (1, .ref o), (2, .int (iI fr))]) F dX0_holds_122 hl (k := 4) rfl (by decide) rfl (fun ls hl => ?_)
                refine z_goto (tgt := 2) F dX0_holds_125 (by decide) ?_
                exact ih2 (k + 1) H locs ls ⟨by omega, by omega⟩ (by omega) (ix_step (P := fun j => tstP lc j t) hno (by omega) (htst.mpr (tst3_y (fun _ => by omega) (fun _ => by omega) (fun _ _ => by omega)))) (by omega) hH hS (lv_sub hl [0, 5, 6, 7] rfl)
              · refine z_goto (tgt := 120) F dX0_holds_110 (by decide) ?_
                refine z_iconst F dX0_holds_120 ?_
                exact g_zret F hr hlk hH hS hz (by omega) ⟨rfl, rfl, rfl, rfl, rfl, rfl, by first | omega | rfl | (dsimp only; omega), tIz_f (fun h9 => by have h8 := htst.mp (h9 k.toNat (by omega)); have h7 := tst3_e h8; omega)⟩ dX0_holds_121
          · refine lv_iload F.1 F.2.1 dX0_holds_86 (lv_at hl 2 rfl) ?_
            refine lv_iload F.1 F.2.1 dX0_holds_88 (lv_at hl 1 rfl) ?_
            refine z_icmp_eq (tgt := 122) F dX0_holds_90 (by decide) zv_6 zv_10 (fun c_16 => ?_) (fun c_16 => ?_)
            · refine z_iinc (lv' := [(3, .int (iI (k + 1))), (7, .int (iI v_11)), (6, .int (iI v_10)), (5, .int (iI v_6)), (4, .int (iI (k * 4))), (0, .ref a), (1, .ref o), (2, .int (iI fr))]) F dX0_holds_122 hl (k := 4) rfl (by decide) rfl (fun ls hl => ?_)
              refine z_goto (tgt := 2) F dX0_holds_125 (by decide) ?_
              exact ih2 (k + 1) H locs ls ⟨by omega, by omega⟩ (by omega) (ix_step (P := fun j => tstP lc j t) hno (by omega) (htst.mpr (tst3_y (fun _ => by omega) (fun _ => by omega) (fun _ _ => by omega)))) (by omega) hH hS (lv_sub hl [0, 5, 6, 7] rfl)
            · refine z_goto (tgt := 120) F dX0_holds_93 (by decide) ?_
              refine z_iconst F dX0_holds_120 ?_
              exact g_zret F hr hlk hH hS hz (by omega) ⟨rfl, rfl, rfl, rfl, rfl, rfl, by first | omega | rfl | (dsimp only; omega), tIz_f (fun h9 => by have h8 := htst.mp (h9 k.toNat (by omega)); have h7 := tst3_e h8; omega)⟩ dX0_holds_121
        · refine lv_aload_n F.1 F.2.1 dX0_holds_41 rfl (lv_at hl 3 rfl) ?_
          refine g_getR (ci := 0) (k := 7) F hH rfl (by decide) iX0 ha (by decide) rfl (b := gh 3 a) r_4a k11 dX0_holds_42 ?_
          refine lv_iload F.1 F.2.1 dX0_holds_45 (lv_at hl 1 rfl) ?_
          refine z_iconst F dX0_holds_47 ?_
          refine z_iadd F dX0_holds_48 ?_
          have hx49 : 0 ≤ ((k * 4) + 3) ∧ ((k * 4) + 3) < ((32 : Nat) : Int) ∧ ((k * 4) + 3) ≤ 2147483647 := ⟨by omega, by omega, by omega⟩
          refine g_iald F hH r_4b hx49.1 hx49.2.1 hx49.2.2 dX0_holds_49 ?_
          refine z_name (fun v_17 ev_17 => ?_)
          have zv_17 : zr v_17 := by rw [ev_17]; exact zr_t _
          have hcw : v_17 = (if lc.2 k.toNat 2 = -1 then lc.2 k.toNat 3 else tu t (lc.2 k.toNat 2).toNat) := by rw [if_pos (by omega), ev_17, ← hpk.2.2.2]; congr 2; omega
          refine z_goto (tgt := 66) F dX0_holds_50 (by decide) ?_
          refine lv_istore (lv' := [(6, .int (iI v_17)), (5, .int (iI v_6)), (4, .int (iI (k * 4))), (3, .int (iI k)), (0, .ref a), (1, .ref o), (2, .int (iI fr))]) F.1 F.2.1 dX0_holds_66 hl (by decide) rfl (fun ls hl => ?_)
          refine lv_aload_n F.1 F.2.1 dX0_holds_68 rfl (lv_at hl 4 rfl) ?_
          refine g_getR (ci := 0) (k := 7) F hH rfl (by decide) iX0 ha (by decide) rfl (b := gh 3 a) r_4a k11 dX0_holds_69 ?_
          refine lv_iload F.1 F.2.1 dX0_holds_72 (lv_at hl 2 rfl) ?_
          refine z_iconst F dX0_holds_74 ?_
          refine z_iadd F dX0_holds_75 ?_
          have hx76 : 0 ≤ ((k * 4) + 1) ∧ ((k * 4) + 1) < ((32 : Nat) : Int) ∧ ((k * 4) + 1) ≤ 2147483647 := ⟨by omega, by omega, by omega⟩
          refine g_iald F hH r_4b hx76.1 hx76.2.1 hx76.2.2 dX0_holds_76 ?_
          refine z_name (fun v_18 ev_18 => ?_)
          have zv_18 : zr v_18 := by rw [ev_18]; exact zr_t _
          have hc76 : v_18 = lc.2 k.toNat 1 := by rw [ev_18, ← hpk.2.1]; congr 2; omega
          have htst : tstP lc k.toNat t ↔ tst3 v_6 v_18 v_17 := by unfold tstP; rw [hcv, hcw, hc76]
          clear hcw
          refine lv_istore (lv' := [(7, .int (iI v_18)), (6, .int (iI v_17)), (5, .int (iI v_6)), (4, .int (iI (k * 4))), (3, .int (iI k)), (0, .ref a), (1, .ref o), (2, .int (iI fr))]) F.1 F.2.1 dX0_holds_77 hl (by decide) rfl (fun ls hl => ?_)
          refine lv_iload F.1 F.2.1 dX0_holds_79 (lv_at hl 0 rfl) ?_
          refine z_bipush F dX0_holds_81 (by decide) ?_
          refine z_icmp_ne (tgt := 96) F dX0_holds_83 (by decide) zv_18 ⟨by decide, by decide⟩ (fun c_19 => ?_) (fun c_19 => ?_)
          · refine lv_iload F.1 F.2.1 dX0_holds_96 (lv_at hl 0 rfl) ?_
            refine z_bipush F dX0_holds_98 (by decide) ?_
            refine z_icmp_ne (tgt := 113) F dX0_holds_100 (by decide) zv_18 ⟨by decide, by decide⟩ (fun c_20 => ?_) (fun c_20 => ?_)
            · refine lv_iload F.1 F.2.1 dX0_holds_113 (lv_at hl 2 rfl) ?_
              refine lv_iload F.1 F.2.1 dX0_holds_115 (lv_at hl 1 rfl) ?_
              refine z_icmp_gt (tgt := 122) F dX0_holds_117 (by decide) zv_6 zv_17 (fun c_21 => ?_) (fun c_21 => ?_)
              · refine z_iinc (lv' := [(3, .int (iI (k + 1))), (7, .int (iI v_18)), (6, .int (iI v_17)), (5, .int (iI v_6)), (4, .int (iI (k * 4))), (0, .ref a), (1, .ref o), (2, .int (iI fr))]) F dX0_holds_122 hl (k := 4) rfl (by decide) rfl (fun ls hl => ?_)
                refine z_goto (tgt := 2) F dX0_holds_125 (by decide) ?_
                exact ih2 (k + 1) H locs ls ⟨by omega, by omega⟩ (by omega) (ix_step (P := fun j => tstP lc j t) hno (by omega) (htst.mpr (tst3_y (fun _ => by omega) (fun _ => by omega) (fun _ _ => by omega)))) (by omega) hH hS (lv_sub hl [0, 5, 6, 7] rfl)
              · refine z_iconst F dX0_holds_120 ?_
                exact g_zret F hr hlk hH hS hz (by omega) ⟨rfl, rfl, rfl, rfl, rfl, rfl, by first | omega | rfl | (dsimp only; omega), tIz_f (fun h9 => by have h8 := htst.mp (h9 k.toNat (by omega)); have h7 := tst3_e h8; omega)⟩ dX0_holds_121
            · refine lv_iload F.1 F.2.1 dX0_holds_103 (lv_at hl 2 rfl) ?_
              refine lv_iload F.1 F.2.1 dX0_holds_105 (lv_at hl 1 rfl) ?_
              refine z_icmp_lt (tgt := 122) F dX0_holds_107 (by decide) zv_6 zv_17 (fun c_22 => ?_) (fun c_22 => ?_)
              · refine z_iinc (lv' := [(3, .int (iI (k + 1))), (7, .int (iI v_18)), (6, .int (iI v_17)), (5, .int (iI v_6)), (4, .int (iI (k * 4))), (0, .ref a), (1, .ref o), (2, .int (iI fr))]) F dX0_holds_122 hl (k := 4) rfl (by decide) rfl (fun ls hl => ?_)
                refine z_goto (tgt := 2) F dX0_holds_125 (by decide) ?_
                exact ih2 (k + 1) H locs ls ⟨by omega, by omega⟩ (by omega) (ix_step (P := fun j => tstP lc j t) hno (by omega) (htst.mpr (tst3_y (fun _ => by omega) (fun _ => by omega) (fun _ _ => by omega)))) (by omega) hH hS (lv_sub hl [0, 5, 6, 7] rfl)
              · refine z_goto (tgt := 120) F dX0_holds_110 (by decide) ?_
                refine z_iconst F dX0_holds_120 ?_
                exact g_zret F hr hlk hH hS hz (by omega) ⟨rfl, rfl, rfl, rfl, rfl, rfl, by first | omega | rfl | (dsimp only; omega), tIz_f (fun h9 => by have h8 := htst.mp (h9 k.toNat (by omega)); have h7 := tst3_e h8; omega)⟩ dX0_holds_121
          · refine lv_iload F.1 F.2.1 dX0_holds_86 (lv_at hl 2 rfl) ?_
            refine lv_iload F.1 F.2.1 dX0_holds_88 (lv_at hl 1 rfl) ?_
            refine z_icmp_eq (tgt := 122) F dX0_holds_90 (by decide) zv_6 zv_17 (fun c_23 => ?_) (fun c_23 => ?_)
            · refine z_iinc (lv' := [(3, .int (iI (k + 1))), (7, .int (iI v_18)), (6, .int (iI v_17)), (5, .int (iI v_6)), (4, .int (iI (k * 4))), (0, .ref a), (1, .ref o), (2, .int (iI fr))]) F dX0_holds_122 hl (k := 4) rfl (by decide) rfl (fun ls hl => ?_)
              refine z_goto (tgt := 2) F dX0_holds_125 (by decide) ?_
              exact ih2 (k + 1) H locs ls ⟨by omega, by omega⟩ (by omega) (ix_step (P := fun j => tstP lc j t) hno (by omega) (htst.mpr (tst3_y (fun _ => by omega) (fun _ => by omega) (fun _ _ => by omega)))) (by omega) hH hS (lv_sub hl [0, 5, 6, 7] rfl)
            · refine z_goto (tgt := 120) F dX0_holds_93 (by decide) ?_
              refine z_iconst F dX0_holds_120 ?_
              exact g_zret F hr hlk hH hS hz (by omega) ⟨rfl, rfl, rfl, rfl, rfl, rfl, by first | omega | rfl | (dsimp only; omega), tIz_f (fun h9 => by have h8 := htst.mp (h9 k.toNat (by omega)); have h7 := tst3_e h8; omega)⟩ dX0_holds_121
  exact cut_2_0 (((8 - 0) + 1 : Int).toNat) 0 H locs ls ⟨by decide, by decide⟩ (by omega) (fun j hj => absurd hj (by omega)) (by omega) hH hS (lv_sub hl [0, 1, 2, 3] rfl)

def rmX0_fillTermsf : Room := { frames := 0, cells := 0, slots := 0, locals := 0 }
set_option maxHeartbeats 4000000 in
set_option maxRecDepth 100000 in
/-- the terms -/
theorem c_X0_fillTermsf (l : Launch) (g : gG) (gh : gGh) (n : Nat) (lc : LC) (hh : Nat → Int32) (cw : Int) (I : gI) (R : gR) (J : gJ) (AI : gI) (AJ : gJ) (AR : gR) (a : Nat) (o : Nat) (fr : Int) (k : Nat) (zfr : zr fr) (hv : gInv g gh R AR I AI) (ha : gO g a 0) (ho : gAr g o 9 n) (hkd : (I a 0).toInt = 0 ∨ (I a 0).toInt = 2 ∨ (I a 0).toInt = 8) (hn : n ≤ 1440) (h2 : 0 ≤ fr) (h3 : fr + 4 ≤ (n : Int)) (hk : gAr g k 9 5) (hk0 : gh 9 k = 0) (hlc : lnC (I a) (AI (gh 3 a)) lc) (hk2 : lc.1 0 = 2 ∨ lc.1 0 = 3 ∨ lc.1 0 = 8) (hhh : ∀ j : Nat, (j : Int) < cw → AI o (fr.toNat + j) = hh j) (hcw : ∀ k : Nat, (k : Int) < lc.1 4 → lc.2 k 0 < cw) (hok : o ≠ k) : gMet l g yX0_fillTerms wsX0_fillTerms rmX0_fillTermsf [.ref a, .ref o, .int (iI fr), .ref k] (I, R, J, AI, AJ, AR) (gQv g (fun w : gS => I = w.1 ∧ R = w.2.1 ∧ J = w.2.2.1 ∧ AJ = w.2.2.2.2.1 ∧ AR = w.2.2.2.2.2 ∧ (gInv g gh R AR I (w.2.2.2.1)) ∧ (∀ b, b ≠ k → (w.2.2.2.1) b = AI b) ∧ ((∀ j : Nat, (j : Int) < lc.1 4 → (w.2.2.2.1) k j = trm lc hh j) ∧ ∀ j : Nat, lc.1 4 ≤ (j : Int) → (w.2.2.2.1) k j = AI k j))) := by
  refine gStart (cc := cX0_fillTerms) (maxL := 6) (ret := none) (by decide) rfl (Nat.le_of_ble_eq_true rfl) ?_
  intro p e s m below meth c ls F hr hlk hH hz hS hl
  have hl : lv_has ls 6 [(0, .ref a), (1, .ref o), (2, .int (iI fr)), (3, .ref k)] := hl
  have hS : va_S (gA g) s.heap s.heap [] := hS
  obtain ⟨H, hHe⟩ : ∃ H : Heap, H = s.heap := ⟨_, rfl⟩
  obtain ⟨locs, hlo⟩ : ∃ k : List Loc, k = [] := ⟨_, rfl⟩
  have hH : gH g I R J AI AJ AR H := by rw [hHe]; exact hH
  have hS : va_S (gA g) s.heap H locs := by rw [hHe, hlo]; exact hS
  suffices hw : W p l e rmX0_fillTermsf s m ([.ref a, .ref o, .int (iI fr), .ref k] : List Value).toArray below meth c H locs 0 0 (MQ below (gQv g (fun w : gS => I = w.1 ∧ R = w.2.1 ∧ J = w.2.2.1 ∧ AJ = w.2.2.2.2.1 ∧ AR = w.2.2.2.2.2 ∧ (gInv g gh R AR I (w.2.2.2.1)) ∧ (∀ b, b ≠ k → (w.2.2.2.1) b = AI b) ∧ ((∀ j : Nat, (j : Int) < lc.1 4 → (w.2.2.2.1) k j = trm lc hh j) ∧ ∀ j : Nat, lc.1 4 ≤ (j : Int) → (w.2.2.2.1) k j = AI k j))) ([.ref a, .ref o, .int (iI fr), .ref k] : List Value).toArray s 0 0 (gA g)) (F0 m 0 ls []) by
    rw [hHe, hlo] at hw; exact hw
  clear hHe hlo
  have h8c := hlc.2.1 (by omega)
  have hb8 := gI_line hv ha
  unfold vLineI at hb8
  have hpn : gh 3 a ≠ k := ne_9 (ln_9 hv ha) hk0 (by decide)
  have iX0 : ∀ w ∈ u_ws RX0 TX0 15, w ∈ wsX0_fillTerms := (by decide +kernel)
  have k34 : Cond.fieldLink RX0 34 (TX0 8).1 (TX0 8).2.1 (TX0 8).2.2.1 ∈ wsX0_fillTerms := List.mem_of_getElem? (i := 1) rfl
  have k11 : Cond.fieldLink RX0 11 (TX0 7).1 (TX0 7).2.1 (TX0 7).2.2.1 ∈ wsX0_fillTerms := List.mem_of_getElem? (i := 2) rfl
  refine z_iconst F dX0_fillTerms_0 ?_
  refine lv_istore (lv' := [(4, .int (iI 0)), (0, .ref a), (1, .ref o), (2, .int (iI fr)), (3, .ref k)]) F.1 F.2.1 dX0_fillTerms_1 hl (by decide) rfl (fun ls hl => ?_)
  have cut_3_1 : ∀ (NN : Nat) (i : Int) (AI_1 : gI) (H : Heap) (locs : List Loc) (ls : Array Slot), zr i → (gInv g gh R AR I AI_1) → (∀ b, b ≠ k → AI_1 b = AI b) → (0 ≤ i ∧ i ≤ 8) → (i ≤ (I a 8).toInt) → ((∀ j : Nat, (j : Int) < i → AI_1 k j = trm lc hh j) ∧ ∀ j : Nat, i ≤ (j : Int) → AI_1 k j = AI k j) → (8 - i) < ((NN : Nat) : Int) → gH g I R J AI_1 AJ AR H → va_S (gA g) s.heap H locs → lv_has ls 6 [(4, .int (iI i)), (0, .ref a), (1, .ref o), (2, .int (iI fr)), (3, .ref k)] → W p l e rmX0_fillTermsf s m ([.ref a, .ref o, .int (iI fr), .ref k] : List Value).toArray below meth c H locs 0 0 (MQ below (gQv g (fun w : gS => I = w.1 ∧ R = w.2.1 ∧ J = w.2.2.1 ∧ AJ = w.2.2.2.2.1 ∧ AR = w.2.2.2.2.2 ∧ (gInv g gh R AR I (w.2.2.2.1)) ∧ (∀ b, b ≠ k → (w.2.2.2.1) b = AI b) ∧ ((∀ j : Nat, (j : Int) < lc.1 4 → (w.2.2.2.1) k j = trm lc hh j) ∧ ∀ j : Nat, lc.1 4 ≤ (j : Int) → (w.2.2.2.1) k j = AI k j))) ([.ref a, .ref o, .int (iI fr), .ref k] : List Value).toArray s 0 0 (gA g)) (F0 m 3 ls []) := by
    intro NN3
    induction NN3 with
    | zero =>
      intro i AI_1 H locs ls zi hv fA hi hi8 hq hm3 hH hS hl
      exact absurd hm3 (by omega)
    | succ NN3 ih3 =>
      intro i AI_1 H locs ls zi hv fA hi hi8 hq hm3 hH hS hl
      have hlc : lnC (I a) (AI_1 (gh 3 a)) lc := lnC_m hlc rfl (fA _ hpn)
      refine lv_iload F.1 F.2.1 dX0_fillTerms_3 (lv_at hl 0 rfl) ?_
      refine lv_aload_n F.1 F.2.1 dX0_fillTerms_5 rfl (lv_at hl 1 rfl) ?_
      refine g_getI (ci := 0) (k := 8) F hH rfl (by decide) iX0 ha (by decide) rfl k34 dX0_fillTerms_6 ?_
      have b_3 := gI_line hv ha
      unfold vLineI at b_3
      refine z_icmp_ge (tgt := 61) F dX0_fillTerms_9 (by decide) zi (zr_t _) (fun c_4 => ?_) (fun c_4 => ?_)
      · exact g_vret F hr hlk hH hS hz ⟨rfl, rfl, rfl, rfl, rfl, hv, fun b hb => fA b hb, ⟨fun j hj => hq.1 j (by omega), fun j hj => hq.2 j (by omega)⟩⟩ dX0_fillTerms_61
      · refine lv_aload_n F.1 F.2.1 dX0_fillTerms_12 rfl (lv_at hl 1 rfl) ?_
        obtain ⟨r_5a, r_5b⟩ := gR_parts hv ha
        refine g_getR (ci := 0) (k := 7) F hH rfl (by decide) iX0 ha (by decide) rfl (b := gh 3 a) r_5a k11 dX0_fillTerms_13 ?_
        refine z_iconst F dX0_fillTerms_16 ?_
        refine lv_iload F.1 F.2.1 dX0_fillTerms_17 (lv_at hl 0 rfl) ?_
        refine z_imul F dX0_fillTerms_19 ?_
        have hx20 : 0 ≤ (2 * i) ∧ (2 * i) < ((32 : Nat) : Int) ∧ (2 * i) ≤ 2147483647 := ⟨by omega, by omega, by omega⟩
        refine g_iald F hH r_5b hx20.1 hx20.2.1 hx20.2.2 dX0_fillTerms_20 ?_
        refine z_name (fun v_6 ev_6 => ?_)
        have zv_6 : zr v_6 := by rw [ev_6]; exact zr_t _
        have qp := (gP_line hv ha).2.1 hkd
        have qa := qp.2 i.toNat (by omega)
        rw [show 2 * i.toNat = (2 * i).toNat from by omega, ← ev_6] at qa
        have hpk := hlc.2.2.2.2.1 hk2 i.toNat (by omega)
        have hc20 : v_6 = lc.2 i.toNat 0 := by rw [ev_6, ← hpk.1]; congr 2; omega
        refine lv_istore (lv' := [(5, .int (iI v_6)), (4, .int (iI i)), (0, .ref a), (1, .ref o), (2, .int (iI fr)), (3, .ref k)]) F.1 F.2.1 dX0_fillTerms_21 hl (by decide) rfl (fun ls hl => ?_)
        refine lv_aload_n F.1 F.2.1 dX0_fillTerms_23 rfl (lv_at hl 5 rfl) ?_
        refine lv_iload F.1 F.2.1 dX0_fillTerms_24 (lv_at hl 1 rfl) ?_
        refine lv_iload F.1 F.2.1 dX0_fillTerms_26 (lv_at hl 0 rfl) ?_
        refine z_iconst F dX0_fillTerms_28 ?_
        refine z_icmp_ne (tgt := 36) F dX0_fillTerms_29 (by decide) zv_6 ⟨by decide, by decide⟩ (fun c_7 => ?_) (fun c_7 => ?_)
        · refine lv_aload_n F.1 F.2.1 dX0_fillTerms_36 rfl (lv_at hl 3 rfl) ?_
          refine lv_iload_n F.1 F.2.1 dX0_fillTerms_37 rfl (lv_at hl 4 rfl) ?_
          refine lv_iload F.1 F.2.1 dX0_fillTerms_38 (lv_at hl 0 rfl) ?_
          refine z_iadd F dX0_fillTerms_40 ?_
          have hx41 : 0 ≤ (fr + v_6) ∧ (fr + v_6) < ((n : Nat) : Int) ∧ (fr + v_6) ≤ 2147483647 := ⟨by omega, by omega, by omega⟩
          refine g_iald F hH ho hx41.1 hx41.2.1 hx41.2.2 dX0_fillTerms_41 ?_
          refine z_name (fun v_8 ev_8 => ?_)
          have zv_8 : zr v_8 := by rw [ev_8]; exact zr_t _
          have hc41 : iI v_8 = hh (lc.2 i.toNat 0).toNat := by rw [ev_8, iI_self, ← hc20, ← hhh _ (by have := hcw i.toNat (by omega); omega), fA _ hok]; congr 1; omega
          refine lv_aload_n F.1 F.2.1 dX0_fillTerms_42 rfl (lv_at hl 2 rfl) ?_
          refine g_getR (ci := 0) (k := 7) F hH rfl (by decide) iX0 ha (by decide) rfl (b := gh 3 a) r_5a k11 dX0_fillTerms_43 ?_
          refine z_iconst F dX0_fillTerms_46 ?_
          refine lv_iload F.1 F.2.1 dX0_fillTerms_47 (lv_at hl 1 rfl) ?_
          refine z_imul F dX0_fillTerms_49 ?_
          refine z_iconst F dX0_fillTerms_50 ?_
          refine z_iadd F dX0_fillTerms_51 ?_
          have hx52 : 0 ≤ ((2 * i) + 1) ∧ ((2 * i) + 1) < ((32 : Nat) : Int) ∧ ((2 * i) + 1) ≤ 2147483647 := ⟨by omega, by omega, by omega⟩
          refine g_iald F hH r_5b hx52.1 hx52.2.1 hx52.2.2 dX0_fillTerms_52 ?_
          refine z_name (fun v_9 ev_9 => ?_)
          have zv_9 : zr v_9 := by rw [ev_9]; exact zr_t _
          have hc52 : iI v_9 = iI (lc.2 i.toNat 1) := by rw [ev_9, iI_self, ← hpk.2, iI_self, fA _ hpn]; congr 1; omega
          refine z_iadd F dX0_fillTerms_53 ?_
          refine z_norm (fun v_10 zv_10 ev_10 => ?_)
          have hc53 : iI v_10 = trm lc hh i.toNat := by unfold trm; rw [if_neg (by omega), ev_10, ← iI_add, hc41, hc52]
          have hx54 : 0 ≤ i ∧ i < ((5 : Nat) : Int) ∧ i ≤ 2147483647 := ⟨by omega, by omega, by omega⟩
          refine g_iast F hH hS hk hx54.1 hx54.2.1 hx54.2.2 dX0_fillTerms_54 (fun H locs hH hS => ?_)
          obtain ⟨AI_11, eAI_11⟩ : ∃ qQ, qQ = gup2 AI_1 k (i).toNat (iI (v_10)) := ⟨_, rfl⟩
          rw [← eAI_11] at hH
          have kAI_11 : ∀ b, b ≠ k → AI_11 b = AI_1 b := fun b hb => by rw [eAI_11]; exact funext fun j => gup2_a _ _ hb
          have hv : gInv g gh R AR I AI_11 := gInv_plain hv hk0 kAI_11
          have hq1 : ∀ j : Nat, (j : Int) < i + 1 → AI_11 k j = trm lc hh j := fun j hj => by
            by_cases e9 : (j : Int) = i
            · rw [eAI_11, gup2_e _ _ (by omega), hc53, show i.toNat = j by omega]
            · rw [eAI_11, gup2_k _ _ (by omega)]; exact hq.1 j (by omega)
          have hq2 : ∀ j : Nat, i + 1 ≤ (j : Int) → AI_11 k j = AI k j := fun j hj => by rw [eAI_11, gup2_k _ _ (by omega)]; exact hq.2 j (by omega)
          refine z_iinc (lv' := [(4, .int (iI (i + 1))), (5, .int (iI v_6)), (0, .ref a), (1, .ref o), (2, .int (iI fr)), (3, .ref k)]) F dX0_fillTerms_55 hl (k := 1) rfl (by decide) rfl (fun ls hl => ?_)
          refine z_goto (tgt := 3) F dX0_fillTerms_58 (by decide) ?_
          exact ih3 (i + 1) AI_11 H locs ls ⟨by omega, by omega⟩ hv (fun b hb => (kAI_11 b hb).trans (fA b hb)) (by omega) (by omega) ⟨hq1, hq2⟩ (by omega) hH hS (lv_sub hl [0, 2, 3, 4, 5] rfl)
        · refine z_iconst F dX0_fillTerms_32 ?_
          refine z_goto (tgt := 42) F dX0_fillTerms_33 (by decide) ?_
          refine lv_aload_n F.1 F.2.1 dX0_fillTerms_42 rfl (lv_at hl 2 rfl) ?_
          refine g_getR (ci := 0) (k := 7) F hH rfl (by decide) iX0 ha (by decide) rfl (b := gh 3 a) r_5a k11 dX0_fillTerms_43 ?_
          refine z_iconst F dX0_fillTerms_46 ?_
          refine lv_iload F.1 F.2.1 dX0_fillTerms_47 (lv_at hl 1 rfl) ?_
          refine z_imul F dX0_fillTerms_49 ?_
          refine z_iconst F dX0_fillTerms_50 ?_
          refine z_iadd F dX0_fillTerms_51 ?_
          have hx52 : 0 ≤ ((2 * i) + 1) ∧ ((2 * i) + 1) < ((32 : Nat) : Int) ∧ ((2 * i) + 1) ≤ 2147483647 := ⟨by omega, by omega, by omega⟩
          refine g_iald F hH r_5b hx52.1 hx52.2.1 hx52.2.2 dX0_fillTerms_52 ?_
          refine z_name (fun v_12 ev_12 => ?_)
          have zv_12 : zr v_12 := by rw [ev_12]; exact zr_t _
          have hc52 : iI v_12 = iI (lc.2 i.toNat 1) := by rw [ev_12, iI_self, ← hpk.2, iI_self, fA _ hpn]; congr 1; omega
          refine z_iadd F dX0_fillTerms_53 ?_
          refine z_norm (fun v_13 zv_13 ev_13 => ?_)
          have hc53 : iI v_13 = trm lc hh i.toNat := by unfold trm; rw [if_pos (by omega), ev_13, ← iI_add, hc52]; rfl
          have hx54 : 0 ≤ i ∧ i < ((5 : Nat) : Int) ∧ i ≤ 2147483647 := ⟨by omega, by omega, by omega⟩
          refine g_iast F hH hS hk hx54.1 hx54.2.1 hx54.2.2 dX0_fillTerms_54 (fun H locs hH hS => ?_)
          obtain ⟨AI_14, eAI_14⟩ : ∃ qQ, qQ = gup2 AI_1 k (i).toNat (iI (v_13)) := ⟨_, rfl⟩
          rw [← eAI_14] at hH
          have kAI_14 : ∀ b, b ≠ k → AI_14 b = AI_1 b := fun b hb => by rw [eAI_14]; exact funext fun j => gup2_a _ _ hb
          have hv : gInv g gh R AR I AI_14 := gInv_plain hv hk0 kAI_14
          have hq1 : ∀ j : Nat, (j : Int) < i + 1 → AI_14 k j = trm lc hh j := fun j hj => by
            by_cases e9 : (j : Int) = i
            · rw [eAI_14, gup2_e _ _ (by omega), hc53, show i.toNat = j by omega]
            · rw [eAI_14, gup2_k _ _ (by omega)]; exact hq.1 j (by omega)
          have hq2 : ∀ j : Nat, i + 1 ≤ (j : Int) → AI_14 k j = AI k j := fun j hj => by rw [eAI_14, gup2_k _ _ (by omega)]; exact hq.2 j (by omega)
          refine z_iinc (lv' := [(4, .int (iI (i + 1))), (5, .int (iI v_6)), (0, .ref a), (1, .ref o), (2, .int (iI fr)), (3, .ref k)]) F dX0_fillTerms_55 hl (k := 1) rfl (by decide) rfl (fun ls hl => ?_)
          refine z_goto (tgt := 3) F dX0_fillTerms_58 (by decide) ?_
          exact ih3 (i + 1) AI_14 H locs ls ⟨by omega, by omega⟩ hv (fun b hb => (kAI_14 b hb).trans (fA b hb)) (by omega) (by omega) ⟨hq1, hq2⟩ (by omega) hH hS (lv_sub hl [0, 2, 3, 4, 5] rfl)
  exact cut_3_1 (((8 - 0) + 1 : Int).toNat) 0 AI H locs ls ⟨by decide, by decide⟩ hv (fun _ _ => rfl) (by omega) (by omega) ⟨fun j hj => absurd hj (by omega), fun _ _ => rfl⟩ (by omega) hH hS (lv_sub hl [0, 1, 2, 3, 4] rfl)

def rmX0_pairsAreAlikef : Room := { frames := 0, cells := 0, slots := 0, locals := 0 }
set_option maxHeartbeats 4000000 in
set_option maxRecDepth 100000 in
/-- whether the pairs are alike -/
theorem c_X0_pairsAreAlikef (l : Launch) (g : gG) (gh : gGh) (n n2 : Nat) (lc : LC) (t u : Tup) (I : gI) (R : gR) (J : gJ) (AI : gI) (AJ : gJ) (AR : gR) (a : Nat) (o : Nat) (fr : Int) (o2 : Nat) (fr2 : Int) (zfr : zr fr) (zfr2 : zr fr2) (hv : gInv g gh R AR I AI) (ha : gO g a 0) (ho : gAr g o 9 n) (hkd : (I a 0).toInt = 3) (hn : n ≤ 1440) (h2 : 0 ≤ fr) (h3 : fr + 4 ≤ (n : Int)) (ho2 : gAr g o2 9 n2) (hn2 : n2 ≤ 1440) (h4 : 0 ≤ fr2) (h5 : fr2 + 4 ≤ (n2 : Int)) (hlc : lnC (I a) (AI (gh 3 a)) lc) (hk3 : lc.1 0 = 3) (ht : ∀ j, j < 4 → AI o (fr.toNat + j) = tg t j) (hu : ∀ j, j < 4 → AI o2 (fr2.toNat + j) = tg u j) : gMet l g yX0_pairsAreAlike wsX0_pairsAreAlike rmX0_pairsAreAlikef [.ref a, .ref o, .int (iI fr), .ref o2, .int (iI fr2)] (I, R, J, AI, AJ, AR) (gQi g (fun (z : Int) (w : gS) => I = w.1 ∧ R = w.2.1 ∧ J = w.2.2.1 ∧ AI = w.2.2.2.1 ∧ AJ = w.2.2.2.2.1 ∧ AR = w.2.2.2.2.2 ∧ (z = 0 ∨ z = 1) ∧ (tIz z (alk lc t u)))) := by
  refine gStart (cc := cX0_pairsAreAlike) (maxL := 6) (ret := (some (.boolean))) (by decide) rfl (Nat.le_of_ble_eq_true rfl) ?_
  intro p e s m below meth c ls F hr hlk hH hz hS hl
  have hl : lv_has ls 6 [(0, .ref a), (1, .ref o), (2, .int (iI fr)), (3, .ref o2), (4, .int (iI fr2))] := hl
  have hS : va_S (gA g) s.heap s.heap [] := hS
  obtain ⟨H, hHe⟩ : ∃ H : Heap, H = s.heap := ⟨_, rfl⟩
  obtain ⟨locs, hlo⟩ : ∃ k : List Loc, k = [] := ⟨_, rfl⟩
  have hH : gH g I R J AI AJ AR H := by rw [hHe]; exact hH
  have hS : va_S (gA g) s.heap H locs := by rw [hHe, hlo]; exact hS
  suffices hw : W p l e rmX0_pairsAreAlikef s m ([.ref a, .ref o, .int (iI fr), .ref o2, .int (iI fr2)] : List Value).toArray below meth c H locs 0 0 (MQ below (gQi g (fun (z : Int) (w : gS) => I = w.1 ∧ R = w.2.1 ∧ J = w.2.2.1 ∧ AI = w.2.2.2.1 ∧ AJ = w.2.2.2.2.1 ∧ AR = w.2.2.2.2.2 ∧ (z = 0 ∨ z = 1) ∧ (tIz z (alk lc t u)))) ([.ref a, .ref o, .int (iI fr), .ref o2, .int (iI fr2)] : List Value).toArray s 0 0 (gA g)) (F0 m 0 ls []) by
    rw [hHe, hlo] at hw; exact hw
  clear hHe hlo
  have h8c := hlc.2.1 (by omega)
  have iX0 : ∀ w ∈ u_ws RX0 TX0 15, w ∈ wsX0_pairsAreAlike := (by decide +kernel)
  have k34 : Cond.fieldLink RX0 34 (TX0 8).1 (TX0 8).2.1 (TX0 8).2.2.1 ∈ wsX0_pairsAreAlike := List.mem_of_getElem? (i := 1) rfl
  have k11 : Cond.fieldLink RX0 11 (TX0 7).1 (TX0 7).2.1 (TX0 7).2.2.1 ∈ wsX0_pairsAreAlike := List.mem_of_getElem? (i := 2) rfl
  refine z_iconst F dX0_pairsAreAlike_0 ?_
  refine lv_istore (lv' := [(5, .int (iI 0)), (0, .ref a), (1, .ref o), (2, .int (iI fr)), (3, .ref o2), (4, .int (iI fr2))]) F.1 F.2.1 dX0_pairsAreAlike_1 hl (by decide) rfl (fun ls hl => ?_)
  have cut_3_0 : ∀ (NN : Nat) (i : Int) (H : Heap) (locs : List Loc) (ls : Array Slot), zr i → (0 ≤ i ∧ i ≤ 8) → (∀ j : Nat, (j : Int) < i → tg t (lc.2 j 0).toNat = tg u (lc.2 j 1).toNat) → (8 - i) < ((NN : Nat) : Int) → gH g I R J AI AJ AR H → va_S (gA g) s.heap H locs → lv_has ls 6 [(5, .int (iI i)), (0, .ref a), (1, .ref o), (2, .int (iI fr)), (3, .ref o2), (4, .int (iI fr2))] → W p l e rmX0_pairsAreAlikef s m ([.ref a, .ref o, .int (iI fr), .ref o2, .int (iI fr2)] : List Value).toArray below meth c H locs 0 0 (MQ below (gQi g (fun (z : Int) (w : gS) => I = w.1 ∧ R = w.2.1 ∧ J = w.2.2.1 ∧ AI = w.2.2.2.1 ∧ AJ = w.2.2.2.2.1 ∧ AR = w.2.2.2.2.2 ∧ (z = 0 ∨ z = 1) ∧ (tIz z (alk lc t u)))) ([.ref a, .ref o, .int (iI fr), .ref o2, .int (iI fr2)] : List Value).toArray s 0 0 (gA g)) (F0 m 3 ls []) := by
    intro NN3
    induction NN3 with
    | zero =>
      intro i H locs ls zi hi hno hm3 hH hS hl
      exact absurd hm3 (by omega)
    | succ NN3 ih3 =>
      intro i H locs ls zi hi hno hm3 hH hS hl
      refine lv_iload F.1 F.2.1 dX0_pairsAreAlike_3 (lv_at hl 0 rfl) ?_
      refine lv_aload_n F.1 F.2.1 dX0_pairsAreAlike_5 rfl (lv_at hl 1 rfl) ?_
      refine g_getI (ci := 0) (k := 8) F hH rfl (by decide) iX0 ha (by decide) rfl k34 dX0_pairsAreAlike_6 ?_
      have b_2 := gI_line hv ha
      unfold vLineI at b_2
      refine z_icmp_ge (tgt := 52) F dX0_pairsAreAlike_9 (by decide) zi (zr_t _) (fun c_3 => ?_) (fun c_3 => ?_)
      · refine z_iconst F dX0_pairsAreAlike_52 ?_
        exact g_zret F hr hlk hH hS hz (by omega) ⟨rfl, rfl, rfl, rfl, rfl, rfl, by first | omega | rfl | (dsimp only; omega), tIz_t (fun j hj => hno j (by omega))⟩ dX0_pairsAreAlike_53
      · refine lv_aload_n F.1 F.2.1 dX0_pairsAreAlike_12 rfl (lv_at hl 2 rfl) ?_
        refine lv_iload_n F.1 F.2.1 dX0_pairsAreAlike_13 rfl (lv_at hl 3 rfl) ?_
        refine lv_aload_n F.1 F.2.1 dX0_pairsAreAlike_14 rfl (lv_at hl 1 rfl) ?_
        obtain ⟨r_4a, r_4b⟩ := gR_parts hv ha
        refine g_getR (ci := 0) (k := 7) F hH rfl (by decide) iX0 ha (by decide) rfl (b := gh 3 a) r_4a k11 dX0_pairsAreAlike_15 ?_
        refine z_iconst F dX0_pairsAreAlike_18 ?_
        refine lv_iload F.1 F.2.1 dX0_pairsAreAlike_19 (lv_at hl 0 rfl) ?_
        refine z_imul F dX0_pairsAreAlike_21 ?_
        have hx22 : 0 ≤ (2 * i) ∧ (2 * i) < ((32 : Nat) : Int) ∧ (2 * i) ≤ 2147483647 := ⟨by omega, by omega, by omega⟩
        refine g_iald F hH r_4b hx22.1 hx22.2.1 hx22.2.2 dX0_pairsAreAlike_22 ?_
        refine z_name (fun v_5 ev_5 => ?_)
        have zv_5 : zr v_5 := by rw [ev_5]; exact zr_t _
        have qp := (gP_line hv ha).2.2.1 hkd
        have qa := qp.2 i.toNat (by omega)
        rw [show 2 * i.toNat = (2 * i).toNat from by omega, show (2 * i).toNat + 1 = ((2 * i) + 1).toNat from by omega, ← ev_5] at qa
        have hpk := hlc.2.2.2.2.1 (Or.inr (Or.inl hk3)) i.toNat (by omega)
        have hc22 : v_5 = lc.2 i.toNat 0 := by rw [ev_5, ← hpk.1]; congr 2; omega
        refine z_iadd F dX0_pairsAreAlike_23 ?_
        have hx24 : 0 ≤ (fr + v_5) ∧ (fr + v_5) < ((n : Nat) : Int) ∧ (fr + v_5) ≤ 2147483647 := ⟨by omega, by omega, by omega⟩
        refine g_iald F hH ho hx24.1 hx24.2.1 hx24.2.2 dX0_pairsAreAlike_24 ?_
        refine z_name (fun v_6 ev_6 => ?_)
        have zv_6 : zr v_6 := by rw [ev_6]; exact zr_t _
        have hc24 : iI v_6 = tg t (lc.2 i.toNat 0).toNat := by rw [← hc22, ← ht _ (by omega), ev_6, iI_self]; congr 1; omega
        refine lv_aload_n F.1 F.2.1 dX0_pairsAreAlike_25 rfl (lv_at hl 4 rfl) ?_
        refine lv_iload F.1 F.2.1 dX0_pairsAreAlike_26 (lv_at hl 5 rfl) ?_
        refine lv_aload_n F.1 F.2.1 dX0_pairsAreAlike_28 rfl (lv_at hl 1 rfl) ?_
        refine g_getR (ci := 0) (k := 7) F hH rfl (by decide) iX0 ha (by decide) rfl (b := gh 3 a) r_4a k11 dX0_pairsAreAlike_29 ?_
        refine z_iconst F dX0_pairsAreAlike_32 ?_
        refine lv_iload F.1 F.2.1 dX0_pairsAreAlike_33 (lv_at hl 0 rfl) ?_
        refine z_imul F dX0_pairsAreAlike_35 ?_
        refine z_iconst F dX0_pairsAreAlike_36 ?_
        refine z_iadd F dX0_pairsAreAlike_37 ?_
        have hx38 : 0 ≤ ((2 * i) + 1) ∧ ((2 * i) + 1) < ((32 : Nat) : Int) ∧ ((2 * i) + 1) ≤ 2147483647 := ⟨by omega, by omega, by omega⟩
        refine g_iald F hH r_4b hx38.1 hx38.2.1 hx38.2.2 dX0_pairsAreAlike_38 ?_
        refine z_name (fun v_7 ev_7 => ?_)
        have zv_7 : zr v_7 := by rw [ev_7]; exact zr_t _
        rw [← ev_7] at qa
        have hc38 : v_7 = lc.2 i.toNat 1 := by rw [ev_7, ← hpk.2]; congr 2; omega
        refine z_iadd F dX0_pairsAreAlike_39 ?_
        have hx40 : 0 ≤ (fr2 + v_7) ∧ (fr2 + v_7) < ((n2 : Nat) : Int) ∧ (fr2 + v_7) ≤ 2147483647 := ⟨by omega, by omega, by omega⟩
        refine g_iald F hH ho2 hx40.1 hx40.2.1 hx40.2.2 dX0_pairsAreAlike_40 ?_
        refine z_name (fun v_8 ev_8 => ?_)
        have zv_8 : zr v_8 := by rw [ev_8]; exact zr_t _
        have hc40 : iI v_8 = tg u (lc.2 i.toNat 1).toNat := by rw [← hc38, ← hu _ (by omega), ev_8, iI_self]; congr 1; omega
        refine z_icmp_eq (tgt := 46) F dX0_pairsAreAlike_41 (by decide) zv_6 zv_8 (fun c_9 => ?_) (fun c_9 => ?_)
        · refine z_iinc (lv' := [(5, .int (iI (i + 1))), (0, .ref a), (1, .ref o), (2, .int (iI fr)), (3, .ref o2), (4, .int (iI fr2))]) F dX0_pairsAreAlike_46 hl (k := 0) rfl (by decide) rfl (fun ls hl => ?_)
          refine z_goto (tgt := 3) F dX0_pairsAreAlike_49 (by decide) ?_
          exact ih3 (i + 1) H locs ls ⟨by omega, by omega⟩ (by omega) (ix_step (P := fun j => tg t (lc.2 j 0).toNat = tg u (lc.2 j 1).toNat) hno (by omega) (by rw [← hc24, ← hc40]; congr 1)) (by omega) hH hS (lv_sub hl [0, 1, 2, 3, 4, 5] rfl)
        · refine z_iconst F dX0_pairsAreAlike_44 ?_
          exact g_zret F hr hlk hH hS hz (by omega) ⟨rfl, rfl, rfl, rfl, rfl, rfl, by first | omega | rfl | (dsimp only; omega), tIz_f (fun h9 => by have h8 := h9 i.toNat (by omega); rw [← hc24, ← hc40] at h8; exact absurd ((iI_eq zv_6 zv_8).mp h8) (by omega))⟩ dX0_pairsAreAlike_45
  exact cut_3_0 (((8 - 0) + 1 : Int).toNat) 0 H locs ls ⟨by decide, by decide⟩ (by omega) (fun j hj => absurd hj (by omega)) (by omega) hH hS (lv_sub hl [0, 1, 2, 3, 4, 5] rfl)
